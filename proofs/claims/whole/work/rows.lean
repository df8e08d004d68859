section
-- ===== PART A: goes FIRST, ahead of the names: the tables' words, and 'selects' of the private methods out of them =====
/-- a private method of a class that the tables say can be made, by its rows of tables_1 -/
def lw_okq (q : MethodName × Nat) : Prop := (q.1.cls ≠ "java/lang/invoke/MethodHandle" ∧ q.1.cls ≠ "java/lang/invoke/VarHandle") ∧ Cond.instantiable q.1.cls q.2 ∈ tables_1 ∧ Cond.privateMethod q.1 ∈ tables_1 ∧ Cond.instanceMethod q.1 ∈ tables_1
theorem lw_p0 : lw_okq (⟨"BellWaves", "found", "(I)I"⟩, 11) := ⟨⟨by decide +kernel, by decide +kernel⟩, List.mem_of_getElem? (i := 19) (by decide +kernel), List.mem_of_getElem? (i := 404) (by decide +kernel), List.mem_of_getElem? (i := 405) (by decide +kernel)⟩
theorem lw_p1 : lw_okq (⟨"BellWaves", "plansFall", "()V"⟩, 11) := ⟨⟨by decide +kernel, by decide +kernel⟩, List.mem_of_getElem? (i := 19) (by decide +kernel), List.mem_of_getElem? (i := 425) (by decide +kernel), List.mem_of_getElem? (i := 426) (by decide +kernel)⟩
theorem lw_p2 : lw_okq (⟨"BellWaves$Town", "measure", "([[II)V"⟩, 9) := ⟨⟨by decide +kernel, by decide +kernel⟩, List.mem_of_getElem? (i := 33) (by decide +kernel), List.mem_of_getElem? (i := 449) (by decide +kernel), List.mem_of_getElem? (i := 450) (by decide +kernel)⟩
theorem lw_p3 : lw_okq (⟨"BellWaves", "drawPlans", "()V"⟩, 11) := ⟨⟨by decide +kernel, by decide +kernel⟩, List.mem_of_getElem? (i := 19) (by decide +kernel), List.mem_of_getElem? (i := 541) (by decide +kernel), List.mem_of_getElem? (i := 542) (by decide +kernel)⟩
theorem lw_p4 : lw_okq (⟨"BellWaves$Planner", "collect", "(LBellWaves$District;I)V"⟩, 9) := ⟨⟨by decide +kernel, by decide +kernel⟩, List.mem_of_getElem? (i := 545) (by decide +kernel), List.mem_of_getElem? (i := 584) (by decide +kernel), List.mem_of_getElem? (i := 585) (by decide +kernel)⟩
theorem lw_p5 : lw_okq (⟨"BellWaves$Planner", "load", "(I)I"⟩, 9) := ⟨⟨by decide +kernel, by decide +kernel⟩, List.mem_of_getElem? (i := 545) (by decide +kernel), List.mem_of_getElem? (i := 590) (by decide +kernel), List.mem_of_getElem? (i := 591) (by decide +kernel)⟩
theorem lw_p6 : lw_okq (⟨"BellWaves$Planner", "shortest", "(I)I"⟩, 9) := ⟨⟨by decide +kernel, by decide +kernel⟩, List.mem_of_getElem? (i := 545) (by decide +kernel), List.mem_of_getElem? (i := 597) (by decide +kernel), List.mem_of_getElem? (i := 598) (by decide +kernel)⟩
theorem lw_p7 : lw_okq (⟨"BellWaves$Planner", "shortestFrom", "(II)I"⟩, 9) := ⟨⟨by decide +kernel, by decide +kernel⟩, List.mem_of_getElem? (i := 545) (by decide +kernel), List.mem_of_getElem? (i := 601) (by decide +kernel), List.mem_of_getElem? (i := 602) (by decide +kernel)⟩
theorem lw_p8 : lw_okq (⟨"BellWaves$Planner", "part", "(I)V"⟩, 9) := ⟨⟨by decide +kernel, by decide +kernel⟩, List.mem_of_getElem? (i := 545) (by decide +kernel), List.mem_of_getElem? (i := 607) (by decide +kernel), List.mem_of_getElem? (i := 608) (by decide +kernel)⟩
theorem lw_p9 : lw_okq (⟨"BellWaves$Planner", "record", "(LBellWaves$School;I)V"⟩, 9) := ⟨⟨by decide +kernel, by decide +kernel⟩, List.mem_of_getElem? (i := 545) (by decide +kernel), List.mem_of_getElem? (i := 611) (by decide +kernel), List.mem_of_getElem? (i := 612) (by decide +kernel)⟩
theorem lw_p10 : lw_okq (⟨"BellWaves$Planner", "recordRoute", "(LBellWaves$School;I)V"⟩, 9) := ⟨⟨by decide +kernel, by decide +kernel⟩, List.mem_of_getElem? (i := 545) (by decide +kernel), List.mem_of_getElem? (i := 615) (by decide +kernel), List.mem_of_getElem? (i := 616) (by decide +kernel)⟩
theorem lw_p11 : lw_okq (⟨"BellWaves$Planner", "firstWith", "(III)I"⟩, 9) := ⟨⟨by decide +kernel, by decide +kernel⟩, List.mem_of_getElem? (i := 545) (by decide +kernel), List.mem_of_getElem? (i := 619) (by decide +kernel), List.mem_of_getElem? (i := 620) (by decide +kernel)⟩
theorem lw_p12 : lw_okq (⟨"BellWaves", "linkChains", "()Z"⟩, 11) := ⟨⟨by decide +kernel, by decide +kernel⟩, List.mem_of_getElem? (i := 19) (by decide +kernel), List.mem_of_getElem? (i := 697) (by decide +kernel), List.mem_of_getElem? (i := 698) (by decide +kernel)⟩
theorem lw_p13 : lw_okq (⟨"BellWaves$Fleet", "fillMatcher", "([I)V"⟩, 9) := ⟨⟨by decide +kernel, by decide +kernel⟩, List.mem_of_getElem? (i := 205) (by decide +kernel), List.mem_of_getElem? (i := 705) (by decide +kernel), List.mem_of_getElem? (i := 706) (by decide +kernel)⟩
theorem lw_p14 : lw_okq (⟨"BellWaves$Matcher", "gains", "(II)Z"⟩, 6) := ⟨⟨by decide +kernel, by decide +kernel⟩, List.mem_of_getElem? (i := 212) (by decide +kernel), List.mem_of_getElem? (i := 715) (by decide +kernel), List.mem_of_getElem? (i := 716) (by decide +kernel)⟩
theorem lw_p15 : lw_okq (⟨"BellWaves$Matcher", "move", "(I)V"⟩, 6) := ⟨⟨by decide +kernel, by decide +kernel⟩, List.mem_of_getElem? (i := 212) (by decide +kernel), List.mem_of_getElem? (i := 719) (by decide +kernel), List.mem_of_getElem? (i := 720) (by decide +kernel)⟩
def lw_privs_1 : List (MethodName × Nat) := [(⟨"BellWaves", "found", "(I)I"⟩, 11), (⟨"BellWaves", "plansFall", "()V"⟩, 11), (⟨"BellWaves$Town", "measure", "([[II)V"⟩, 9), (⟨"BellWaves", "drawPlans", "()V"⟩, 11), (⟨"BellWaves$Planner", "collect", "(LBellWaves$District;I)V"⟩, 9), (⟨"BellWaves$Planner", "load", "(I)I"⟩, 9), (⟨"BellWaves$Planner", "shortest", "(I)I"⟩, 9), (⟨"BellWaves$Planner", "shortestFrom", "(II)I"⟩, 9), (⟨"BellWaves$Planner", "part", "(I)V"⟩, 9), (⟨"BellWaves$Planner", "record", "(LBellWaves$School;I)V"⟩, 9), (⟨"BellWaves$Planner", "recordRoute", "(LBellWaves$School;I)V"⟩, 9), (⟨"BellWaves$Planner", "firstWith", "(III)I"⟩, 9), (⟨"BellWaves", "linkChains", "()Z"⟩, 11), (⟨"BellWaves$Fleet", "fillMatcher", "([I)V"⟩, 9), (⟨"BellWaves$Matcher", "gains", "(II)Z"⟩, 6), (⟨"BellWaves$Matcher", "move", "(I)V"⟩, 6)]
theorem lw_r1 : ∀ q ∈ lw_privs_1, lw_okq q := List.forall_mem_cons.mpr ⟨lw_p0, List.forall_mem_cons.mpr ⟨lw_p1, List.forall_mem_cons.mpr ⟨lw_p2, List.forall_mem_cons.mpr ⟨lw_p3, List.forall_mem_cons.mpr ⟨lw_p4, List.forall_mem_cons.mpr ⟨lw_p5, List.forall_mem_cons.mpr ⟨lw_p6, List.forall_mem_cons.mpr ⟨lw_p7, List.forall_mem_cons.mpr ⟨lw_p8, List.forall_mem_cons.mpr ⟨lw_p9, List.forall_mem_cons.mpr ⟨lw_p10, List.forall_mem_cons.mpr ⟨lw_p11, List.forall_mem_cons.mpr ⟨lw_p12, List.forall_mem_cons.mpr ⟨lw_p13, List.forall_mem_cons.mpr ⟨lw_p14, List.forall_mem_cons.mpr ⟨lw_p15, fun _ h => absurd h List.not_mem_nil⟩⟩⟩⟩⟩⟩⟩⟩⟩⟩⟩⟩⟩⟩⟩⟩
theorem lw_p16 : lw_okq (⟨"BellWaves$Fleet", "drivesSpecial", "(LBellWaves$District;I)Z"⟩, 9) := ⟨⟨by decide +kernel, by decide +kernel⟩, List.mem_of_getElem? (i := 205) (by decide +kernel), List.mem_of_getElem? (i := 753) (by decide +kernel), List.mem_of_getElem? (i := 754) (by decide +kernel)⟩
theorem lw_p17 : lw_okq (⟨"BellWaves$Rules", "canStand", "(I)Z"⟩, 6) := ⟨⟨by decide +kernel, by decide +kernel⟩, List.mem_of_getElem? (i := 273) (by decide +kernel), List.mem_of_getElem? (i := 773) (by decide +kernel), List.mem_of_getElem? (i := 774) (by decide +kernel)⟩
theorem lw_p18 : lw_okq (⟨"BellWaves", "weighTrades", "()Z"⟩, 11) := ⟨⟨by decide +kernel, by decide +kernel⟩, List.mem_of_getElem? (i := 19) (by decide +kernel), List.mem_of_getElem? (i := 811) (by decide +kernel), List.mem_of_getElem? (i := 812) (by decide +kernel)⟩
theorem lw_p19 : lw_okq (⟨"BellWaves$Market", "decode", "(I)V"⟩, 7) := ⟨⟨by decide +kernel, by decide +kernel⟩, List.mem_of_getElem? (i := 300) (by decide +kernel), List.mem_of_getElem? (i := 823) (by decide +kernel), List.mem_of_getElem? (i := 824) (by decide +kernel)⟩
theorem lw_p20 : lw_okq (⟨"BellWaves$Market", "priceOfBells", "()I"⟩, 7) := ⟨⟨by decide +kernel, by decide +kernel⟩, List.mem_of_getElem? (i := 300) (by decide +kernel), List.mem_of_getElem? (i := 827) (by decide +kernel), List.mem_of_getElem? (i := 828) (by decide +kernel)⟩
theorem lw_p21 : lw_okq (⟨"BellWaves$Market", "note", "(III)V"⟩, 7) := ⟨⟨by decide +kernel, by decide +kernel⟩, List.mem_of_getElem? (i := 300) (by decide +kernel), List.mem_of_getElem? (i := 835) (by decide +kernel), List.mem_of_getElem? (i := 836) (by decide +kernel)⟩
theorem lw_p22 : lw_okq (⟨"BellWaves$Market", "list", "()V"⟩, 7) := ⟨⟨by decide +kernel, by decide +kernel⟩, List.mem_of_getElem? (i := 300) (by decide +kernel), List.mem_of_getElem? (i := 839) (by decide +kernel), List.mem_of_getElem? (i := 840) (by decide +kernel)⟩
theorem lw_p23 : lw_okq (⟨"BellWaves$Morning", "driveBus", "(LBellWaves$District;LBellWaves$Fleet;III[[I)V"⟩, 2) := ⟨⟨by decide +kernel, by decide +kernel⟩, List.mem_of_getElem? (i := 330) (by decide +kernel), List.mem_of_getElem? (i := 879) (by decide +kernel), List.mem_of_getElem? (i := 880) (by decide +kernel)⟩
theorem lw_p24 : lw_okq (⟨"BellWavesModel", "finds", "(I)I"⟩, 61) := ⟨⟨by decide +kernel, by decide +kernel⟩, List.mem_of_getElem? (i := 967) (by decide +kernel), List.mem_of_getElem? (i := 1162) (by decide +kernel), List.mem_of_getElem? (i := 1163) (by decide +kernel)⟩
theorem lw_p25 : lw_okq (⟨"BellWavesModel", "isCorner", "(I)Z"⟩, 61) := ⟨⟨by decide +kernel, by decide +kernel⟩, List.mem_of_getElem? (i := 967) (by decide +kernel), List.mem_of_getElem? (i := 1170) (by decide +kernel), List.mem_of_getElem? (i := 1171) (by decide +kernel)⟩
theorem lw_p26 : lw_okq (⟨"BellWavesModel", "another", "()V"⟩, 61) := ⟨⟨by decide +kernel, by decide +kernel⟩, List.mem_of_getElem? (i := 967) (by decide +kernel), List.mem_of_getElem? (i := 1178) (by decide +kernel), List.mem_of_getElem? (i := 1179) (by decide +kernel)⟩
theorem lw_p27 : lw_okq (⟨"BellWavesModel", "findFars", "(I)V"⟩, 61) := ⟨⟨by decide +kernel, by decide +kernel⟩, List.mem_of_getElem? (i := 967) (by decide +kernel), List.mem_of_getElem? (i := 1190) (by decide +kernel), List.mem_of_getElem? (i := 1191) (by decide +kernel)⟩
theorem lw_p28 : lw_okq (⟨"BellWavesModel", "isSchool", "(I)Z"⟩, 61) := ⟨⟨by decide +kernel, by decide +kernel⟩, List.mem_of_getElem? (i := 967) (by decide +kernel), List.mem_of_getElem? (i := 1204) (by decide +kernel), List.mem_of_getElem? (i := 1205) (by decide +kernel)⟩
theorem lw_p29 : lw_okq (⟨"BellWavesModel", "stopsOf", "(I)I"⟩, 61) := ⟨⟨by decide +kernel, by decide +kernel⟩, List.mem_of_getElem? (i := 967) (by decide +kernel), List.mem_of_getElem? (i := 1216) (by decide +kernel), List.mem_of_getElem? (i := 1217) (by decide +kernel)⟩
theorem lw_p30 : lw_okq (⟨"BellWavesModel", "pupilsOf", "(I)I"⟩, 61) := ⟨⟨by decide +kernel, by decide +kernel⟩, List.mem_of_getElem? (i := 967) (by decide +kernel), List.mem_of_getElem? (i := 1223) (by decide +kernel), List.mem_of_getElem? (i := 1224) (by decide +kernel)⟩
theorem lw_p31 : lw_okq (⟨"BellWavesModel", "mayTake", "(I)I"⟩, 61) := ⟨⟨by decide +kernel, by decide +kernel⟩, List.mem_of_getElem? (i := 967) (by decide +kernel), List.mem_of_getElem? (i := 1230) (by decide +kernel), List.mem_of_getElem? (i := 1231) (by decide +kernel)⟩
def lw_privs_2 : List (MethodName × Nat) := [(⟨"BellWaves$Fleet", "drivesSpecial", "(LBellWaves$District;I)Z"⟩, 9), (⟨"BellWaves$Rules", "canStand", "(I)Z"⟩, 6), (⟨"BellWaves", "weighTrades", "()Z"⟩, 11), (⟨"BellWaves$Market", "decode", "(I)V"⟩, 7), (⟨"BellWaves$Market", "priceOfBells", "()I"⟩, 7), (⟨"BellWaves$Market", "note", "(III)V"⟩, 7), (⟨"BellWaves$Market", "list", "()V"⟩, 7), (⟨"BellWaves$Morning", "driveBus", "(LBellWaves$District;LBellWaves$Fleet;III[[I)V"⟩, 2), (⟨"BellWavesModel", "finds", "(I)I"⟩, 61), (⟨"BellWavesModel", "isCorner", "(I)Z"⟩, 61), (⟨"BellWavesModel", "another", "()V"⟩, 61), (⟨"BellWavesModel", "findFars", "(I)V"⟩, 61), (⟨"BellWavesModel", "isSchool", "(I)Z"⟩, 61), (⟨"BellWavesModel", "stopsOf", "(I)I"⟩, 61), (⟨"BellWavesModel", "pupilsOf", "(I)I"⟩, 61), (⟨"BellWavesModel", "mayTake", "(I)I"⟩, 61)]
theorem lw_r2 : ∀ q ∈ lw_privs_2, lw_okq q := List.forall_mem_cons.mpr ⟨lw_p16, List.forall_mem_cons.mpr ⟨lw_p17, List.forall_mem_cons.mpr ⟨lw_p18, List.forall_mem_cons.mpr ⟨lw_p19, List.forall_mem_cons.mpr ⟨lw_p20, List.forall_mem_cons.mpr ⟨lw_p21, List.forall_mem_cons.mpr ⟨lw_p22, List.forall_mem_cons.mpr ⟨lw_p23, List.forall_mem_cons.mpr ⟨lw_p24, List.forall_mem_cons.mpr ⟨lw_p25, List.forall_mem_cons.mpr ⟨lw_p26, List.forall_mem_cons.mpr ⟨lw_p27, List.forall_mem_cons.mpr ⟨lw_p28, List.forall_mem_cons.mpr ⟨lw_p29, List.forall_mem_cons.mpr ⟨lw_p30, List.forall_mem_cons.mpr ⟨lw_p31, fun _ h => absurd h List.not_mem_nil⟩⟩⟩⟩⟩⟩⟩⟩⟩⟩⟩⟩⟩⟩⟩⟩
theorem lw_p32 : lw_okq (⟨"BellWavesModel", "isStop", "(I)Z"⟩, 61) := ⟨⟨by decide +kernel, by decide +kernel⟩, List.mem_of_getElem? (i := 967) (by decide +kernel), List.mem_of_getElem? (i := 1250) (by decide +kernel), List.mem_of_getElem? (i := 1251) (by decide +kernel)⟩
theorem lw_p33 : lw_okq (⟨"BellWavesModel", "plan", "()V"⟩, 61) := ⟨⟨by decide +kernel, by decide +kernel⟩, List.mem_of_getElem? (i := 967) (by decide +kernel), List.mem_of_getElem? (i := 1266) (by decide +kernel), List.mem_of_getElem? (i := 1267) (by decide +kernel)⟩
theorem lw_p34 : lw_okq (⟨"BellWavesModel", "lengths", "(II)V"⟩, 61) := ⟨⟨by decide +kernel, by decide +kernel⟩, List.mem_of_getElem? (i := 967) (by decide +kernel), List.mem_of_getElem? (i := 1270) (by decide +kernel), List.mem_of_getElem? (i := 1271) (by decide +kernel)⟩
theorem lw_p35 : lw_okq (⟨"BellWavesModel", "part", "(II)V"⟩, 61) := ⟨⟨by decide +kernel, by decide +kernel⟩, List.mem_of_getElem? (i := 967) (by decide +kernel), List.mem_of_getElem? (i := 1274) (by decide +kernel), List.mem_of_getElem? (i := 1275) (by decide +kernel)⟩
theorem lw_p36 : lw_okq (⟨"BellWavesModel", "isRoute", "(II)Z"⟩, 61) := ⟨⟨by decide +kernel, by decide +kernel⟩, List.mem_of_getElem? (i := 967) (by decide +kernel), List.mem_of_getElem? (i := 1278) (by decide +kernel), List.mem_of_getElem? (i := 1279) (by decide +kernel)⟩
theorem lw_p37 : lw_okq (⟨"BellWavesModel", "stopOf", "(II)I"⟩, 61) := ⟨⟨by decide +kernel, by decide +kernel⟩, List.mem_of_getElem? (i := 967) (by decide +kernel), List.mem_of_getElem? (i := 1286) (by decide +kernel), List.mem_of_getElem? (i := 1287) (by decide +kernel)⟩
theorem lw_p38 : lw_okq (⟨"BellWavesModel", "nextStop", "(II)I"⟩, 61) := ⟨⟨by decide +kernel, by decide +kernel⟩, List.mem_of_getElem? (i := 967) (by decide +kernel), List.mem_of_getElem? (i := 1290) (by decide +kernel), List.mem_of_getElem? (i := 1291) (by decide +kernel)⟩
theorem lw_p39 : lw_okq (⟨"BellWavesModel", "rideOf", "(I)I"⟩, 61) := ⟨⟨by decide +kernel, by decide +kernel⟩, List.mem_of_getElem? (i := 967) (by decide +kernel), List.mem_of_getElem? (i := 1298) (by decide +kernel), List.mem_of_getElem? (i := 1299) (by decide +kernel)⟩
theorem lw_p40 : lw_okq (⟨"BellWavesModel", "asTheyAre", "()V"⟩, 61) := ⟨⟨by decide +kernel, by decide +kernel⟩, List.mem_of_getElem? (i := 967) (by decide +kernel), List.mem_of_getElem? (i := 1310) (by decide +kernel), List.mem_of_getElem? (i := 1311) (by decide +kernel)⟩
theorem lw_p41 : lw_okq (⟨"BellWavesModel", "startOf", "(I)I"⟩, 61) := ⟨⟨by decide +kernel, by decide +kernel⟩, List.mem_of_getElem? (i := 967) (by decide +kernel), List.mem_of_getElem? (i := 1314) (by decide +kernel), List.mem_of_getElem? (i := 1315) (by decide +kernel)⟩
theorem lw_p42 : lw_okq (⟨"BellWavesModel", "canFollow", "(II)Z"⟩, 61) := ⟨⟨by decide +kernel, by decide +kernel⟩, List.mem_of_getElem? (i := 967) (by decide +kernel), List.mem_of_getElem? (i := 1325) (by decide +kernel), List.mem_of_getElem? (i := 1326) (by decide +kernel)⟩
theorem lw_p43 : lw_okq (⟨"BellWavesModel", "findChains", "()V"⟩, 61) := ⟨⟨by decide +kernel, by decide +kernel⟩, List.mem_of_getElem? (i := 967) (by decide +kernel), List.mem_of_getElem? (i := 1333) (by decide +kernel), List.mem_of_getElem? (i := 1334) (by decide +kernel)⟩
theorem lw_p44 : lw_okq (⟨"BellWavesModel", "findMay", "()V"⟩, 61) := ⟨⟨by decide +kernel, by decide +kernel⟩, List.mem_of_getElem? (i := 967) (by decide +kernel), List.mem_of_getElem? (i := 1337) (by decide +kernel), List.mem_of_getElem? (i := 1338) (by decide +kernel)⟩
theorem lw_p45 : lw_okq (⟨"BellWavesModel", "isFirst", "(I)Z"⟩, 61) := ⟨⟨by decide +kernel, by decide +kernel⟩, List.mem_of_getElem? (i := 967) (by decide +kernel), List.mem_of_getElem? (i := 1345) (by decide +kernel), List.mem_of_getElem? (i := 1346) (by decide +kernel)⟩
theorem lw_p46 : lw_okq (⟨"BellWavesModel", "mayStand", "(I)Z"⟩, 61) := ⟨⟨by decide +kernel, by decide +kernel⟩, List.mem_of_getElem? (i := 967) (by decide +kernel), List.mem_of_getElem? (i := 1362) (by decide +kernel), List.mem_of_getElem? (i := 1363) (by decide +kernel)⟩
theorem lw_p47 : lw_okq (⟨"BellWavesModel", "isAllowed", "(II)Z"⟩, 61) := ⟨⟨by decide +kernel, by decide +kernel⟩, List.mem_of_getElem? (i := 967) (by decide +kernel), List.mem_of_getElem? (i := 1374) (by decide +kernel), List.mem_of_getElem? (i := 1375) (by decide +kernel)⟩
def lw_privs_3 : List (MethodName × Nat) := [(⟨"BellWavesModel", "isStop", "(I)Z"⟩, 61), (⟨"BellWavesModel", "plan", "()V"⟩, 61), (⟨"BellWavesModel", "lengths", "(II)V"⟩, 61), (⟨"BellWavesModel", "part", "(II)V"⟩, 61), (⟨"BellWavesModel", "isRoute", "(II)Z"⟩, 61), (⟨"BellWavesModel", "stopOf", "(II)I"⟩, 61), (⟨"BellWavesModel", "nextStop", "(II)I"⟩, 61), (⟨"BellWavesModel", "rideOf", "(I)I"⟩, 61), (⟨"BellWavesModel", "asTheyAre", "()V"⟩, 61), (⟨"BellWavesModel", "startOf", "(I)I"⟩, 61), (⟨"BellWavesModel", "canFollow", "(II)Z"⟩, 61), (⟨"BellWavesModel", "findChains", "()V"⟩, 61), (⟨"BellWavesModel", "findMay", "()V"⟩, 61), (⟨"BellWavesModel", "isFirst", "(I)Z"⟩, 61), (⟨"BellWavesModel", "mayStand", "(I)Z"⟩, 61), (⟨"BellWavesModel", "isAllowed", "(II)Z"⟩, 61)]
theorem lw_r3 : ∀ q ∈ lw_privs_3, lw_okq q := List.forall_mem_cons.mpr ⟨lw_p32, List.forall_mem_cons.mpr ⟨lw_p33, List.forall_mem_cons.mpr ⟨lw_p34, List.forall_mem_cons.mpr ⟨lw_p35, List.forall_mem_cons.mpr ⟨lw_p36, List.forall_mem_cons.mpr ⟨lw_p37, List.forall_mem_cons.mpr ⟨lw_p38, List.forall_mem_cons.mpr ⟨lw_p39, List.forall_mem_cons.mpr ⟨lw_p40, List.forall_mem_cons.mpr ⟨lw_p41, List.forall_mem_cons.mpr ⟨lw_p42, List.forall_mem_cons.mpr ⟨lw_p43, List.forall_mem_cons.mpr ⟨lw_p44, List.forall_mem_cons.mpr ⟨lw_p45, List.forall_mem_cons.mpr ⟨lw_p46, List.forall_mem_cons.mpr ⟨lw_p47, fun _ h => absurd h List.not_mem_nil⟩⟩⟩⟩⟩⟩⟩⟩⟩⟩⟩⟩⟩⟩⟩⟩
theorem lw_p48 : lw_okq (⟨"BellWavesModel", "costOf", "()I"⟩, 61) := ⟨⟨by decide +kernel, by decide +kernel⟩, List.mem_of_getElem? (i := 967) (by decide +kernel), List.mem_of_getElem? (i := 1382) (by decide +kernel), List.mem_of_getElem? (i := 1383) (by decide +kernel)⟩
theorem lw_p49 : lw_okq (⟨"BellWavesModel", "findTrades", "()Z"⟩, 61) := ⟨⟨by decide +kernel, by decide +kernel⟩, List.mem_of_getElem? (i := 967) (by decide +kernel), List.mem_of_getElem? (i := 1390) (by decide +kernel), List.mem_of_getElem? (i := 1391) (by decide +kernel)⟩
theorem lw_p50 : lw_okq (⟨"BellWavesModel", "fewest", "()I"⟩, 61) := ⟨⟨by decide +kernel, by decide +kernel⟩, List.mem_of_getElem? (i := 967) (by decide +kernel), List.mem_of_getElem? (i := 1395) (by decide +kernel), List.mem_of_getElem? (i := 1396) (by decide +kernel)⟩
theorem lw_p51 : lw_okq (⟨"BellWavesModel", "isFound", "(I)Z"⟩, 61) := ⟨⟨by decide +kernel, by decide +kernel⟩, List.mem_of_getElem? (i := 967) (by decide +kernel), List.mem_of_getElem? (i := 1399) (by decide +kernel), List.mem_of_getElem? (i := 1400) (by decide +kernel)⟩
theorem lw_p52 : lw_okq (⟨"BellWavesModel", "turn", "(II)V"⟩, 61) := ⟨⟨by decide +kernel, by decide +kernel⟩, List.mem_of_getElem? (i := 967) (by decide +kernel), List.mem_of_getElem? (i := 1403) (by decide +kernel), List.mem_of_getElem? (i := 1404) (by decide +kernel)⟩
theorem lw_p53 : lw_okq (⟨"BellWavesModel", "withSnow", "(I)I"⟩, 61) := ⟨⟨by decide +kernel, by decide +kernel⟩, List.mem_of_getElem? (i := 967) (by decide +kernel), List.mem_of_getElem? (i := 1419) (by decide +kernel), List.mem_of_getElem? (i := 1420) (by decide +kernel)⟩
def lw_privs_4 : List (MethodName × Nat) := [(⟨"BellWavesModel", "costOf", "()I"⟩, 61), (⟨"BellWavesModel", "findTrades", "()Z"⟩, 61), (⟨"BellWavesModel", "fewest", "()I"⟩, 61), (⟨"BellWavesModel", "isFound", "(I)Z"⟩, 61), (⟨"BellWavesModel", "turn", "(II)V"⟩, 61), (⟨"BellWavesModel", "withSnow", "(I)I"⟩, 61)]
theorem lw_r4 : ∀ q ∈ lw_privs_4, lw_okq q := List.forall_mem_cons.mpr ⟨lw_p48, List.forall_mem_cons.mpr ⟨lw_p49, List.forall_mem_cons.mpr ⟨lw_p50, List.forall_mem_cons.mpr ⟨lw_p51, List.forall_mem_cons.mpr ⟨lw_p52, List.forall_mem_cons.mpr ⟨lw_p53, fun _ h => absurd h List.not_mem_nil⟩⟩⟩⟩⟩⟩
def lw_privs : List (MethodName × Nat) := lw_privs_1 ++ (lw_privs_2 ++ (lw_privs_3 ++ (lw_privs_4)))
def lw_tbl : List Cond := k2_sels lw_privs ++ tables_1
theorem lw_privs_ok : ∀ q ∈ lw_privs, lw_okq q := by
  show ∀ q ∈ lw_privs_1 ++ (lw_privs_2 ++ (lw_privs_3 ++ (lw_privs_4))), lw_okq q
  exact List.forall_mem_append.mpr ⟨lw_r1, List.forall_mem_append.mpr ⟨lw_r2, List.forall_mem_append.mpr ⟨lw_r3, lw_r4⟩⟩⟩
def va_AOA (ty : FieldType) (U : State) : Prop := (Cond.arrayOver (.array ty)).before #[] U = true
theorem va_AOA.use {ty : FieldType} {A : Array Value} {U : State} (h : va_AOA ty U) : (Cond.arrayOver (.array ty)).before A U = true := h
theorem va_AOA.moved {ty : FieldType} {u U : State} (hvm : u.vm.Alike U.vm) (h : va_AOA ty u) : va_AOA ty U := over_moved hvm h
/-! ===== BEGIN words of one list among another's, by their places ===== -/
theorem goodIn_r {big : List Cond} (ws : List Cond) (ps : List Nat) (hp : ws = ps.filterMap (fun i => big[i]?)) (h : ws.all goodWord = true) : GoodIn big ws := by
  intro w hw
  have h1 := List.all_eq_true.mp h w hw
  rw [hp] at hw
  obtain ⟨i, -, hi⟩ := List.mem_filterMap.mp hw
  have hm : w ∈ big := by first | exact List.mem_of_getElem? hi | exact List.getElem?_mem hi
  exact ⟨hm, good_of_word h1⟩
theorem goodIn_app {big a b : List Cond} (ha : GoodIn big a) (hb : GoodIn big b) : GoodIn big (a ++ b) := fun w h => (List.mem_append.mp h).elim (ha w) (hb w)
theorem goodIn_ca {big a b : List Cond} {c : Cond} (ha : GoodIn big (c :: a)) (hb : GoodIn big b) : GoodIn big (c :: (a ++ b)) := fun w h => (List.mem_cons.mp h).elim (fun e => ha w (List.mem_cons.mpr (Or.inl e))) (fun h => (List.mem_append.mp h).elim (fun h => ha w (List.mem_cons.mpr (Or.inr h))) (hb w))
theorem goodIn_sub {big ws : List Cond} (hm : ∀ w ∈ ws, w ∈ big) (h : ws.all goodWord = true) : GoodIn big ws := fun w hw => ⟨hm w hw, good_of_word (List.all_eq_true.mp h w hw)⟩
/-! ===== END ===== -/

/-! ===== BEGIN new T[n][m]: the outer array a place, the inner ones among the pooled ===== -/
/-- f, but v at every address of l -/
def vr_up {α : Type} (f : Nat → α) (l : List Nat) (v : α) : Nat → α := fun a => if a ∈ l then v else f a
theorem vr_up_in {α : Type} {f : Nat → α} {l : List Nat} {v : α} {a : Nat} (h : a ∈ l) : vr_up f l v a = v := if_pos h
theorem vr_up_ne {α : Type} {f : Nat → α} {l : List Nat} {v : α} {a : Nat} (h : a ∉ l) : vr_up f l v a = f a := if_neg h
theorem vr_rows {L l : List Nat} {f : Nat → va_E} {e : va_E} (h : ∀ a, a ∈ l → a ∉ L) : va_pl L f ++ l.map (fun a => (a, e)) = va_pl (L ++ l) (vr_up f l e) := by
  unfold va_pl
  rw [List.map_append]
  congr 1
  · apply List.map_congr_left
    intro a ha
    rw [vr_up_ne (fun q => h a q ha)]
  · apply List.map_congr_left
    intro a ha
    rw [vr_up_in ha]
theorem vr_lay {X rows : va_W} {x : Nat × va_E} {pl : va_W} {D : va_G} {cl : List vw_C} {H : Heap} (hP : va_P D cl (((X ++ pl) ++ [x]) ++ rows) H) : va_P D cl ((X ++ [x]) ++ (pl ++ rows)) H := by
  rw [List.append_assoc (X ++ pl)] at hP
  have h := va_P.swap hP
  rw [← List.append_assoc X] at h
  have h2 := va_P.swap h
  rw [List.append_assoc (X ++ [x])] at h2
  exact h2
theorem vr_layD {X rows : va_W} {x : Nat × va_E} {pl : va_W} {A : Nat → Prop} (hD : va_D A (((X ++ pl) ++ [x]) ++ rows)) : va_D A ((X ++ [x]) ++ (pl ++ rows)) := by
  rw [List.append_assoc (X ++ pl)] at hD
  have h := va_D.swap hD
  rw [← List.append_assoc X] at h
  have h2 := va_D.swap h
  rw [List.append_assoc (X ++ [x])] at h2
  exact h2
theorem vr_outer (c : ClassId) (N h0 : Nat) : ∀ i : Nat, Jvm.Free.Multi.outerC c N h0 i = arrV c N (fun j => va_rf (if j < i then some (h0 + 1 + j) else none))
  | 0 => by
    show ({ cls := c, slots := Array.replicate N .null, vm := .none } : Cell) = _
    rw [arrV_new]
    refine congrArg (arrV c N) (funext fun j => ?_)
    simp [va_rf]
  | i + 1 => by
    show (Jvm.Free.Multi.outerC c N h0 i).setSlot i (.ref (h0 + 1 + i)) = _
    rw [vr_outer c N h0 i, arrV_store]
    refine congrArg (arrV c N) (funext fun j => ?_)
    by_cases e : j = i
    · subst e
      simp [updV, va_rf]
    · by_cases h : j < i
      · simp [updV, e, h, Nat.lt_succ_of_lt h]
      · simp [updV, e, h, show ¬ j < i + 1 by omega]
section VGM
variable {p : Program} {l : Launch} {e : Env} {R : Room} {s : State} {m : MethodId} {args : Array Value} {below : List Frame} {meth : Method} {c : Code} {H : Heap} {locs : List Loc} {cells slots : Nat} {Q : State → Prop}
variable {cc : ByteArray} {pc : Nat} {ls : Array Slot} {rest : List Value} {D : va_G} {cl : List vw_C} {A : Nat → Prop} {a : Nat} {tys : List (ClassId × FieldType)} {ws : va_W} {H0 : Heap}
theorem va_mna {X : va_W} {L : List Nat} {f : Nat → va_E} {cc : ByteArray} (hexec : p.tables.exec = Jvm.exec) (hb : c.code = cc) {own : String} {index : Nat} {ty : FieldType} {cy : ClassId} (hown : s.vm.findClass own = some m.cls) (hclink : (Cond.classLink own index ("[" ++ (FieldType.array ty).toString)).before args s = true) (hover : va_AOA ty s) (harr : (Cond.arrayClass ty).before args s = true) (hcy : s.vm.findClass (FieldType.array ty).toString = some cy)
    (hK : va_K D cl tys s) (hP : va_P D cl (X ++ va_pl L f) H) (hD : va_D A (X ++ va_pl L f)) (hS : va_S A H0 H locs) (hA : ∀ q, H0.size ≤ q → A q) {n k : Int32} {N' K' : Nat} {z : vp_A} (hn : ¬ n < 0) (hk : ¬ k < 0) (hN : n.toNatClampNeg = N') (hM : k.toNatClampNeg = K')
    (hb1 : N' * 4 ≤ 536870912) (hb2 : K' * componentBytes ty ≤ 536870912) (hb3 : K' ≤ 536870912) (hdf : fits ty (defaultValue ty) = true) (hdd : (defaultValue ty).isDefault = true) (hcells : cells + (1 + N') ≤ R.cells) (hslots : slots + (N' + N' * K') ≤ R.slots) (hz : ∀ c : ClassId, Jvm.Free.Multi.innerC c K' (defaultValue ty) = vp_cell c z) (hdg : decode cc pc = .ok (.multianewarray index 2, 4))
    (kk : ∀ (q : Nat) (r : Nat → Nat) (cA : ClassId) (H1 : Heap), (∀ i j : Nat, i < N' → j < N' → r i = r j → i = j) → (∀ i : Nat, i < N' → r i ∉ L) → va_K D cl (tys ++ [(cA, .array ty)]) s →
      va_P D cl ((X ++ [(q, .inl (cA, N', .inr (.inr (.inr (.inr (fun i => if i < N' then some (r i) else none))))))]) ++ va_pl (L ++ (List.range N').map r) (vr_up f ((List.range N').map r) (.inl (cy, z)))) H1 → va_D A ((X ++ [(q, .inl (cA, N', .inr (.inr (.inr (.inr (fun i => if i < N' then some (r i) else none))))))]) ++ va_pl (L ++ (List.range N').map r) (vr_up f ((List.range N').map r) (.inl (cy, z)))) → va_S A H0 H1 locs →
      W p l e R s m args below meth c H1 locs (cells + 1 + N') (slots + N' + N' * K') Q (F0 m (pc + 4) ls (.ref q :: rest))) : W p l e R s m args below meth c H locs cells slots Q (F0 m pc ls (.int k :: .int n :: rest)) := by
  subst hN
  subst hM
  intro T hT Xs
  obtain ⟨vm₁, cA, comp, -, fA, fC, hO, -, X', step⟩ := Xs.multianewarray2F hexec hown hclink (va_AOA.use hover) harr (g := F0 m pc ls (.int k :: .int n :: rest)) rfl (by rw [hb]; exact hdg) rfl hn hk hb1 hb2 hb3 hdf hdd hcells hslots
  have ec : some cy = some comp := hcy.symm.trans fC
  cases ec
  generalize hF : Jvm.Free.Multi.fill (T.setVm vm₁) cA cy n.toNatClampNeg k.toNatClampNeg (defaultValue ty) n.toNatClampNeg = F at X' step
  have hTh : (T.setVm vm₁).heap = H := hT
  obtain ⟨f1, f2, -, -⟩ := Jvm.Free.Multi.fill_facts (T.setVm vm₁) cA cy n.toNatClampNeg k.toNatClampNeg (defaultValue ty) n.toNatClampNeg
  rw [hF, hTh] at f1 f2
  have hold : ∀ x : Nat, x < H.size → F.heap[x]? = H[x]? := fun x hx => by
    have := Jvm.Free.Multi.fill_old (T.setVm vm₁) cA cy n.toNatClampNeg k.toNatClampNeg (defaultValue ty) (a := x) (by rw [hTh]; exact hx) n.toNatClampNeg
    rw [hF, hTh] at this
    exact this
  have hrow : ∀ j : Nat, j < n.toNatClampNeg → F.heap[H.size + 1 + j]? = some (vp_cell cy z) := fun j hj => by
    have := Jvm.Free.Multi.fill_inner (T.setVm vm₁) cA cy n.toNatClampNeg k.toNatClampNeg (defaultValue ty) n.toNatClampNeg j hj
    rw [hF, hTh, hz] at this
    exact this
  have hout : Jvm.Free.Multi.outerC cA n.toNatClampNeg H.size n.toNatClampNeg = vp_cell cA (n.toNatClampNeg, .inr (.inr (.inr (.inr (fun i => if i < n.toNatClampNeg then some (H.size + 1 + i) else none))))) := by
    rw [vp_cell_q]
    exact vr_outer cA n.toNatClampNeg H.size n.toNatClampNeg
  rw [hout] at f2
  have hlt : ∀ a, a ∈ L → a < H.size := fun a ha => by
    obtain ⟨k9, hk9⟩ := va_pl_get (X := X) (f := f) ha
    exact (hP k9 _ hk9).lt
  have hnl : ∀ i : Nat, i < n.toNatClampNeg → H.size + 1 + i ∉ L := fun i _ h => by
    have := hlt _ h
    omega
  have hnm : ∀ a, a ∈ (List.range n.toNatClampNeg).map (fun i => H.size + 1 + i) → a ∉ L := fun a ha h => by
    obtain ⟨i, -, rfl⟩ := List.mem_map.mp ha
    have := hlt _ h
    omega
  have hP0 : va_P D cl (X ++ va_pl L f) F.heap := hP.kept (fun k9 x hx => hold x.1 ((hP k9 x hx).lt))
  have hP1 : va_P D cl ((X ++ va_pl L f) ++ [(H.size, .inl (cA, n.toNatClampNeg, .inr (.inr (.inr (.inr (fun i => if i < n.toNatClampNeg then some (H.size + 1 + i) else none))))))]) F.heap := hP0.app (fun k9 x hx => by
    have h0 : k9 < 1 := (List.getElem?_eq_some_iff.mp hx).1
    rw [show k9 = 0 by omega] at hx
    cases hx
    exact f2)
  have hP2 : va_P D cl (((X ++ va_pl L f) ++ [(H.size, .inl (cA, n.toNatClampNeg, .inr (.inr (.inr (.inr (fun i => if i < n.toNatClampNeg then some (H.size + 1 + i) else none))))))]) ++ ((List.range n.toNatClampNeg).map (fun i => H.size + 1 + i)).map (fun a => (a, .inl (cy, z)))) F.heap := hP1.app (fun k9 x hx => by
    obtain ⟨a, ha, rfl⟩ := List.mem_map.mp (List.mem_of_getElem? hx)
    obtain ⟨i, hi, rfl⟩ := List.mem_map.mp ha
    exact hrow i (List.mem_range.mp hi))
  have hD2 : va_D A (((X ++ va_pl L f) ++ [(H.size, .inl (cA, n.toNatClampNeg, .inr (.inr (.inr (.inr (fun i => if i < n.toNatClampNeg then some (H.size + 1 + i) else none))))))]) ++ ((List.range n.toNatClampNeg).map (fun i => H.size + 1 + i)).map (fun a => (a, .inl (cy, z)))) := by
    have hD1 := hD.push (e := .inl (cA, n.toNatClampNeg, .inr (.inr (.inr (.inr (fun i => if i < n.toNatClampNeg then some (H.size + 1 + i) else none)))))) hP rfl (hA _ hS.1)
    generalize hW1 : (X ++ va_pl L f) ++ [(H.size, .inl (cA, n.toNatClampNeg, .inr (.inr (.inr (.inr (fun i => if i < n.toNatClampNeg then some (H.size + 1 + i) else none))))))] = W1 at hD1 hP1 ⊢
    have hle : ∀ (k9 : Nat) (x : Nat × va_E), W1[k9]? = some x → x.1 ≤ H.size := fun k9 x hx => by
      rw [← hW1] at hx
      by_cases hl : k9 < (X ++ va_pl L f).length
      · rw [List.getElem?_append_left hl] at hx
        exact Nat.le_of_lt ((hP k9 x hx).lt)
      · rw [List.getElem?_append_right (by omega)] at hx
        have h0 : k9 - (X ++ va_pl L f).length < 1 := (List.getElem?_eq_some_iff.mp hx).1
        rw [show k9 - (X ++ va_pl L f).length = 0 by omega] at hx
        cases hx
        exact Nat.le_refl _
    have hr : ∀ (k9 : Nat) (x : Nat × va_E), (((List.range n.toNatClampNeg).map (fun i => H.size + 1 + i)).map (fun a => ((a, .inl (cy, z)) : Nat × va_E)))[k9]? = some x → x.1 = H.size + 1 + k9 := fun k9 x hx => by
      rw [List.getElem?_map, List.getElem?_map] at hx
      by_cases h9 : k9 < n.toNatClampNeg
      · rw [List.getElem?_range h9] at hx
        cases hx
        rfl
      · have hn0 : (List.range n.toNatClampNeg)[k9]? = none := List.getElem?_eq_none (by rw [List.length_range]; omega)
        rw [hn0] at hx
        cases hx
    refine ⟨fun i j x y hi hj hxy => ?_, fun k9 x hx => ?_⟩
    · by_cases h1 : i < W1.length <;> by_cases h2 : j < W1.length
      · rw [List.getElem?_append_left h1] at hi
        rw [List.getElem?_append_left h2] at hj
        exact hD1.1 i j x y hi hj hxy
      · rw [List.getElem?_append_left h1] at hi
        rw [List.getElem?_append_right (by omega)] at hj
        have := hle _ _ hi
        have := hr _ _ hj
        omega
      · rw [List.getElem?_append_right (by omega)] at hi
        rw [List.getElem?_append_left h2] at hj
        have := hle _ _ hj
        have := hr _ _ hi
        omega
      · rw [List.getElem?_append_right (by omega)] at hi hj
        have := hr _ _ hi
        have := hr _ _ hj
        omega
    · by_cases h1 : k9 < W1.length
      · rw [List.getElem?_append_left h1] at hx
        exact hD1.2 k9 x hx
      · rw [List.getElem?_append_right (by omega)] at hx
        have := hr _ _ hx
        exact hA _ (by have := hS.1; omega)
  have hAr : ArrOfT s cA (.array ty) := fun N9 z9 => by
    obtain ⟨-, k9, hk9, cm9, hkk9⟩ := (hO 0 0 0).1
    exact ⟨(fun q hq => by cases hq), k9, hk9, cm9, hkk9⟩
  have hK2 : va_K D cl (tys ++ [(cA, .array ty)]) s := ⟨hK.1, fun k9 x hx => by
    by_cases hl : k9 < tys.length
    · rw [List.getElem?_append_left hl] at hx
      exact hK.2 k9 x hx
    · rw [List.getElem?_append_right (by omega)] at hx
      have h0 : k9 - tys.length < 1 := (List.getElem?_eq_some_iff.mp hx).1
      rw [show k9 - tys.length = 0 by omega] at hx
      cases hx
      exact ⟨hAr, fA⟩⟩
  obtain ⟨t, a1, b1⟩ := kk H.size (fun i => H.size + 1 + i) cA F.heap (fun i j _ _ h => by have h9 : H.size + 1 + i = H.size + 1 + j := h; omega) hnl hK2 (by rw [← vr_rows hnm]; exact vr_lay hP2) (by rw [← vr_rows hnm]; exact vr_layD hD2) ⟨by rw [f1]; have := hS.1; omega, fun x h1 h2 => (hold x (Nat.lt_of_lt_of_le h1 hS.1)).trans (hS.2.1 x h1 h2), hS.2.2⟩ F rfl X'
  refine ⟨t, step t ?_, b1⟩
  have e : T.heap.size = H.size := by rw [hT]
  rw [e]
  exact a1
end VGM
/-! ===== END ===== -/
end
section
def RX0 : String := "BellWaves$District"
def TX0 : u_T := fun k => match k with
  | 0 => ("BellWaves$District", "town", "LBellWaves$Town;", true)
  | 1 => ("BellWaves$District", "schools", "[LBellWaves$School;", true)
  | 2 => ("BellWaves$District", "bells", "[I", true)
  | 3 => ("BellWaves$District", "stops", "[LBellWaves$Stop;", true)
  | 4 => ("BellWaves$District", "schoolCount", "I", false)
  | 5 => ("BellWaves$District", "stopCount", "I", false)
  | 6 => ("BellWaves$District", "seats", "I", false)
  | 7 => ("BellWaves$District", "ride", "I", false)
  | _ => ("BellWaves$District", "slack", "I", false)
def tyX0 : Nat → FieldType := fun k => match k with
  | 0 => .object "BellWaves$Town"
  | 1 => .array (.object "BellWaves$School")
  | 2 => .array .int
  | 3 => .array (.object "BellWaves$Stop")
  | 4 => .int
  | 5 => .int
  | 6 => .int
  | 7 => .int
  | _ => .int
abbrev wsX00 : List Cond := u_ws RX0 TX0 9
theorem nmX0 : ∀ a, a < 9 → ∀ b, b < 9 → a ≠ b → (TX0 a).2.1 ≠ (TX0 b).2.1 := by decide +kernel
theorem tyX0_ok : ∀ k, k < 9 → parseFieldDescriptor (TX0 k).2.2.1 = some (tyX0 k) := by decide +kernel
abbrev cX0_init : ByteArray := prog_2_method_1_code
def yX0_init : MethodName := ⟨RX0, "<init>", "()V"⟩
abbrev cX0_hasSchool : ByteArray := prog_2_method_2_code
def yX0_hasSchool : MethodName := ⟨RX0, "hasSchool", "(I)Z"⟩
abbrev cX0_hasStop : ByteArray := prog_2_method_3_code
def yX0_hasStop : MethodName := ⟨RX0, "hasStop", "(I)Z"⟩
abbrev cX0_addSchool : ByteArray := prog_2_method_4_code
def yX0_addSchool : MethodName := ⟨RX0, "addSchool", "(II)I"⟩
abbrev cX0_addStop : ByteArray := prog_2_method_5_code
def yX0_addStop : MethodName := ⟨RX0, "addStop", "(IIII)I"⟩
abbrev cX0_removeStop : ByteArray := prog_2_method_6_code
def yX0_removeStop : MethodName := ⟨RX0, "removeStop", "(I)V"⟩
abbrev cX0_rings : ByteArray := prog_2_method_7_code
def yX0_rings : MethodName := ⟨RX0, "rings", "(I)I"⟩
abbrev cX0_longest : ByteArray := prog_2_method_8_code
def yX0_longest : MethodName := ⟨RX0, "longest", "(I)I"⟩
abbrev cX0_stopsOf : ByteArray := prog_2_method_9_code
def yX0_stopsOf : MethodName := ⟨RX0, "stopsOf", "(I)I"⟩
abbrev cX0_pupilsOf : ByteArray := prog_2_method_10_code
def yX0_pupilsOf : MethodName := ⟨RX0, "pupilsOf", "(I)I"⟩
abbrev cX0_costOf : ByteArray := prog_2_method_11_code
def yX0_costOf : MethodName := ⟨RX0, "costOf", "(II)I"⟩
abbrev cX0_minutesFrom : ByteArray := prog_2_method_12_code
def yX0_minutesFrom : MethodName := ⟨RX0, "minutesFrom", "(LBellWaves$School;II[[I)I"⟩
abbrev cX0_rideOf : ByteArray := prog_2_method_13_code
def yX0_rideOf : MethodName := ⟨RX0, "rideOf", "(I)I"⟩
abbrev cX0_pupilsFrom : ByteArray := prog_2_method_14_code
def yX0_pupilsFrom : MethodName := ⟨RX0, "pupilsFrom", "(I)I"⟩
abbrev cX0_ridesFrom : ByteArray := prog_2_method_15_code
def yX0_ridesFrom : MethodName := ⟨RX0, "ridesFrom", "(I)I"⟩
abbrev cX0_greatestRide : ByteArray := prog_2_method_16_code
def yX0_greatestRide : MethodName := ⟨RX0, "greatestRide", "(I)I"⟩
abbrev cX0_earlyFrom : ByteArray := prog_2_method_17_code
def yX0_earlyFrom : MethodName := ⟨RX0, "earlyFrom", "(I)I"⟩
def RX1 : String := "BellWaves$Fleet"
def TX1 : u_T := fun k => match k with
  | 0 => ("BellWaves$Fleet", "stands", "Z", false)
  | 1 => ("BellWaves$Fleet", "count", "I", false)
  | 2 => ("BellWaves$Fleet", "floor", "I", false)
  | 3 => ("BellWaves$Fleet", "school", "[I", true)
  | 4 => ("BellWaves$Fleet", "next", "[I", true)
  | 5 => ("BellWaves$Fleet", "index", "[I", true)
  | 6 => ("BellWaves$Fleet", "gap", "[[I", true)
  | 7 => ("BellWaves$Fleet", "matcher", "LBellWaves$Matcher;", true)
  | _ => ("BellWaves$Fleet", "led", "I", false)
def tyX1 : Nat → FieldType := fun k => match k with
  | 0 => .boolean
  | 1 => .int
  | 2 => .int
  | 3 => .array .int
  | 4 => .array .int
  | 5 => .array .int
  | 6 => .array (.array .int)
  | 7 => .object "BellWaves$Matcher"
  | _ => .int
abbrev wsX10 : List Cond := u_ws RX1 TX1 9
theorem nmX1 : ∀ a, a < 9 → ∀ b, b < 9 → a ≠ b → (TX1 a).2.1 ≠ (TX1 b).2.1 := by decide +kernel
theorem tyX1_ok : ∀ k, k < 9 → parseFieldDescriptor (TX1 k).2.2.1 = some (tyX1 k) := by decide +kernel
abbrev cX1_init : ByteArray := prog_3_method_1_code
def yX1_init : MethodName := ⟨RX1, "<init>", "()V"⟩
abbrev cX1_has : ByteArray := prog_3_method_2_code
def yX1_has : MethodName := ⟨RX1, "has", "(I)Z"⟩
abbrev cX1_gather : ByteArray := prog_3_method_3_code
def yX1_gather : MethodName := ⟨RX1, "gather", "(LBellWaves$District;)V"⟩
abbrev cX1_schoolOf : ByteArray := prog_3_method_4_code
def yX1_schoolOf : MethodName := ⟨RX1, "schoolOf", "(LBellWaves$District;I)LBellWaves$School;"⟩
abbrev cX1_firstCorner : ByteArray := prog_3_method_5_code
def yX1_firstCorner : MethodName := ⟨RX1, "firstCorner", "(LBellWaves$District;I)I"⟩
abbrev cX1_lengthOf : ByteArray := prog_3_method_6_code
def yX1_lengthOf : MethodName := ⟨RX1, "lengthOf", "(LBellWaves$District;I)I"⟩
abbrev cX1_lengthOn : ByteArray := prog_3_method_7_code
def yX1_lengthOn : MethodName := ⟨RX1, "lengthOn", "(LBellWaves$District;I[[I)I"⟩
abbrev cX1_startOf : ByteArray := prog_3_method_8_code
def yX1_startOf : MethodName := ⟨RX1, "startOf", "(LBellWaves$District;I)I"⟩
abbrev cX1_pupilsOn : ByteArray := prog_3_method_9_code
def yX1_pupilsOn : MethodName := ⟨RX1, "pupilsOn", "(LBellWaves$District;I)I"⟩
abbrev cX1_canFollow : ByteArray := prog_3_method_10_code
def yX1_canFollow : MethodName := ⟨RX1, "canFollow", "([III)Z"⟩
abbrev cX1_fewestBuses : ByteArray := prog_3_method_11_code
def yX1_fewestBuses : MethodName := ⟨RX1, "fewestBuses", "([I)I"⟩
abbrev cX1_link : ByteArray := prog_3_method_12_code
def yX1_link : MethodName := ⟨RX1, "link", "([I)V"⟩
abbrev cX1_fillMatcher : ByteArray := prog_3_method_13_code
def yX1_fillMatcher : MethodName := ⟨RX1, "fillMatcher", "([I)V"⟩
abbrev cX1_busCount : ByteArray := prog_3_method_14_code
def yX1_busCount : MethodName := ⟨RX1, "busCount", "()I"⟩
abbrev cX1_isFirst : ByteArray := prog_3_method_15_code
def yX1_isFirst : MethodName := ⟨RX1, "isFirst", "(I)Z"⟩
abbrev cX1_driven : ByteArray := prog_3_method_16_code
def yX1_driven : MethodName := ⟨RX1, "driven", "(II)I"⟩
abbrev cX1_specialBuses : ByteArray := prog_3_method_17_code
def yX1_specialBuses : MethodName := ⟨RX1, "specialBuses", "(LBellWaves$District;)I"⟩
abbrev cX1_drivesSpecial : ByteArray := prog_3_method_18_code
def yX1_drivesSpecial : MethodName := ⟨RX1, "drivesSpecial", "(LBellWaves$District;I)Z"⟩
def RX2 : String := "BellWaves$Market"
def TX2 : u_T := fun k => match k with
  | 0 => ("BellWaves$Market", "count", "I", false)
  | 1 => ("BellWaves$Market", "schools", "I", false)
  | 2 => ("BellWaves$Market", "listed", "[I", true)
  | 3 => ("BellWaves$Market", "cheapest", "[I", true)
  | 4 => ("BellWaves$Market", "code", "[I", true)
  | 5 => ("BellWaves$Market", "price", "[[I", true)
  | _ => ("BellWaves$Market", "bells", "[I", true)
def tyX2 : Nat → FieldType := fun k => match k with
  | 0 => .int
  | 1 => .int
  | 2 => .array .int
  | 3 => .array .int
  | 4 => .array .int
  | 5 => .array (.array .int)
  | _ => .array .int
abbrev wsX20 : List Cond := u_ws RX2 TX2 7
theorem nmX2 : ∀ a, a < 7 → ∀ b, b < 7 → a ≠ b → (TX2 a).2.1 ≠ (TX2 b).2.1 := by decide +kernel
theorem tyX2_ok : ∀ k, k < 7 → parseFieldDescriptor (TX2 k).2.2.1 = some (tyX2 k) := by decide +kernel
abbrev cX2_init : ByteArray := prog_4_method_1_code
def yX2_init : MethodName := ⟨RX2, "<init>", "()V"⟩
abbrev cX2_weigh : ByteArray := prog_4_method_2_code
def yX2_weigh : MethodName := ⟨RX2, "weigh", "(LBellWaves$District;LBellWaves$Fleet;LBellWaves$Rules;)V"⟩
abbrev cX2_priceOfBells : ByteArray := prog_4_method_3_code
def yX2_priceOfBells : MethodName := ⟨RX2, "priceOfBells", "()I"⟩
abbrev cX2_note : ByteArray := prog_4_method_4_code
def yX2_note : MethodName := ⟨RX2, "note", "(III)V"⟩
abbrev cX2_decode : ByteArray := prog_4_method_5_code
def yX2_decode : MethodName := ⟨RX2, "decode", "(I)V"⟩
abbrev cX2_list : ByteArray := prog_4_method_6_code
def yX2_list : MethodName := ⟨RX2, "list", "()V"⟩
abbrev cX2_busesIn : ByteArray := prog_4_method_7_code
def yX2_busesIn : MethodName := ⟨RX2, "busesIn", "(I)I"⟩
abbrev cX2_costIn : ByteArray := prog_4_method_8_code
def yX2_costIn : MethodName := ⟨RX2, "costIn", "(I)I"⟩
abbrev cX2_bellsIn : ByteArray := prog_4_method_9_code
def yX2_bellsIn : MethodName := ⟨RX2, "bellsIn", "(I)[I"⟩
def RX3 : String := "BellWaves$Matcher"
def TX3 : u_T := fun k => match k with
  | 0 => ("BellWaves$Matcher", "count", "I", false)
  | 1 => ("BellWaves$Matcher", "open", "[I", true)
  | 2 => ("BellWaves$Matcher", "follower", "[I", true)
  | 3 => ("BellWaves$Matcher", "leader", "[I", true)
  | 4 => ("BellWaves$Matcher", "offeredBy", "[I", true)
  | _ => ("BellWaves$Matcher", "queue", "[I", true)
def tyX3 : Nat → FieldType := fun k => match k with
  | 0 => .int
  | 1 => .array .int
  | 2 => .array .int
  | 3 => .array .int
  | 4 => .array .int
  | _ => .array .int
abbrev wsX30 : List Cond := u_ws RX3 TX3 6
theorem nmX3 : ∀ a, a < 6 → ∀ b, b < 6 → a ≠ b → (TX3 a).2.1 ≠ (TX3 b).2.1 := by decide +kernel
theorem tyX3_ok : ∀ k, k < 6 → parseFieldDescriptor (TX3 k).2.2.1 = some (tyX3 k) := by decide +kernel
abbrev cX3_init : ByteArray := prog_5_method_1_code
def yX3_init : MethodName := ⟨RX3, "<init>", "()V"⟩
abbrev cX3_most : ByteArray := prog_5_method_2_code
def yX3_most : MethodName := ⟨RX3, "most", "(II)I"⟩
abbrev cX3_gains : ByteArray := prog_5_method_3_code
def yX3_gains : MethodName := ⟨RX3, "gains", "(II)Z"⟩
abbrev cX3_move : ByteArray := prog_5_method_4_code
def yX3_move : MethodName := ⟨RX3, "move", "(I)V"⟩
def RX4 : String := "BellWaves$Morning"
def TX4 : u_T := fun k => match k with
  | 0 => ("BellWaves$Morning", "count", "I", false)
  | _ => ("BellWaves$Morning", "minute", "[I", true)
def tyX4 : Nat → FieldType := fun k => match k with
  | 0 => .int
  | _ => .array .int
abbrev wsX40 : List Cond := u_ws RX4 TX4 2
theorem nmX4 : ∀ a, a < 2 → ∀ b, b < 2 → a ≠ b → (TX4 a).2.1 ≠ (TX4 b).2.1 := by decide +kernel
theorem tyX4_ok : ∀ k, k < 2 → parseFieldDescriptor (TX4 k).2.2.1 = some (tyX4 k) := by decide +kernel
abbrev cX4_init : ByteArray := prog_6_method_1_code
def yX4_init : MethodName := ⟨RX4, "<init>", "()V"⟩
abbrev cX4_drive : ByteArray := prog_6_method_2_code
def yX4_drive : MethodName := ⟨RX4, "drive", "(LBellWaves$District;LBellWaves$Fleet;III)I"⟩
abbrev cX4_driveBus : ByteArray := prog_6_method_3_code
def yX4_driveBus : MethodName := ⟨RX4, "driveBus", "(LBellWaves$District;LBellWaves$Fleet;III[[I)V"⟩
def RX5 : String := "BellWaves$Planner"
def TX5 : u_T := fun k => match k with
  | 0 => ("BellWaves$Planner", "count", "I", false)
  | 1 => ("BellWaves$Planner", "stop", "[I", true)
  | 2 => ("BellWaves$Planner", "pupils", "[I", true)
  | 3 => ("BellWaves$Planner", "home", "[I", true)
  | 4 => ("BellWaves$Planner", "between", "[[I", true)
  | 5 => ("BellWaves$Planner", "least", "[I", true)
  | 6 => ("BellWaves$Planner", "length", "[I", true)
  | 7 => ("BellWaves$Planner", "value", "[I", true)
  | _ => ("BellWaves$Planner", "pick", "[I", true)
def tyX5 : Nat → FieldType := fun k => match k with
  | 0 => .int
  | 1 => .array .int
  | 2 => .array .int
  | 3 => .array .int
  | 4 => .array (.array .int)
  | 5 => .array .int
  | 6 => .array .int
  | 7 => .array .int
  | _ => .array .int
abbrev wsX50 : List Cond := u_ws RX5 TX5 9
theorem nmX5 : ∀ a, a < 9 → ∀ b, b < 9 → a ≠ b → (TX5 a).2.1 ≠ (TX5 b).2.1 := by decide +kernel
theorem tyX5_ok : ∀ k, k < 9 → parseFieldDescriptor (TX5 k).2.2.1 = some (tyX5 k) := by decide +kernel
abbrev cX5_init : ByteArray := prog_7_method_1_code
def yX5_init : MethodName := ⟨RX5, "<init>", "()V"⟩
abbrev cX5_draw : ByteArray := prog_7_method_2_code
def yX5_draw : MethodName := ⟨RX5, "draw", "(LBellWaves$District;I)V"⟩
abbrev cX5_collect : ByteArray := prog_7_method_3_code
def yX5_collect : MethodName := ⟨RX5, "collect", "(LBellWaves$District;I)V"⟩
abbrev cX5_load : ByteArray := prog_7_method_4_code
def yX5_load : MethodName := ⟨RX5, "load", "(I)I"⟩
abbrev cX5_shortest : ByteArray := prog_7_method_5_code
def yX5_shortest : MethodName := ⟨RX5, "shortest", "(I)I"⟩
abbrev cX5_shortestFrom : ByteArray := prog_7_method_6_code
def yX5_shortestFrom : MethodName := ⟨RX5, "shortestFrom", "(II)I"⟩
abbrev cX5_part : ByteArray := prog_7_method_7_code
def yX5_part : MethodName := ⟨RX5, "part", "(I)V"⟩
abbrev cX5_record : ByteArray := prog_7_method_8_code
def yX5_record : MethodName := ⟨RX5, "record", "(LBellWaves$School;I)V"⟩
abbrev cX5_recordRoute : ByteArray := prog_7_method_9_code
def yX5_recordRoute : MethodName := ⟨RX5, "recordRoute", "(LBellWaves$School;I)V"⟩
abbrev cX5_firstWith : ByteArray := prog_7_method_10_code
def yX5_firstWith : MethodName := ⟨RX5, "firstWith", "(III)I"⟩
abbrev cX5_has : ByteArray := prog_7_method_11_code
def yX5_has : MethodName := ⟨RX5, "has", "(II)Z"⟩
def RX6 : String := "BellWaves$Rules"
def TX6 : u_T := fun k => match k with
  | 0 => ("BellWaves$Rules", "tapeLength", "I", false)
  | 1 => ("BellWaves$Rules", "count", "I", false)
  | 2 => ("BellWaves$Rules", "tape", "[I", true)
  | 3 => ("BellWaves$Rules", "kind", "[I", true)
  | 4 => ("BellWaves$Rules", "low", "[I", true)
  | _ => ("BellWaves$Rules", "high", "[I", true)
def tyX6 : Nat → FieldType := fun k => match k with
  | 0 => .int
  | 1 => .int
  | 2 => .array .int
  | 3 => .array .int
  | 4 => .array .int
  | _ => .array .int
abbrev wsX60 : List Cond := u_ws RX6 TX6 6
theorem nmX6 : ∀ a, a < 6 → ∀ b, b < 6 → a ≠ b → (TX6 a).2.1 ≠ (TX6 b).2.1 := by decide +kernel
theorem tyX6_ok : ∀ k, k < 6 → parseFieldDescriptor (TX6 k).2.2.1 = some (tyX6 k) := by decide +kernel
abbrev cX6_init : ByteArray := prog_8_method_1_code
def yX6_init : MethodName := ⟨RX6, "<init>", "()V"⟩
abbrev cX6_lengthen : ByteArray := prog_8_method_2_code
def yX6_lengthen : MethodName := ⟨RX6, "lengthen", "(JI)I"⟩
abbrev cX6_firstWrong : ByteArray := prog_8_method_3_code
def yX6_firstWrong : MethodName := ⟨RX6, "firstWrong", "()I"⟩
abbrev cX6_canStand : ByteArray := prog_8_method_4_code
def yX6_canStand : MethodName := ⟨RX6, "canStand", "(I)Z"⟩
abbrev cX6_kindOf : ByteArray := prog_8_method_5_code
def yX6_kindOf : MethodName := ⟨RX6, "kindOf", "(I)I"⟩
abbrev cX6_adopt : ByteArray := prog_8_method_6_code
def yX6_adopt : MethodName := ⟨RX6, "adopt", "()V"⟩
abbrev cX6_permit : ByteArray := prog_8_method_7_code
def yX6_permit : MethodName := ⟨RX6, "permit", "(II)Z"⟩
def RX7 : String := "BellWaves$School"
def TX7 : u_T := fun k => match k with
  | 0 => ("BellWaves$School", "kind", "I", false)
  | 1 => ("BellWaves$School", "corner", "I", false)
  | 2 => ("BellWaves$School", "wish", "I", false)
  | 3 => ("BellWaves$School", "hasPlan", "Z", false)
  | 4 => ("BellWaves$School", "routeCount", "I", false)
  | 5 => ("BellWaves$School", "begin", "[I", true)
  | 6 => ("BellWaves$School", "order", "[I", true)
  | _ => ("BellWaves$School", "length", "[I", true)
def tyX7 : Nat → FieldType := fun k => match k with
  | 0 => .int
  | 1 => .int
  | 2 => .int
  | 3 => .boolean
  | 4 => .int
  | 5 => .array .int
  | 6 => .array .int
  | _ => .array .int
abbrev wsX70 : List Cond := u_ws RX7 TX7 8
theorem nmX7 : ∀ a, a < 8 → ∀ b, b < 8 → a ≠ b → (TX7 a).2.1 ≠ (TX7 b).2.1 := by decide +kernel
theorem tyX7_ok : ∀ k, k < 8 → parseFieldDescriptor (TX7 k).2.2.1 = some (tyX7 k) := by decide +kernel
abbrev cX7_init : ByteArray := prog_9_method_1_code
def yX7_init : MethodName := ⟨RX7, "<init>", "()V"⟩
abbrev cX7_stopsIn : ByteArray := prog_9_method_2_code
def yX7_stopsIn : MethodName := ⟨RX7, "stopsIn", "(I)I"⟩
def RX8 : String := "BellWaves$Sheet"
def TX8 : u_T := fun k => match k with
  | 0 => ("BellWaves$Sheet", "bits", "I", false)
  | 1 => ("BellWaves$Sheet", "count", "I", false)
  | _ => ("BellWaves$Sheet", "numbers", "[I", true)
def tyX8 : Nat → FieldType := fun k => match k with
  | 0 => .int
  | 1 => .int
  | _ => .array .int
abbrev wsX80 : List Cond := u_ws RX8 TX8 3
theorem nmX8 : ∀ a, a < 3 → ∀ b, b < 3 → a ≠ b → (TX8 a).2.1 ≠ (TX8 b).2.1 := by decide +kernel
theorem tyX8_ok : ∀ k, k < 3 → parseFieldDescriptor (TX8 k).2.2.1 = some (tyX8 k) := by decide +kernel
abbrev cX8_init : ByteArray := prog_10_method_1_code
def yX8_init : MethodName := ⟨RX8, "<init>", "()V"⟩
abbrev cX8_isMissing : ByteArray := prog_10_method_2_code
def yX8_isMissing : MethodName := ⟨RX8, "isMissing", "()Z"⟩
abbrev cX8_lay : ByteArray := prog_10_method_3_code
def yX8_lay : MethodName := ⟨RX8, "lay", "(II)I"⟩
abbrev cX8_put : ByteArray := prog_10_method_4_code
def yX8_put : MethodName := ⟨RX8, "put", "(II)I"⟩
abbrev cX8_holds : ByteArray := prog_10_method_5_code
def yX8_holds : MethodName := ⟨RX8, "holds", "(II)Z"⟩
abbrev cX8_allWithin : ByteArray := prog_10_method_6_code
def yX8_allWithin : MethodName := ⟨RX8, "allWithin", "(II)Z"⟩
def RX9 : String := "BellWaves$Stop"
def TX9 : u_T := fun k => match k with
  | 0 => ("BellWaves$Stop", "school", "I", false)
  | 1 => ("BellWaves$Stop", "corner", "I", false)
  | 2 => ("BellWaves$Stop", "pupils", "I", false)
  | _ => ("BellWaves$Stop", "quarter", "I", false)
def tyX9 : Nat → FieldType := fun k => match k with
  | 0 => .int
  | 1 => .int
  | 2 => .int
  | _ => .int
abbrev wsX90 : List Cond := u_ws RX9 TX9 4
theorem nmX9 : ∀ a, a < 4 → ∀ b, b < 4 → a ≠ b → (TX9 a).2.1 ≠ (TX9 b).2.1 := by decide +kernel
theorem tyX9_ok : ∀ k, k < 4 → parseFieldDescriptor (TX9 k).2.2.1 = some (tyX9 k) := by decide +kernel
abbrev cX9_init : ByteArray := prog_11_method_1_code
def yX9_init : MethodName := ⟨RX9, "<init>", "()V"⟩
def RX10 : String := "BellWaves$Town"
def TX10 : u_T := fun k => match k with
  | 0 => ("BellWaves$Town", "corners", "I", false)
  | 1 => ("BellWaves$Town", "streets", "I", false)
  | 2 => ("BellWaves$Town", "from", "[I", true)
  | 3 => ("BellWaves$Town", "to", "[I", true)
  | 4 => ("BellWaves$Town", "minutes", "[I", true)
  | 5 => ("BellWaves$Town", "closed", "[Z", true)
  | 6 => ("BellWaves$Town", "plain", "[[I", true)
  | 7 => ("BellWaves$Town", "snowy", "[[I", true)
  | _ => ("BellWaves$Town", "measured", "Z", false)
def tyX10 : Nat → FieldType := fun k => match k with
  | 0 => .int
  | 1 => .int
  | 2 => .array .int
  | 3 => .array .int
  | 4 => .array .int
  | 5 => .array .boolean
  | 6 => .array (.array .int)
  | 7 => .array (.array .int)
  | _ => .boolean
abbrev wsX100 : List Cond := u_ws RX10 TX10 9
theorem nmX10 : ∀ a, a < 9 → ∀ b, b < 9 → a ≠ b → (TX10 a).2.1 ≠ (TX10 b).2.1 := by decide +kernel
theorem tyX10_ok : ∀ k, k < 9 → parseFieldDescriptor (TX10 k).2.2.1 = some (tyX10 k) := by decide +kernel
abbrev cX10_init : ByteArray := prog_12_method_1_code
def yX10_init : MethodName := ⟨RX10, "<init>", "()V"⟩
abbrev cX10_hasCorner : ByteArray := prog_12_method_2_code
def yX10_hasCorner : MethodName := ⟨RX10, "hasCorner", "(I)Z"⟩
abbrev cX10_addCorner : ByteArray := prog_12_method_3_code
def yX10_addCorner : MethodName := ⟨RX10, "addCorner", "()I"⟩
abbrev cX10_addStreet : ByteArray := prog_12_method_4_code
def yX10_addStreet : MethodName := ⟨RX10, "addStreet", "(III)I"⟩
abbrev cX10_close : ByteArray := prog_12_method_5_code
def yX10_close : MethodName := ⟨RX10, "close", "(IZ)Z"⟩
abbrev cX10_table : ByteArray := prog_12_method_6_code
def yX10_table : MethodName := ⟨RX10, "table", "()[[I"⟩
abbrev cX10_tableWith : ByteArray := prog_12_method_7_code
def yX10_tableWith : MethodName := ⟨RX10, "tableWith", "(I)[[I"⟩
abbrev cX10_measure : ByteArray := prog_12_method_8_code
def yX10_measure : MethodName := ⟨RX10, "measure", "([[II)V"⟩
def RX11 : String := "BellWaves"
def TX11 : u_T := fun k => match k with
  | 0 => ("BellWaves", "district", "LBellWaves$District;", true)
  | 1 => ("BellWaves", "fleet", "LBellWaves$Fleet;", true)
  | 2 => ("BellWaves", "rules", "LBellWaves$Rules;", true)
  | 3 => ("BellWaves", "market", "LBellWaves$Market;", true)
  | 4 => ("BellWaves", "latest", "LBellWaves$Morning;", true)
  | 5 => ("BellWaves", "sheets", "[LBellWaves$Sheet;", true)
  | 6 => ("BellWaves", "planner", "LBellWaves$Planner;", false)
  | 7 => ("BellWaves", "plansStand", "Z", false)
  | 8 => ("BellWaves", "chainsStand", "Z", false)
  | 9 => ("BellWaves", "tradesStand", "Z", false)
  | _ => ("BellWaves", "findings", "I", false)
def tyX11 : Nat → FieldType := fun k => match k with
  | 0 => .object "BellWaves$District"
  | 1 => .object "BellWaves$Fleet"
  | 2 => .object "BellWaves$Rules"
  | 3 => .object "BellWaves$Market"
  | 4 => .object "BellWaves$Morning"
  | 5 => .array (.object "BellWaves$Sheet")
  | 6 => .object "BellWaves$Planner"
  | 7 => .boolean
  | 8 => .boolean
  | 9 => .boolean
  | _ => .int
abbrev wsX110 : List Cond := u_ws RX11 TX11 11
theorem nmX11 : ∀ a, a < 11 → ∀ b, b < 11 → a ≠ b → (TX11 a).2.1 ≠ (TX11 b).2.1 := by decide +kernel
theorem tyX11_ok : ∀ k, k < 11 → parseFieldDescriptor (TX11 k).2.2.1 = some (tyX11 k) := by decide +kernel
abbrev cX11_init : ByteArray := prog_1_method_1_code
def yX11_init : MethodName := ⟨RX11, "<init>", "()V"⟩
abbrev cX11_corner : ByteArray := prog_1_method_2_code
def yX11_corner : MethodName := ⟨RX11, "corner", "()I"⟩
abbrev cX11_street : ByteArray := prog_1_method_3_code
def yX11_street : MethodName := ⟨RX11, "street", "(III)I"⟩
abbrev cX11_shut : ByteArray := prog_1_method_4_code
def yX11_shut : MethodName := ⟨RX11, "shut", "(IZ)I"⟩
abbrev cX11_far : ByteArray := prog_1_method_5_code
def yX11_far : MethodName := ⟨RX11, "far", "(II)I"⟩
abbrev cX11_school : ByteArray := prog_1_method_6_code
def yX11_school : MethodName := ⟨RX11, "school", "(II)I"⟩
abbrev cX11_as : ByteArray := prog_1_method_7_code
def yX11_as : MethodName := ⟨RX11, "as", "(II)I"⟩
abbrev cX11_of : ByteArray := prog_1_method_8_code
def yX11_of : MethodName := ⟨RX11, "of", "(II)I"⟩
abbrev cX11_bell : ByteArray := prog_1_method_9_code
def yX11_bell : MethodName := ⟨RX11, "bell", "(II)I"⟩
abbrev cX11_wish : ByteArray := prog_1_method_10_code
def yX11_wish : MethodName := ⟨RX11, "wish", "(II)I"⟩
abbrev cX11_stop : ByteArray := prog_1_method_11_code
def yX11_stop : MethodName := ⟨RX11, "stop", "(IIII)I"⟩
abbrev cX11_pupils : ByteArray := prog_1_method_12_code
def yX11_pupils : MethodName := ⟨RX11, "pupils", "(II)I"⟩
abbrev cX11_gone : ByteArray := prog_1_method_13_code
def yX11_gone : MethodName := ⟨RX11, "gone", "(I)I"⟩
abbrev cX11_terms : ByteArray := prog_1_method_14_code
def yX11_terms : MethodName := ⟨RX11, "terms", "(III)I"⟩
abbrev cX11_routes : ByteArray := prog_1_method_15_code
def yX11_routes : MethodName := ⟨RX11, "routes", "(I)I"⟩
abbrev cX11_route : ByteArray := prog_1_method_16_code
def yX11_route : MethodName := ⟨RX11, "route", "(III)I"⟩
abbrev cX11_ride : ByteArray := prog_1_method_17_code
def yX11_ride : MethodName := ⟨RX11, "ride", "(I)I"⟩
abbrev cX11_all : ByteArray := prog_1_method_18_code
def yX11_all : MethodName := ⟨RX11, "all", "()I"⟩
abbrev cX11_start : ByteArray := prog_1_method_19_code
def yX11_start : MethodName := ⟨RX11, "start", "(I)I"⟩
abbrev cX11_follows : ByteArray := prog_1_method_20_code
def yX11_follows : MethodName := ⟨RX11, "follows", "(II)I"⟩
abbrev cX11_buses : ByteArray := prog_1_method_21_code
def yX11_buses : MethodName := ⟨RX11, "buses", "()I"⟩
abbrev cX11_chain : ByteArray := prog_1_method_22_code
def yX11_chain : MethodName := ⟨RX11, "chain", "(II)I"⟩
abbrev cX11_aides : ByteArray := prog_1_method_23_code
def yX11_aides : MethodName := ⟨RX11, "aides", "()I"⟩
abbrev cX11_feed : ByteArray := prog_1_method_24_code
def yX11_feed : MethodName := ⟨RX11, "feed", "(JI)I"⟩
abbrev cX11_text : ByteArray := prog_1_method_25_code
def yX11_text : MethodName := ⟨RX11, "text", "()I"⟩
abbrev cX11_allowed : ByteArray := prog_1_method_26_code
def yX11_allowed : MethodName := ⟨RX11, "allowed", "(II)I"⟩
abbrev cX11_cost : ByteArray := prog_1_method_27_code
def yX11_cost : MethodName := ⟨RX11, "cost", "()I"⟩
abbrev cX11_trades : ByteArray := prog_1_method_28_code
def yX11_trades : MethodName := ⟨RX11, "trades", "()I"⟩
abbrev cX11_trade : ByteArray := prog_1_method_29_code
def yX11_trade : MethodName := ⟨RX11, "trade", "(II)I"⟩
abbrev cX11_take : ByteArray := prog_1_method_30_code
def yX11_take : MethodName := ⟨RX11, "take", "(I)I"⟩
abbrev cX11_morning : ByteArray := prog_1_method_31_code
def yX11_morning : MethodName := ⟨RX11, "morning", "(III)I"⟩
abbrev cX11_comes : ByteArray := prog_1_method_32_code
def yX11_comes : MethodName := ⟨RX11, "comes", "(I)I"⟩
abbrev cX11_fair : ByteArray := prog_1_method_33_code
def yX11_fair : MethodName := ⟨RX11, "fair", "(II)I"⟩
abbrev cX11_sheet : ByteArray := prog_1_method_34_code
def yX11_sheet : MethodName := ⟨RX11, "sheet", "(III)I"⟩
abbrev cX11_write : ByteArray := prog_1_method_35_code
def yX11_write : MethodName := ⟨RX11, "write", "(III)I"⟩
abbrev cX11_copy : ByteArray := prog_1_method_36_code
def yX11_copy : MethodName := ⟨RX11, "copy", "(IIIII)I"⟩
abbrev cX11_read : ByteArray := prog_1_method_37_code
def yX11_read : MethodName := ⟨RX11, "read", "(II)I"⟩
abbrev cX11_told : ByteArray := prog_1_method_38_code
def yX11_told : MethodName := ⟨RX11, "told", "(I)I"⟩
abbrev cX11_found : ByteArray := prog_1_method_39_code
def yX11_found : MethodName := ⟨RX11, "found", "(I)I"⟩
abbrev cX11_plansFall : ByteArray := prog_1_method_40_code
def yX11_plansFall : MethodName := ⟨RX11, "plansFall", "()V"⟩
abbrev cX11_drawPlans : ByteArray := prog_1_method_41_code
def yX11_drawPlans : MethodName := ⟨RX11, "drawPlans", "()V"⟩
abbrev cX11_linkChains : ByteArray := prog_1_method_42_code
def yX11_linkChains : MethodName := ⟨RX11, "linkChains", "()Z"⟩
abbrev cX11_weighTrades : ByteArray := prog_1_method_43_code
def yX11_weighTrades : MethodName := ⟨RX11, "weighTrades", "()Z"⟩
abbrev cX11_within : ByteArray := prog_1_method_44_code
def yX11_within : MethodName := ⟨RX11, "within", "(III)Z"⟩
abbrev cX11_isUnder : ByteArray := prog_1_method_45_code
def yX11_isUnder : MethodName := ⟨RX11, "isUnder", "(II)Z"⟩
def RX12 : String := "BellWavesModel"
def TX12 : u_T := fun k => match k with
  | 0 => ("BellWavesModel", "corners", "I", false)
  | 1 => ("BellWavesModel", "streets", "I", false)
  | 2 => ("BellWavesModel", "schools", "I", false)
  | 3 => ("BellWavesModel", "stops", "I", false)
  | 4 => ("BellWavesModel", "rules", "I", false)
  | 5 => ("BellWavesModel", "taped", "I", false)
  | 6 => ("BellWavesModel", "findings", "I", false)
  | 7 => ("BellWavesModel", "seats", "I", false)
  | 8 => ("BellWavesModel", "ride", "I", false)
  | 9 => ("BellWavesModel", "slack", "I", false)
  | 10 => ("BellWavesModel", "streetA", "[I", true)
  | 11 => ("BellWavesModel", "streetB", "[I", true)
  | 12 => ("BellWavesModel", "minutes", "[I", true)
  | 13 => ("BellWavesModel", "isShut", "[Z", true)
  | 14 => ("BellWavesModel", "kind", "[I", true)
  | 15 => ("BellWavesModel", "at", "[I", true)
  | 16 => ("BellWavesModel", "bell", "[I", true)
  | 17 => ("BellWavesModel", "wish", "[I", true)
  | 18 => ("BellWavesModel", "stopSchool", "[I", true)
  | 19 => ("BellWavesModel", "stopAt", "[I", true)
  | 20 => ("BellWavesModel", "pupils", "[I", true)
  | 21 => ("BellWavesModel", "quarter", "[I", true)
  | 22 => ("BellWavesModel", "ruleKind", "[I", true)
  | 23 => ("BellWavesModel", "ruleFrom", "[I", true)
  | 24 => ("BellWavesModel", "ruleTo", "[I", true)
  | 25 => ("BellWavesModel", "tape", "[I", true)
  | 26 => ("BellWavesModel", "sheetBits", "[I", true)
  | 27 => ("BellWavesModel", "sheetSize", "[I", true)
  | 28 => ("BellWavesModel", "sheets", "[I", true)
  | 29 => ("BellWavesModel", "isPlanned", "Z", false)
  | 30 => ("BellWavesModel", "areTraded", "Z", false)
  | 31 => ("BellWavesModel", "fars", "[I", true)
  | 32 => ("BellWavesModel", "from", "[I", true)
  | 33 => ("BellWavesModel", "least", "[I", true)
  | 34 => ("BellWavesModel", "many", "[I", true)
  | 35 => ("BellWavesModel", "total", "[I", true)
  | 36 => ("BellWavesModel", "bestPart", "[I", true)
  | 37 => ("BellWavesModel", "routeSet", "[I", true)
  | 38 => ("BellWavesModel", "routeSchool", "[I", true)
  | 39 => ("BellWavesModel", "routeLength", "[I", true)
  | 40 => ("BellWavesModel", "firstRoute", "[I", true)
  | 41 => ("BellWavesModel", "manyRoutes", "[I", true)
  | 42 => ("BellWavesModel", "allRoutes", "I", false)
  | 43 => ("BellWavesModel", "haveAll", "Z", false)
  | 44 => ("BellWavesModel", "trial", "[I", true)
  | 45 => ("BellWavesModel", "may", "[I", true)
  | 46 => ("BellWavesModel", "most", "[I", true)
  | 47 => ("BellWavesModel", "next", "[I", true)
  | 48 => ("BellWavesModel", "from0", "[I", true)
  | 49 => ("BellWavesModel", "byWhom", "[I", true)
  | 50 => ("BellWavesModel", "row", "[I", true)
  | 51 => ("BellWavesModel", "bestCost", "[I", true)
  | 52 => ("BellWavesModel", "tradeBuses", "[I", true)
  | 53 => ("BellWavesModel", "tradeCost", "[I", true)
  | 54 => ("BellWavesModel", "tradeBells", "[I", true)
  | 55 => ("BellWavesModel", "firstBells", "[I", true)
  | 56 => ("BellWavesModel", "tradeMany", "I", false)
  | 57 => ("BellWavesModel", "cameMany", "I", false)
  | 58 => ("BellWavesModel", "came", "[I", true)
  | 59 => ("BellWavesModel", "order", "[I", true)
  | _ => ("BellWavesModel", "carried", "[I", true)
def tyX12 : Nat → FieldType := fun k => match k with
  | 0 => .int
  | 1 => .int
  | 2 => .int
  | 3 => .int
  | 4 => .int
  | 5 => .int
  | 6 => .int
  | 7 => .int
  | 8 => .int
  | 9 => .int
  | 10 => .array .int
  | 11 => .array .int
  | 12 => .array .int
  | 13 => .array .boolean
  | 14 => .array .int
  | 15 => .array .int
  | 16 => .array .int
  | 17 => .array .int
  | 18 => .array .int
  | 19 => .array .int
  | 20 => .array .int
  | 21 => .array .int
  | 22 => .array .int
  | 23 => .array .int
  | 24 => .array .int
  | 25 => .array .int
  | 26 => .array .int
  | 27 => .array .int
  | 28 => .array .int
  | 29 => .boolean
  | 30 => .boolean
  | 31 => .array .int
  | 32 => .array .int
  | 33 => .array .int
  | 34 => .array .int
  | 35 => .array .int
  | 36 => .array .int
  | 37 => .array .int
  | 38 => .array .int
  | 39 => .array .int
  | 40 => .array .int
  | 41 => .array .int
  | 42 => .int
  | 43 => .boolean
  | 44 => .array .int
  | 45 => .array .int
  | 46 => .array .int
  | 47 => .array .int
  | 48 => .array .int
  | 49 => .array .int
  | 50 => .array .int
  | 51 => .array .int
  | 52 => .array .int
  | 53 => .array .int
  | 54 => .array .int
  | 55 => .array .int
  | 56 => .int
  | 57 => .int
  | 58 => .array .int
  | 59 => .array .int
  | _ => .array .int
abbrev wsX120 : List Cond := u_ws RX12 TX12 61
theorem nmX12 : ∀ a, a < 61 → ∀ b, b < 61 → a ≠ b → (TX12 a).2.1 ≠ (TX12 b).2.1 := by decide +kernel
theorem tyX12_ok : ∀ k, k < 61 → parseFieldDescriptor (TX12 k).2.2.1 = some (tyX12 k) := by decide +kernel
abbrev cX12_init : ByteArray := prog_14_method_1_code
def yX12_init : MethodName := ⟨RX12, "<init>", "()V"⟩
abbrev cX12_in : ByteArray := prog_14_method_3_code
def yX12_in : MethodName := ⟨RX12, "in", "(III)Z"⟩
abbrev cX12_finds : ByteArray := prog_14_method_4_code
def yX12_finds : MethodName := ⟨RX12, "finds", "(I)I"⟩
abbrev cX12_isCorner : ByteArray := prog_14_method_5_code
def yX12_isCorner : MethodName := ⟨RX12, "isCorner", "(I)Z"⟩
abbrev cX12_isSchool : ByteArray := prog_14_method_6_code
def yX12_isSchool : MethodName := ⟨RX12, "isSchool", "(I)Z"⟩
abbrev cX12_isStop : ByteArray := prog_14_method_7_code
def yX12_isStop : MethodName := ⟨RX12, "isStop", "(I)Z"⟩
abbrev cX12_has : ByteArray := prog_14_method_8_code
def yX12_has : MethodName := ⟨RX12, "has", "(II)Z"⟩
abbrev cX12_another : ByteArray := prog_14_method_9_code
def yX12_another : MethodName := ⟨RX12, "another", "()V"⟩
abbrev cX12_corner : ByteArray := prog_14_method_10_code
def yX12_corner : MethodName := ⟨RX12, "corner", "()I"⟩
abbrev cX12_street : ByteArray := prog_14_method_11_code
def yX12_street : MethodName := ⟨RX12, "street", "(III)I"⟩
abbrev cX12_shut : ByteArray := prog_14_method_12_code
def yX12_shut : MethodName := ⟨RX12, "shut", "(IZ)I"⟩
abbrev cX12_findFars : ByteArray := prog_14_method_13_code
def yX12_findFars : MethodName := ⟨RX12, "findFars", "(I)V"⟩
abbrev cX12_far : ByteArray := prog_14_method_14_code
def yX12_far : MethodName := ⟨RX12, "far", "(II)I"⟩
abbrev cX12_school : ByteArray := prog_14_method_15_code
def yX12_school : MethodName := ⟨RX12, "school", "(II)I"⟩
abbrev cX12_isOf : ByteArray := prog_14_method_16_code
def yX12_isOf : MethodName := ⟨RX12, "isOf", "(II)Z"⟩
abbrev cX12_as : ByteArray := prog_14_method_17_code
def yX12_as : MethodName := ⟨RX12, "as", "(II)I"⟩
abbrev cX12_stopsOf : ByteArray := prog_14_method_18_code
def yX12_stopsOf : MethodName := ⟨RX12, "stopsOf", "(I)I"⟩
abbrev cX12_ones : ByteArray := prog_14_method_19_code
def yX12_ones : MethodName := ⟨RX12, "ones", "(I)I"⟩
abbrev cX12_pupilsOf : ByteArray := prog_14_method_20_code
def yX12_pupilsOf : MethodName := ⟨RX12, "pupilsOf", "(I)I"⟩
abbrev cX12_mayTake : ByteArray := prog_14_method_21_code
def yX12_mayTake : MethodName := ⟨RX12, "mayTake", "(I)I"⟩
abbrev cX12_of : ByteArray := prog_14_method_22_code
def yX12_of : MethodName := ⟨RX12, "of", "(II)I"⟩
abbrev cX12_bell : ByteArray := prog_14_method_23_code
def yX12_bell : MethodName := ⟨RX12, "bell", "(II)I"⟩
abbrev cX12_wish : ByteArray := prog_14_method_24_code
def yX12_wish : MethodName := ⟨RX12, "wish", "(II)I"⟩
abbrev cX12_stop : ByteArray := prog_14_method_25_code
def yX12_stop : MethodName := ⟨RX12, "stop", "(IIII)I"⟩
abbrev cX12_pupils : ByteArray := prog_14_method_26_code
def yX12_pupils : MethodName := ⟨RX12, "pupils", "(II)I"⟩
abbrev cX12_gone : ByteArray := prog_14_method_27_code
def yX12_gone : MethodName := ⟨RX12, "gone", "(I)I"⟩
abbrev cX12_terms : ByteArray := prog_14_method_28_code
def yX12_terms : MethodName := ⟨RX12, "terms", "(III)I"⟩
abbrev cX12_lengths : ByteArray := prog_14_method_29_code
def yX12_lengths : MethodName := ⟨RX12, "lengths", "(II)V"⟩
abbrev cX12_isRoute : ByteArray := prog_14_method_30_code
def yX12_isRoute : MethodName := ⟨RX12, "isRoute", "(II)Z"⟩
abbrev cX12_part : ByteArray := prog_14_method_31_code
def yX12_part : MethodName := ⟨RX12, "part", "(II)V"⟩
abbrev cX12_plan : ByteArray := prog_14_method_32_code
def yX12_plan : MethodName := ⟨RX12, "plan", "()V"⟩
abbrev cX12_nextStop : ByteArray := prog_14_method_33_code
def yX12_nextStop : MethodName := ⟨RX12, "nextStop", "(II)I"⟩
abbrev cX12_routes : ByteArray := prog_14_method_34_code
def yX12_routes : MethodName := ⟨RX12, "routes", "(I)I"⟩
abbrev cX12_stopOf : ByteArray := prog_14_method_35_code
def yX12_stopOf : MethodName := ⟨RX12, "stopOf", "(II)I"⟩
abbrev cX12_route : ByteArray := prog_14_method_36_code
def yX12_route : MethodName := ⟨RX12, "route", "(III)I"⟩
abbrev cX12_rideOf : ByteArray := prog_14_method_37_code
def yX12_rideOf : MethodName := ⟨RX12, "rideOf", "(I)I"⟩
abbrev cX12_ride : ByteArray := prog_14_method_38_code
def yX12_ride : MethodName := ⟨RX12, "ride", "(I)I"⟩
abbrev cX12_all : ByteArray := prog_14_method_39_code
def yX12_all : MethodName := ⟨RX12, "all", "()I"⟩
abbrev cX12_rings : ByteArray := prog_14_method_40_code
def yX12_rings : MethodName := ⟨RX12, "rings", "(I)I"⟩
abbrev cX12_asTheyAre : ByteArray := prog_14_method_41_code
def yX12_asTheyAre : MethodName := ⟨RX12, "asTheyAre", "()V"⟩
abbrev cX12_startOf : ByteArray := prog_14_method_42_code
def yX12_startOf : MethodName := ⟨RX12, "startOf", "(I)I"⟩
abbrev cX12_canFollow : ByteArray := prog_14_method_43_code
def yX12_canFollow : MethodName := ⟨RX12, "canFollow", "(II)Z"⟩
abbrev cX12_start : ByteArray := prog_14_method_44_code
def yX12_start : MethodName := ⟨RX12, "start", "(I)I"⟩
abbrev cX12_follows : ByteArray := prog_14_method_45_code
def yX12_follows : MethodName := ⟨RX12, "follows", "(II)I"⟩
abbrev cX12_findMay : ByteArray := prog_14_method_46_code
def yX12_findMay : MethodName := ⟨RX12, "findMay", "()V"⟩
abbrev cX12_findChains : ByteArray := prog_14_method_47_code
def yX12_findChains : MethodName := ⟨RX12, "findChains", "()V"⟩
abbrev cX12_buses : ByteArray := prog_14_method_48_code
def yX12_buses : MethodName := ⟨RX12, "buses", "()I"⟩
abbrev cX12_isFirst : ByteArray := prog_14_method_49_code
def yX12_isFirst : MethodName := ⟨RX12, "isFirst", "(I)Z"⟩
abbrev cX12_chain : ByteArray := prog_14_method_50_code
def yX12_chain : MethodName := ⟨RX12, "chain", "(II)I"⟩
abbrev cX12_aides : ByteArray := prog_14_method_51_code
def yX12_aides : MethodName := ⟨RX12, "aides", "()I"⟩
abbrev cX12_feed : ByteArray := prog_14_method_52_code
def yX12_feed : MethodName := ⟨RX12, "feed", "(JI)I"⟩
abbrev cX12_letterOf : ByteArray := prog_14_method_53_code
def yX12_letterOf : MethodName := ⟨RX12, "letterOf", "(I)I"⟩
abbrev cX12_mayStand : ByteArray := prog_14_method_54_code
def yX12_mayStand : MethodName := ⟨RX12, "mayStand", "(I)Z"⟩
abbrev cX12_text : ByteArray := prog_14_method_55_code
def yX12_text : MethodName := ⟨RX12, "text", "()I"⟩
abbrev cX12_isAllowed : ByteArray := prog_14_method_56_code
def yX12_isAllowed : MethodName := ⟨RX12, "isAllowed", "(II)Z"⟩
abbrev cX12_allowed : ByteArray := prog_14_method_57_code
def yX12_allowed : MethodName := ⟨RX12, "allowed", "(II)I"⟩
abbrev cX12_costOf : ByteArray := prog_14_method_58_code
def yX12_costOf : MethodName := ⟨RX12, "costOf", "()I"⟩
abbrev cX12_cost : ByteArray := prog_14_method_59_code
def yX12_cost : MethodName := ⟨RX12, "cost", "()I"⟩
abbrev cX12_fewest : ByteArray := prog_14_method_60_code
def yX12_fewest : MethodName := ⟨RX12, "fewest", "()I"⟩
abbrev cX12_isFound : ByteArray := prog_14_method_61_code
def yX12_isFound : MethodName := ⟨RX12, "isFound", "(I)Z"⟩
abbrev cX12_turn : ByteArray := prog_14_method_62_code
def yX12_turn : MethodName := ⟨RX12, "turn", "(II)V"⟩
abbrev cX12_findTrades : ByteArray := prog_14_method_63_code
def yX12_findTrades : MethodName := ⟨RX12, "findTrades", "()Z"⟩
abbrev cX12_trades : ByteArray := prog_14_method_64_code
def yX12_trades : MethodName := ⟨RX12, "trades", "()I"⟩
abbrev cX12_trade : ByteArray := prog_14_method_65_code
def yX12_trade : MethodName := ⟨RX12, "trade", "(II)I"⟩
abbrev cX12_take : ByteArray := prog_14_method_66_code
def yX12_take : MethodName := ⟨RX12, "take", "(I)I"⟩
abbrev cX12_morning : ByteArray := prog_14_method_67_code
def yX12_morning : MethodName := ⟨RX12, "morning", "(III)I"⟩
abbrev cX12_withSnow : ByteArray := prog_14_method_68_code
def yX12_withSnow : MethodName := ⟨RX12, "withSnow", "(I)I"⟩
abbrev cX12_comes : ByteArray := prog_14_method_69_code
def yX12_comes : MethodName := ⟨RX12, "comes", "(I)I"⟩
abbrev cX12_fair : ByteArray := prog_14_method_70_code
def yX12_fair : MethodName := ⟨RX12, "fair", "(II)I"⟩
abbrev cX12_isSheet : ByteArray := prog_14_method_71_code
def yX12_isSheet : MethodName := ⟨RX12, "isSheet", "(I)Z"⟩
abbrev cX12_sheet : ByteArray := prog_14_method_72_code
def yX12_sheet : MethodName := ⟨RX12, "sheet", "(III)I"⟩
abbrev cX12_write : ByteArray := prog_14_method_73_code
def yX12_write : MethodName := ⟨RX12, "write", "(III)I"⟩
abbrev cX12_copy : ByteArray := prog_14_method_74_code
def yX12_copy : MethodName := ⟨RX12, "copy", "(IIIII)I"⟩
abbrev cX12_read : ByteArray := prog_14_method_75_code
def yX12_read : MethodName := ⟨RX12, "read", "(II)I"⟩
abbrev cX12_told : ByteArray := prog_14_method_76_code
def yX12_told : MethodName := ⟨RX12, "told", "(I)I"⟩
def RJ6 : String := "java/lang/Integer"
def TJ6 : u_T := fun k => match k with
  | _ => ("", "", "", false)
def tyJ6 : Nat → FieldType := fun k => match k with
  | _ => .int
abbrev wsJ60 : List Cond := u_ws RJ6 TJ6 0
theorem nmJ6 : ∀ a, a < 0 → ∀ b, b < 0 → a ≠ b → (TJ6 a).2.1 ≠ (TJ6 b).2.1 := by decide +kernel
theorem tyJ6_ok : ∀ k, k < 0 → parseFieldDescriptor (TJ6 k).2.2.1 = some (tyJ6 k) := by decide +kernel
abbrev cJ6_bitCount_0f7a4 : ByteArray := prog_15_method_49_code
def yJ6_bitCount_0f7a4 : MethodName := ⟨RJ6, "bitCount", "(I)I"⟩
def RJ9 : String := "java/lang/Math"
def TJ9 : u_T := fun k => match k with
  | _ => ("", "", "", false)
def tyJ9 : Nat → FieldType := fun k => match k with
  | _ => .int
abbrev wsJ90 : List Cond := u_ws RJ9 TJ9 0
theorem nmJ9 : ∀ a, a < 0 → ∀ b, b < 0 → a ≠ b → (TJ9 a).2.1 ≠ (TJ9 b).2.1 := by decide +kernel
theorem tyJ9_ok : ∀ k, k < 0 → parseFieldDescriptor (TJ9 k).2.2.1 = some (tyJ9 k) := by decide +kernel
abbrev cJ9_abs_0f7a4 : ByteArray := prog_16_method_59_code
def yJ9_abs_0f7a4 : MethodName := ⟨RJ9, "abs", "(I)I"⟩
abbrev cJ9_max_7cf53 : ByteArray := prog_16_method_65_code
def yJ9_max_7cf53 : MethodName := ⟨RJ9, "max", "(II)I"⟩
abbrev cJ9_min_7cf53 : ByteArray := prog_16_method_69_code
def yJ9_min_7cf53 : MethodName := ⟨RJ9, "min", "(II)I"⟩
def RJ10 : String := "java/lang/System"
def TJ10 : u_T := fun k => match k with
  | _ => ("", "", "", false)
def tyJ10 : Nat → FieldType := fun k => match k with
  | _ => .int
abbrev wsJ100 : List Cond := u_ws RJ10 TJ10 0
theorem nmJ10 : ∀ a, a < 0 → ∀ b, b < 0 → a ≠ b → (TJ10 a).2.1 ≠ (TJ10 b).2.1 := by decide +kernel
theorem tyJ10_ok : ∀ k, k < 0 → parseFieldDescriptor (TJ10 k).2.2.1 = some (tyJ10 k) := by decide +kernel
def RJ7 : String := "java/util/Arrays"
def TJ7 : u_T := fun k => match k with
  | _ => ("", "", "", false)
def tyJ7 : Nat → FieldType := fun k => match k with
  | _ => .int
abbrev wsJ70 : List Cond := u_ws RJ7 TJ7 0
theorem nmJ7 : ∀ a, a < 0 → ∀ b, b < 0 → a ≠ b → (TJ7 a).2.1 ≠ (TJ7 b).2.1 := by decide +kernel
theorem tyJ7_ok : ∀ k, k < 0 → parseFieldDescriptor (TJ7 k).2.2.1 = some (tyJ7 k) := by decide +kernel
abbrev cJ7_fill_53178 : ByteArray := prog_18_method_103_code
def yJ7_fill_53178 : MethodName := ⟨RJ7, "fill", "([II)V"⟩
def RL : String := "BellWavesLaw"
abbrev cL_law : ByteArray := code
def yL_law : MethodName := ⟨RL, "law", "([I)Z"⟩
abbrev vwCl : List vw_C := [(RX0, TX0, 9), (RX1, TX1, 9), (RX2, TX2, 7), (RX3, TX3, 6), (RX4, TX4, 2), (RX5, TX5, 9), (RX6, TX6, 6), (RX7, TX7, 8), (RX8, TX8, 3), (RX9, TX9, 4), (RX10, TX10, 9), (RX11, TX11, 11), (RX12, TX12, 61)]
set_option maxRecDepth 100000 in
theorem inX0 : ∀ w ∈ wsX00, w ∈ lw_tbl := by decide +kernel
set_option maxRecDepth 100000 in
theorem inX1 : ∀ w ∈ wsX10, w ∈ lw_tbl := by decide +kernel
set_option maxRecDepth 100000 in
theorem inX2 : ∀ w ∈ wsX20, w ∈ lw_tbl := by decide +kernel
set_option maxRecDepth 100000 in
theorem inX3 : ∀ w ∈ wsX30, w ∈ lw_tbl := by decide +kernel
set_option maxRecDepth 100000 in
theorem inX4 : ∀ w ∈ wsX40, w ∈ lw_tbl := by decide +kernel
set_option maxRecDepth 100000 in
theorem inX5 : ∀ w ∈ wsX50, w ∈ lw_tbl := by decide +kernel
set_option maxRecDepth 100000 in
theorem inX6 : ∀ w ∈ wsX60, w ∈ lw_tbl := by decide +kernel
set_option maxRecDepth 100000 in
theorem inX7 : ∀ w ∈ wsX70, w ∈ lw_tbl := by decide +kernel
set_option maxRecDepth 100000 in
theorem inX8 : ∀ w ∈ wsX80, w ∈ lw_tbl := by decide +kernel
set_option maxRecDepth 100000 in
theorem inX9 : ∀ w ∈ wsX90, w ∈ lw_tbl := by decide +kernel
set_option maxRecDepth 100000 in
theorem inX10 : ∀ w ∈ wsX100, w ∈ lw_tbl := by decide +kernel
set_option maxRecDepth 100000 in
theorem inX11 : ∀ w ∈ wsX110, w ∈ lw_tbl := by decide +kernel
set_option maxRecDepth 100000 in
theorem inX12 : ∀ w ∈ wsX120, w ∈ lw_tbl := by decide +kernel
end
section
theorem dX0_init_0 : decode cX0_init 0 = .ok (.aload_n 0, 1) := by decide +kernel
theorem dX0_init_1 : decode cX0_init 1 = .ok (.invokespecial 3, 3) := by decide +kernel
theorem dX0_init_4 : decode cX0_init 4 = .ok (.aload_n 0, 1) := by decide +kernel
theorem dX0_init_5 : decode cX0_init 5 = .ok (.new 9, 3) := by decide +kernel
theorem dX0_init_8 : decode cX0_init 8 = .ok (.dup, 1) := by decide +kernel
theorem dX0_init_9 : decode cX0_init 9 = .ok (.invokespecial 11, 3) := by decide +kernel
theorem dX0_init_12 : decode cX0_init 12 = .ok (.putfield 12, 3) := by decide +kernel
theorem dX0_init_15 : decode cX0_init 15 = .ok (.aload_n 0, 1) := by decide +kernel
theorem dX0_init_16 : decode cX0_init 16 = .ok (.iconst 4, 1) := by decide +kernel
theorem dX0_init_17 : decode cX0_init 17 = .ok (.anewarray 18, 3) := by decide +kernel
theorem dX0_init_20 : decode cX0_init 20 = .ok (.putfield 20, 3) := by decide +kernel
theorem dX0_init_23 : decode cX0_init 23 = .ok (.aload_n 0, 1) := by decide +kernel
theorem dX0_init_24 : decode cX0_init 24 = .ok (.iconst 4, 1) := by decide +kernel
theorem dX0_init_25 : decode cX0_init 25 = .ok (.newarray .int, 2) := by decide +kernel
theorem dX0_init_27 : decode cX0_init 27 = .ok (.putfield 24, 3) := by decide +kernel
theorem dX0_init_30 : decode cX0_init 30 = .ok (.aload_n 0, 1) := by decide +kernel
theorem dX0_init_31 : decode cX0_init 31 = .ok (.bipush 10, 2) := by decide +kernel
theorem dX0_init_33 : decode cX0_init 33 = .ok (.anewarray 28, 3) := by decide +kernel
theorem dX0_init_36 : decode cX0_init 36 = .ok (.putfield 30, 3) := by decide +kernel
theorem dX0_init_39 : decode cX0_init 39 = .ok (.aload_n 0, 1) := by decide +kernel
theorem dX0_init_40 : decode cX0_init 40 = .ok (.bipush 40, 2) := by decide +kernel
theorem dX0_init_42 : decode cX0_init 42 = .ok (.putfield 34, 3) := by decide +kernel
theorem dX0_init_45 : decode cX0_init 45 = .ok (.aload_n 0, 1) := by decide +kernel
theorem dX0_init_46 : decode cX0_init 46 = .ok (.bipush 60, 2) := by decide +kernel
theorem dX0_init_48 : decode cX0_init 48 = .ok (.putfield 38, 3) := by decide +kernel
theorem dX0_init_51 : decode cX0_init 51 = .ok (.iconst 0, 1) := by decide +kernel
theorem dX0_init_52 : decode cX0_init 52 = .ok (.istore_n 1, 1) := by decide +kernel
theorem dX0_init_53 : decode cX0_init 53 = .ok (.iload_n 1, 1) := by decide +kernel
theorem dX0_init_54 : decode cX0_init 54 = .ok (.iconst 4, 1) := by decide +kernel
theorem dX0_init_55 : decode cX0_init 55 = .ok (.if_icmp .ge 22, 3) := by decide +kernel
theorem dX0_init_58 : decode cX0_init 58 = .ok (.aload_n 0, 1) := by decide +kernel
theorem dX0_init_59 : decode cX0_init 59 = .ok (.getfield 20, 3) := by decide +kernel
theorem dX0_init_62 : decode cX0_init 62 = .ok (.iload_n 1, 1) := by decide +kernel
theorem dX0_init_63 : decode cX0_init 63 = .ok (.new 18, 3) := by decide +kernel
theorem dX0_init_66 : decode cX0_init 66 = .ok (.dup, 1) := by decide +kernel
theorem dX0_init_67 : decode cX0_init 67 = .ok (.invokespecial 41, 3) := by decide +kernel
theorem dX0_init_70 : decode cX0_init 70 = .ok (.aastore, 1) := by decide +kernel
theorem dX0_init_71 : decode cX0_init 71 = .ok (.iinc 1 1, 3) := by decide +kernel
theorem dX0_init_74 : decode cX0_init 74 = .ok (.goto (-21), 3) := by decide +kernel
theorem dX0_init_77 : decode cX0_init 77 = .ok (.iconst 0, 1) := by decide +kernel
theorem dX0_init_78 : decode cX0_init 78 = .ok (.istore_n 1, 1) := by decide +kernel
theorem dX0_init_79 : decode cX0_init 79 = .ok (.iload_n 1, 1) := by decide +kernel
theorem dX0_init_80 : decode cX0_init 80 = .ok (.bipush 10, 2) := by decide +kernel
theorem dX0_init_82 : decode cX0_init 82 = .ok (.if_icmp .ge 22, 3) := by decide +kernel
theorem dX0_init_85 : decode cX0_init 85 = .ok (.aload_n 0, 1) := by decide +kernel
theorem dX0_init_86 : decode cX0_init 86 = .ok (.getfield 30, 3) := by decide +kernel
theorem dX0_init_89 : decode cX0_init 89 = .ok (.iload_n 1, 1) := by decide +kernel
theorem dX0_init_90 : decode cX0_init 90 = .ok (.new 28, 3) := by decide +kernel
theorem dX0_init_93 : decode cX0_init 93 = .ok (.dup, 1) := by decide +kernel
theorem dX0_init_94 : decode cX0_init 94 = .ok (.invokespecial 42, 3) := by decide +kernel
theorem dX0_init_97 : decode cX0_init 97 = .ok (.aastore, 1) := by decide +kernel
theorem dX0_init_98 : decode cX0_init 98 = .ok (.iinc 1 1, 3) := by decide +kernel
theorem dX0_init_101 : decode cX0_init 101 = .ok (.goto (-22), 3) := by decide +kernel
theorem dX0_init_104 : decode cX0_init 104 = .ok (.return_, 1) := by decide +kernel
theorem dX0_hasSchool_0 : decode cX0_hasSchool 0 = .ok (.iload_n 1, 1) := by decide +kernel
theorem dX0_hasSchool_1 : decode cX0_hasSchool 1 = .ok (.iconst 0, 1) := by decide +kernel
theorem dX0_hasSchool_2 : decode cX0_hasSchool 2 = .ok (.aload_n 0, 1) := by decide +kernel
theorem dX0_hasSchool_3 : decode cX0_hasSchool 3 = .ok (.getfield 43, 3) := by decide +kernel
theorem dX0_hasSchool_6 : decode cX0_hasSchool 6 = .ok (.iconst 1, 1) := by decide +kernel
theorem dX0_hasSchool_7 : decode cX0_hasSchool 7 = .ok (.isub, 1) := by decide +kernel
theorem dX0_hasSchool_8 : decode cX0_hasSchool 8 = .ok (.invokestatic 46, 3) := by decide +kernel
theorem dX0_hasSchool_11 : decode cX0_hasSchool 11 = .ok (.ireturn, 1) := by decide +kernel
theorem dX0_hasStop_0 : decode cX0_hasStop 0 = .ok (.iload_n 1, 1) := by decide +kernel
theorem dX0_hasStop_1 : decode cX0_hasStop 1 = .ok (.iconst 0, 1) := by decide +kernel
theorem dX0_hasStop_2 : decode cX0_hasStop 2 = .ok (.aload_n 0, 1) := by decide +kernel
theorem dX0_hasStop_3 : decode cX0_hasStop 3 = .ok (.getfield 50, 3) := by decide +kernel
theorem dX0_hasStop_6 : decode cX0_hasStop 6 = .ok (.iconst 1, 1) := by decide +kernel
theorem dX0_hasStop_7 : decode cX0_hasStop 7 = .ok (.isub, 1) := by decide +kernel
theorem dX0_hasStop_8 : decode cX0_hasStop 8 = .ok (.invokestatic 46, 3) := by decide +kernel
theorem dX0_hasStop_11 : decode cX0_hasStop 11 = .ok (.ireturn, 1) := by decide +kernel
theorem dX0_addSchool_0 : decode cX0_addSchool 0 = .ok (.aload_n 0, 1) := by decide +kernel
theorem dX0_addSchool_1 : decode cX0_addSchool 1 = .ok (.getfield 20, 3) := by decide +kernel
theorem dX0_addSchool_4 : decode cX0_addSchool 4 = .ok (.aload_n 0, 1) := by decide +kernel
theorem dX0_addSchool_5 : decode cX0_addSchool 5 = .ok (.getfield 43, 3) := by decide +kernel
theorem dX0_addSchool_8 : decode cX0_addSchool 8 = .ok (.aaload, 1) := by decide +kernel
theorem dX0_addSchool_9 : decode cX0_addSchool 9 = .ok (.astore_n 3, 1) := by decide +kernel
theorem dX0_addSchool_10 : decode cX0_addSchool 10 = .ok (.aload_n 3, 1) := by decide +kernel
theorem dX0_addSchool_11 : decode cX0_addSchool 11 = .ok (.iload_n 1, 1) := by decide +kernel
theorem dX0_addSchool_12 : decode cX0_addSchool 12 = .ok (.putfield 53, 3) := by decide +kernel
theorem dX0_addSchool_15 : decode cX0_addSchool 15 = .ok (.aload_n 3, 1) := by decide +kernel
theorem dX0_addSchool_16 : decode cX0_addSchool 16 = .ok (.iload_n 2, 1) := by decide +kernel
theorem dX0_addSchool_17 : decode cX0_addSchool 17 = .ok (.putfield 56, 3) := by decide +kernel
theorem dX0_addSchool_20 : decode cX0_addSchool 20 = .ok (.aload_n 3, 1) := by decide +kernel
theorem dX0_addSchool_21 : decode cX0_addSchool 21 = .ok (.iconst 3, 1) := by decide +kernel
theorem dX0_addSchool_22 : decode cX0_addSchool 22 = .ok (.putfield 59, 3) := by decide +kernel
theorem dX0_addSchool_25 : decode cX0_addSchool 25 = .ok (.aload_n 0, 1) := by decide +kernel
theorem dX0_addSchool_26 : decode cX0_addSchool 26 = .ok (.getfield 24, 3) := by decide +kernel
theorem dX0_addSchool_29 : decode cX0_addSchool 29 = .ok (.aload_n 0, 1) := by decide +kernel
theorem dX0_addSchool_30 : decode cX0_addSchool 30 = .ok (.getfield 43, 3) := by decide +kernel
theorem dX0_addSchool_33 : decode cX0_addSchool 33 = .ok (.iconst 0, 1) := by decide +kernel
theorem dX0_addSchool_34 : decode cX0_addSchool 34 = .ok (.iastore, 1) := by decide +kernel
theorem dX0_addSchool_35 : decode cX0_addSchool 35 = .ok (.aload_n 0, 1) := by decide +kernel
theorem dX0_addSchool_36 : decode cX0_addSchool 36 = .ok (.dup, 1) := by decide +kernel
theorem dX0_addSchool_37 : decode cX0_addSchool 37 = .ok (.getfield 43, 3) := by decide +kernel
theorem dX0_addSchool_40 : decode cX0_addSchool 40 = .ok (.iconst 1, 1) := by decide +kernel
theorem dX0_addSchool_41 : decode cX0_addSchool 41 = .ok (.iadd, 1) := by decide +kernel
theorem dX0_addSchool_42 : decode cX0_addSchool 42 = .ok (.putfield 43, 3) := by decide +kernel
theorem dX0_addSchool_45 : decode cX0_addSchool 45 = .ok (.aload_n 0, 1) := by decide +kernel
theorem dX0_addSchool_46 : decode cX0_addSchool 46 = .ok (.getfield 43, 3) := by decide +kernel
theorem dX0_addSchool_49 : decode cX0_addSchool 49 = .ok (.iconst 1, 1) := by decide +kernel
theorem dX0_addSchool_50 : decode cX0_addSchool 50 = .ok (.isub, 1) := by decide +kernel
theorem dX0_addSchool_51 : decode cX0_addSchool 51 = .ok (.ireturn, 1) := by decide +kernel
theorem dX0_addStop_0 : decode cX0_addStop 0 = .ok (.aload_n 0, 1) := by decide +kernel
theorem dX0_addStop_1 : decode cX0_addStop 1 = .ok (.getfield 30, 3) := by decide +kernel
theorem dX0_addStop_4 : decode cX0_addStop 4 = .ok (.aload_n 0, 1) := by decide +kernel
theorem dX0_addStop_5 : decode cX0_addStop 5 = .ok (.getfield 50, 3) := by decide +kernel
theorem dX0_addStop_8 : decode cX0_addStop 8 = .ok (.aaload, 1) := by decide +kernel
theorem dX0_addStop_9 : decode cX0_addStop 9 = .ok (.astore 5, 2) := by decide +kernel
theorem dX0_addStop_11 : decode cX0_addStop 11 = .ok (.aload 5, 2) := by decide +kernel
theorem dX0_addStop_13 : decode cX0_addStop 13 = .ok (.iload_n 1, 1) := by decide +kernel
theorem dX0_addStop_14 : decode cX0_addStop 14 = .ok (.putfield 62, 3) := by decide +kernel
theorem dX0_addStop_17 : decode cX0_addStop 17 = .ok (.aload 5, 2) := by decide +kernel
theorem dX0_addStop_19 : decode cX0_addStop 19 = .ok (.iload_n 2, 1) := by decide +kernel
theorem dX0_addStop_20 : decode cX0_addStop 20 = .ok (.putfield 65, 3) := by decide +kernel
theorem dX0_addStop_23 : decode cX0_addStop 23 = .ok (.aload 5, 2) := by decide +kernel
theorem dX0_addStop_25 : decode cX0_addStop 25 = .ok (.iload_n 3, 1) := by decide +kernel
theorem dX0_addStop_26 : decode cX0_addStop 26 = .ok (.putfield 66, 3) := by decide +kernel
theorem dX0_addStop_29 : decode cX0_addStop 29 = .ok (.aload 5, 2) := by decide +kernel
theorem dX0_addStop_31 : decode cX0_addStop 31 = .ok (.iload 4, 2) := by decide +kernel
theorem dX0_addStop_33 : decode cX0_addStop 33 = .ok (.putfield 69, 3) := by decide +kernel
theorem dX0_addStop_36 : decode cX0_addStop 36 = .ok (.aload_n 0, 1) := by decide +kernel
theorem dX0_addStop_37 : decode cX0_addStop 37 = .ok (.dup, 1) := by decide +kernel
theorem dX0_addStop_38 : decode cX0_addStop 38 = .ok (.getfield 50, 3) := by decide +kernel
theorem dX0_addStop_41 : decode cX0_addStop 41 = .ok (.iconst 1, 1) := by decide +kernel
theorem dX0_addStop_42 : decode cX0_addStop 42 = .ok (.iadd, 1) := by decide +kernel
theorem dX0_addStop_43 : decode cX0_addStop 43 = .ok (.putfield 50, 3) := by decide +kernel
theorem dX0_addStop_46 : decode cX0_addStop 46 = .ok (.aload_n 0, 1) := by decide +kernel
theorem dX0_addStop_47 : decode cX0_addStop 47 = .ok (.getfield 50, 3) := by decide +kernel
theorem dX0_addStop_50 : decode cX0_addStop 50 = .ok (.iconst 1, 1) := by decide +kernel
theorem dX0_addStop_51 : decode cX0_addStop 51 = .ok (.isub, 1) := by decide +kernel
theorem dX0_addStop_52 : decode cX0_addStop 52 = .ok (.ireturn, 1) := by decide +kernel
theorem dX0_removeStop_0 : decode cX0_removeStop 0 = .ok (.aload_n 0, 1) := by decide +kernel
theorem dX0_removeStop_1 : decode cX0_removeStop 1 = .ok (.getfield 30, 3) := by decide +kernel
theorem dX0_removeStop_4 : decode cX0_removeStop 4 = .ok (.iload_n 1, 1) := by decide +kernel
theorem dX0_removeStop_5 : decode cX0_removeStop 5 = .ok (.aaload, 1) := by decide +kernel
theorem dX0_removeStop_6 : decode cX0_removeStop 6 = .ok (.astore_n 2, 1) := by decide +kernel
theorem dX0_removeStop_7 : decode cX0_removeStop 7 = .ok (.iload_n 1, 1) := by decide +kernel
theorem dX0_removeStop_8 : decode cX0_removeStop 8 = .ok (.istore_n 3, 1) := by decide +kernel
theorem dX0_removeStop_9 : decode cX0_removeStop 9 = .ok (.iload_n 3, 1) := by decide +kernel
theorem dX0_removeStop_10 : decode cX0_removeStop 10 = .ok (.iconst 1, 1) := by decide +kernel
theorem dX0_removeStop_11 : decode cX0_removeStop 11 = .ok (.iadd, 1) := by decide +kernel
theorem dX0_removeStop_12 : decode cX0_removeStop 12 = .ok (.aload_n 0, 1) := by decide +kernel
theorem dX0_removeStop_13 : decode cX0_removeStop 13 = .ok (.getfield 50, 3) := by decide +kernel
theorem dX0_removeStop_16 : decode cX0_removeStop 16 = .ok (.if_icmp .ge 23, 3) := by decide +kernel
theorem dX0_removeStop_19 : decode cX0_removeStop 19 = .ok (.aload_n 0, 1) := by decide +kernel
theorem dX0_removeStop_20 : decode cX0_removeStop 20 = .ok (.getfield 30, 3) := by decide +kernel
theorem dX0_removeStop_23 : decode cX0_removeStop 23 = .ok (.iload_n 3, 1) := by decide +kernel
theorem dX0_removeStop_24 : decode cX0_removeStop 24 = .ok (.aload_n 0, 1) := by decide +kernel
theorem dX0_removeStop_25 : decode cX0_removeStop 25 = .ok (.getfield 30, 3) := by decide +kernel
theorem dX0_removeStop_28 : decode cX0_removeStop 28 = .ok (.iload_n 3, 1) := by decide +kernel
theorem dX0_removeStop_29 : decode cX0_removeStop 29 = .ok (.iconst 1, 1) := by decide +kernel
theorem dX0_removeStop_30 : decode cX0_removeStop 30 = .ok (.iadd, 1) := by decide +kernel
theorem dX0_removeStop_31 : decode cX0_removeStop 31 = .ok (.aaload, 1) := by decide +kernel
theorem dX0_removeStop_32 : decode cX0_removeStop 32 = .ok (.aastore, 1) := by decide +kernel
theorem dX0_removeStop_33 : decode cX0_removeStop 33 = .ok (.iinc 3 1, 3) := by decide +kernel
theorem dX0_removeStop_36 : decode cX0_removeStop 36 = .ok (.goto (-27), 3) := by decide +kernel
theorem dX0_removeStop_39 : decode cX0_removeStop 39 = .ok (.aload_n 0, 1) := by decide +kernel
theorem dX0_removeStop_40 : decode cX0_removeStop 40 = .ok (.dup, 1) := by decide +kernel
theorem dX0_removeStop_41 : decode cX0_removeStop 41 = .ok (.getfield 50, 3) := by decide +kernel
theorem dX0_removeStop_44 : decode cX0_removeStop 44 = .ok (.iconst 1, 1) := by decide +kernel
theorem dX0_removeStop_45 : decode cX0_removeStop 45 = .ok (.isub, 1) := by decide +kernel
theorem dX0_removeStop_46 : decode cX0_removeStop 46 = .ok (.putfield 50, 3) := by decide +kernel
theorem dX0_removeStop_49 : decode cX0_removeStop 49 = .ok (.aload_n 0, 1) := by decide +kernel
theorem dX0_removeStop_50 : decode cX0_removeStop 50 = .ok (.getfield 30, 3) := by decide +kernel
theorem dX0_removeStop_53 : decode cX0_removeStop 53 = .ok (.aload_n 0, 1) := by decide +kernel
theorem dX0_removeStop_54 : decode cX0_removeStop 54 = .ok (.getfield 50, 3) := by decide +kernel
theorem dX0_removeStop_57 : decode cX0_removeStop 57 = .ok (.aload_n 2, 1) := by decide +kernel
theorem dX0_removeStop_58 : decode cX0_removeStop 58 = .ok (.aastore, 1) := by decide +kernel
theorem dX0_removeStop_59 : decode cX0_removeStop 59 = .ok (.return_, 1) := by decide +kernel
theorem dX0_rings_0 : decode cX0_rings 0 = .ok (.bipush 60, 2) := by decide +kernel
theorem dX0_rings_2 : decode cX0_rings 2 = .ok (.bipush 20, 2) := by decide +kernel
theorem dX0_rings_4 : decode cX0_rings 4 = .ok (.aload_n 0, 1) := by decide +kernel
theorem dX0_rings_5 : decode cX0_rings 5 = .ok (.getfield 24, 3) := by decide +kernel
theorem dX0_rings_8 : decode cX0_rings 8 = .ok (.iload_n 1, 1) := by decide +kernel
theorem dX0_rings_9 : decode cX0_rings 9 = .ok (.iaload, 1) := by decide +kernel
theorem dX0_rings_10 : decode cX0_rings 10 = .ok (.imul, 1) := by decide +kernel
theorem dX0_rings_11 : decode cX0_rings 11 = .ok (.iadd, 1) := by decide +kernel
theorem dX0_rings_12 : decode cX0_rings 12 = .ok (.ireturn, 1) := by decide +kernel
theorem dX0_longest_0 : decode cX0_longest 0 = .ok (.aload_n 0, 1) := by decide +kernel
theorem dX0_longest_1 : decode cX0_longest 1 = .ok (.getfield 20, 3) := by decide +kernel
theorem dX0_longest_4 : decode cX0_longest 4 = .ok (.iload_n 1, 1) := by decide +kernel
theorem dX0_longest_5 : decode cX0_longest 5 = .ok (.aaload, 1) := by decide +kernel
theorem dX0_longest_6 : decode cX0_longest 6 = .ok (.getfield 53, 3) := by decide +kernel
theorem dX0_longest_9 : decode cX0_longest 9 = .ok (.iconst 3, 1) := by decide +kernel
theorem dX0_longest_10 : decode cX0_longest 10 = .ok (.if_icmp .ne 12, 3) := by decide +kernel
theorem dX0_longest_13 : decode cX0_longest 13 = .ok (.aload_n 0, 1) := by decide +kernel
theorem dX0_longest_14 : decode cX0_longest 14 = .ok (.getfield 38, 3) := by decide +kernel
theorem dX0_longest_17 : decode cX0_longest 17 = .ok (.iconst 2, 1) := by decide +kernel
theorem dX0_longest_18 : decode cX0_longest 18 = .ok (.idiv, 1) := by decide +kernel
theorem dX0_longest_19 : decode cX0_longest 19 = .ok (.goto 7, 3) := by decide +kernel
theorem dX0_longest_22 : decode cX0_longest 22 = .ok (.aload_n 0, 1) := by decide +kernel
theorem dX0_longest_23 : decode cX0_longest 23 = .ok (.getfield 38, 3) := by decide +kernel
theorem dX0_longest_26 : decode cX0_longest 26 = .ok (.ireturn, 1) := by decide +kernel
theorem dX0_stopsOf_0 : decode cX0_stopsOf 0 = .ok (.iconst 0, 1) := by decide +kernel
theorem dX0_stopsOf_1 : decode cX0_stopsOf 1 = .ok (.istore_n 2, 1) := by decide +kernel
theorem dX0_stopsOf_2 : decode cX0_stopsOf 2 = .ok (.iconst 0, 1) := by decide +kernel
theorem dX0_stopsOf_3 : decode cX0_stopsOf 3 = .ok (.istore_n 3, 1) := by decide +kernel
theorem dX0_stopsOf_4 : decode cX0_stopsOf 4 = .ok (.iload_n 3, 1) := by decide +kernel
theorem dX0_stopsOf_5 : decode cX0_stopsOf 5 = .ok (.aload_n 0, 1) := by decide +kernel
theorem dX0_stopsOf_6 : decode cX0_stopsOf 6 = .ok (.getfield 50, 3) := by decide +kernel
theorem dX0_stopsOf_9 : decode cX0_stopsOf 9 = .ok (.if_icmp .ge 25, 3) := by decide +kernel
theorem dX0_stopsOf_12 : decode cX0_stopsOf 12 = .ok (.aload_n 0, 1) := by decide +kernel
theorem dX0_stopsOf_13 : decode cX0_stopsOf 13 = .ok (.getfield 30, 3) := by decide +kernel
theorem dX0_stopsOf_16 : decode cX0_stopsOf 16 = .ok (.iload_n 3, 1) := by decide +kernel
theorem dX0_stopsOf_17 : decode cX0_stopsOf 17 = .ok (.aaload, 1) := by decide +kernel
theorem dX0_stopsOf_18 : decode cX0_stopsOf 18 = .ok (.getfield 62, 3) := by decide +kernel
theorem dX0_stopsOf_21 : decode cX0_stopsOf 21 = .ok (.iload_n 1, 1) := by decide +kernel
theorem dX0_stopsOf_22 : decode cX0_stopsOf 22 = .ok (.if_icmp .ne 6, 3) := by decide +kernel
theorem dX0_stopsOf_25 : decode cX0_stopsOf 25 = .ok (.iinc 2 1, 3) := by decide +kernel
theorem dX0_stopsOf_28 : decode cX0_stopsOf 28 = .ok (.iinc 3 1, 3) := by decide +kernel
theorem dX0_stopsOf_31 : decode cX0_stopsOf 31 = .ok (.goto (-27), 3) := by decide +kernel
theorem dX0_stopsOf_34 : decode cX0_stopsOf 34 = .ok (.iload_n 2, 1) := by decide +kernel
theorem dX0_stopsOf_35 : decode cX0_stopsOf 35 = .ok (.ireturn, 1) := by decide +kernel
theorem dX0_pupilsOf_0 : decode cX0_pupilsOf 0 = .ok (.iconst 0, 1) := by decide +kernel
theorem dX0_pupilsOf_1 : decode cX0_pupilsOf 1 = .ok (.istore_n 2, 1) := by decide +kernel
theorem dX0_pupilsOf_2 : decode cX0_pupilsOf 2 = .ok (.iconst 0, 1) := by decide +kernel
theorem dX0_pupilsOf_3 : decode cX0_pupilsOf 3 = .ok (.istore_n 3, 1) := by decide +kernel
theorem dX0_pupilsOf_4 : decode cX0_pupilsOf 4 = .ok (.iload_n 3, 1) := by decide +kernel
theorem dX0_pupilsOf_5 : decode cX0_pupilsOf 5 = .ok (.aload_n 0, 1) := by decide +kernel
theorem dX0_pupilsOf_6 : decode cX0_pupilsOf 6 = .ok (.getfield 50, 3) := by decide +kernel
theorem dX0_pupilsOf_9 : decode cX0_pupilsOf 9 = .ok (.if_icmp .ge 34, 3) := by decide +kernel
theorem dX0_pupilsOf_12 : decode cX0_pupilsOf 12 = .ok (.aload_n 0, 1) := by decide +kernel
theorem dX0_pupilsOf_13 : decode cX0_pupilsOf 13 = .ok (.getfield 30, 3) := by decide +kernel
theorem dX0_pupilsOf_16 : decode cX0_pupilsOf 16 = .ok (.iload_n 3, 1) := by decide +kernel
theorem dX0_pupilsOf_17 : decode cX0_pupilsOf 17 = .ok (.aaload, 1) := by decide +kernel
theorem dX0_pupilsOf_18 : decode cX0_pupilsOf 18 = .ok (.getfield 62, 3) := by decide +kernel
theorem dX0_pupilsOf_21 : decode cX0_pupilsOf 21 = .ok (.iload_n 1, 1) := by decide +kernel
theorem dX0_pupilsOf_22 : decode cX0_pupilsOf 22 = .ok (.if_icmp .ne 15, 3) := by decide +kernel
theorem dX0_pupilsOf_25 : decode cX0_pupilsOf 25 = .ok (.iload_n 2, 1) := by decide +kernel
theorem dX0_pupilsOf_26 : decode cX0_pupilsOf 26 = .ok (.aload_n 0, 1) := by decide +kernel
theorem dX0_pupilsOf_27 : decode cX0_pupilsOf 27 = .ok (.getfield 30, 3) := by decide +kernel
theorem dX0_pupilsOf_30 : decode cX0_pupilsOf 30 = .ok (.iload_n 3, 1) := by decide +kernel
theorem dX0_pupilsOf_31 : decode cX0_pupilsOf 31 = .ok (.aaload, 1) := by decide +kernel
theorem dX0_pupilsOf_32 : decode cX0_pupilsOf 32 = .ok (.getfield 66, 3) := by decide +kernel
theorem dX0_pupilsOf_35 : decode cX0_pupilsOf 35 = .ok (.iadd, 1) := by decide +kernel
theorem dX0_pupilsOf_36 : decode cX0_pupilsOf 36 = .ok (.istore_n 2, 1) := by decide +kernel
theorem dX0_pupilsOf_37 : decode cX0_pupilsOf 37 = .ok (.iinc 3 1, 3) := by decide +kernel
theorem dX0_pupilsOf_40 : decode cX0_pupilsOf 40 = .ok (.goto (-36), 3) := by decide +kernel
theorem dX0_pupilsOf_43 : decode cX0_pupilsOf 43 = .ok (.iload_n 2, 1) := by decide +kernel
theorem dX0_pupilsOf_44 : decode cX0_pupilsOf 44 = .ok (.ireturn, 1) := by decide +kernel
theorem dX0_costOf_0 : decode cX0_costOf 0 = .ok (.bipush 20, 2) := by decide +kernel
theorem dX0_costOf_2 : decode cX0_costOf 2 = .ok (.aload_n 0, 1) := by decide +kernel
theorem dX0_costOf_3 : decode cX0_costOf 3 = .ok (.iload_n 1, 1) := by decide +kernel
theorem dX0_costOf_4 : decode cX0_costOf 4 = .ok (.invokevirtual 72, 3) := by decide +kernel
theorem dX0_costOf_7 : decode cX0_costOf 7 = .ok (.imul, 1) := by decide +kernel
theorem dX0_costOf_8 : decode cX0_costOf 8 = .ok (.iload_n 2, 1) := by decide +kernel
theorem dX0_costOf_9 : decode cX0_costOf 9 = .ok (.aload_n 0, 1) := by decide +kernel
theorem dX0_costOf_10 : decode cX0_costOf 10 = .ok (.getfield 20, 3) := by decide +kernel
theorem dX0_costOf_13 : decode cX0_costOf 13 = .ok (.iload_n 1, 1) := by decide +kernel
theorem dX0_costOf_14 : decode cX0_costOf 14 = .ok (.aaload, 1) := by decide +kernel
theorem dX0_costOf_15 : decode cX0_costOf 15 = .ok (.getfield 59, 3) := by decide +kernel
theorem dX0_costOf_18 : decode cX0_costOf 18 = .ok (.isub, 1) := by decide +kernel
theorem dX0_costOf_19 : decode cX0_costOf 19 = .ok (.invokestatic 76, 3) := by decide +kernel
theorem dX0_costOf_22 : decode cX0_costOf 22 = .ok (.imul, 1) := by decide +kernel
theorem dX0_costOf_23 : decode cX0_costOf 23 = .ok (.ireturn, 1) := by decide +kernel
theorem dX0_minutesFrom_0 : decode cX0_minutesFrom 0 = .ok (.aload_n 1, 1) := by decide +kernel
theorem dX0_minutesFrom_1 : decode cX0_minutesFrom 1 = .ok (.getfield 81, 3) := by decide +kernel
theorem dX0_minutesFrom_4 : decode cX0_minutesFrom 4 = .ok (.iload_n 2, 1) := by decide +kernel
theorem dX0_minutesFrom_5 : decode cX0_minutesFrom 5 = .ok (.iconst 1, 1) := by decide +kernel
theorem dX0_minutesFrom_6 : decode cX0_minutesFrom 6 = .ok (.iadd, 1) := by decide +kernel
theorem dX0_minutesFrom_7 : decode cX0_minutesFrom 7 = .ok (.iaload, 1) := by decide +kernel
theorem dX0_minutesFrom_8 : decode cX0_minutesFrom 8 = .ok (.istore 5, 2) := by decide +kernel
theorem dX0_minutesFrom_10 : decode cX0_minutesFrom 10 = .ok (.iconst 0, 1) := by decide +kernel
theorem dX0_minutesFrom_11 : decode cX0_minutesFrom 11 = .ok (.istore 6, 2) := by decide +kernel
theorem dX0_minutesFrom_13 : decode cX0_minutesFrom 13 = .ok (.iload_n 3, 1) := by decide +kernel
theorem dX0_minutesFrom_14 : decode cX0_minutesFrom 14 = .ok (.istore 7, 2) := by decide +kernel
theorem dX0_minutesFrom_16 : decode cX0_minutesFrom 16 = .ok (.iload 7, 2) := by decide +kernel
theorem dX0_minutesFrom_18 : decode cX0_minutesFrom 18 = .ok (.iload 5, 2) := by decide +kernel
theorem dX0_minutesFrom_20 : decode cX0_minutesFrom 20 = .ok (.if_icmp .ge 76, 3) := by decide +kernel
theorem dX0_minutesFrom_23 : decode cX0_minutesFrom 23 = .ok (.aload_n 0, 1) := by decide +kernel
theorem dX0_minutesFrom_24 : decode cX0_minutesFrom 24 = .ok (.getfield 30, 3) := by decide +kernel
theorem dX0_minutesFrom_27 : decode cX0_minutesFrom 27 = .ok (.aload_n 1, 1) := by decide +kernel
theorem dX0_minutesFrom_28 : decode cX0_minutesFrom 28 = .ok (.getfield 84, 3) := by decide +kernel
theorem dX0_minutesFrom_31 : decode cX0_minutesFrom 31 = .ok (.iload 7, 2) := by decide +kernel
theorem dX0_minutesFrom_33 : decode cX0_minutesFrom 33 = .ok (.iaload, 1) := by decide +kernel
theorem dX0_minutesFrom_34 : decode cX0_minutesFrom 34 = .ok (.aaload, 1) := by decide +kernel
theorem dX0_minutesFrom_35 : decode cX0_minutesFrom 35 = .ok (.getfield 65, 3) := by decide +kernel
theorem dX0_minutesFrom_38 : decode cX0_minutesFrom 38 = .ok (.istore 8, 2) := by decide +kernel
theorem dX0_minutesFrom_40 : decode cX0_minutesFrom 40 = .ok (.iload 7, 2) := by decide +kernel
theorem dX0_minutesFrom_42 : decode cX0_minutesFrom 42 = .ok (.iconst 1, 1) := by decide +kernel
theorem dX0_minutesFrom_43 : decode cX0_minutesFrom 43 = .ok (.iadd, 1) := by decide +kernel
theorem dX0_minutesFrom_44 : decode cX0_minutesFrom 44 = .ok (.iload 5, 2) := by decide +kernel
theorem dX0_minutesFrom_46 : decode cX0_minutesFrom 46 = .ok (.if_icmp .ge 23, 3) := by decide +kernel
theorem dX0_minutesFrom_49 : decode cX0_minutesFrom 49 = .ok (.aload_n 0, 1) := by decide +kernel
theorem dX0_minutesFrom_50 : decode cX0_minutesFrom 50 = .ok (.getfield 30, 3) := by decide +kernel
theorem dX0_minutesFrom_53 : decode cX0_minutesFrom 53 = .ok (.aload_n 1, 1) := by decide +kernel
theorem dX0_minutesFrom_54 : decode cX0_minutesFrom 54 = .ok (.getfield 84, 3) := by decide +kernel
theorem dX0_minutesFrom_57 : decode cX0_minutesFrom 57 = .ok (.iload 7, 2) := by decide +kernel
theorem dX0_minutesFrom_59 : decode cX0_minutesFrom 59 = .ok (.iconst 1, 1) := by decide +kernel
theorem dX0_minutesFrom_60 : decode cX0_minutesFrom 60 = .ok (.iadd, 1) := by decide +kernel
theorem dX0_minutesFrom_61 : decode cX0_minutesFrom 61 = .ok (.iaload, 1) := by decide +kernel
theorem dX0_minutesFrom_62 : decode cX0_minutesFrom 62 = .ok (.aaload, 1) := by decide +kernel
theorem dX0_minutesFrom_63 : decode cX0_minutesFrom 63 = .ok (.getfield 65, 3) := by decide +kernel
theorem dX0_minutesFrom_66 : decode cX0_minutesFrom 66 = .ok (.goto 7, 3) := by decide +kernel
theorem dX0_minutesFrom_69 : decode cX0_minutesFrom 69 = .ok (.aload_n 1, 1) := by decide +kernel
theorem dX0_minutesFrom_70 : decode cX0_minutesFrom 70 = .ok (.getfield 56, 3) := by decide +kernel
theorem dX0_minutesFrom_73 : decode cX0_minutesFrom 73 = .ok (.istore 9, 2) := by decide +kernel
theorem dX0_minutesFrom_75 : decode cX0_minutesFrom 75 = .ok (.iload 6, 2) := by decide +kernel
theorem dX0_minutesFrom_77 : decode cX0_minutesFrom 77 = .ok (.iconst 1, 1) := by decide +kernel
theorem dX0_minutesFrom_78 : decode cX0_minutesFrom 78 = .ok (.aload 4, 2) := by decide +kernel
theorem dX0_minutesFrom_80 : decode cX0_minutesFrom 80 = .ok (.iload 8, 2) := by decide +kernel
theorem dX0_minutesFrom_82 : decode cX0_minutesFrom 82 = .ok (.aaload, 1) := by decide +kernel
theorem dX0_minutesFrom_83 : decode cX0_minutesFrom 83 = .ok (.iload 9, 2) := by decide +kernel
theorem dX0_minutesFrom_85 : decode cX0_minutesFrom 85 = .ok (.iaload, 1) := by decide +kernel
theorem dX0_minutesFrom_86 : decode cX0_minutesFrom 86 = .ok (.iadd, 1) := by decide +kernel
theorem dX0_minutesFrom_87 : decode cX0_minutesFrom 87 = .ok (.iadd, 1) := by decide +kernel
theorem dX0_minutesFrom_88 : decode cX0_minutesFrom 88 = .ok (.istore 6, 2) := by decide +kernel
theorem dX0_minutesFrom_90 : decode cX0_minutesFrom 90 = .ok (.iinc 7 1, 3) := by decide +kernel
theorem dX0_minutesFrom_93 : decode cX0_minutesFrom 93 = .ok (.goto (-77), 3) := by decide +kernel
theorem dX0_minutesFrom_96 : decode cX0_minutesFrom 96 = .ok (.iload 6, 2) := by decide +kernel
theorem dX0_minutesFrom_98 : decode cX0_minutesFrom 98 = .ok (.ireturn, 1) := by decide +kernel
theorem dX0_rideOf_0 : decode cX0_rideOf 0 = .ok (.aload_n 0, 1) := by decide +kernel
theorem dX0_rideOf_1 : decode cX0_rideOf 1 = .ok (.getfield 20, 3) := by decide +kernel
theorem dX0_rideOf_4 : decode cX0_rideOf 4 = .ok (.aload_n 0, 1) := by decide +kernel
theorem dX0_rideOf_5 : decode cX0_rideOf 5 = .ok (.getfield 30, 3) := by decide +kernel
theorem dX0_rideOf_8 : decode cX0_rideOf 8 = .ok (.iload_n 1, 1) := by decide +kernel
theorem dX0_rideOf_9 : decode cX0_rideOf 9 = .ok (.aaload, 1) := by decide +kernel
theorem dX0_rideOf_10 : decode cX0_rideOf 10 = .ok (.getfield 62, 3) := by decide +kernel
theorem dX0_rideOf_13 : decode cX0_rideOf 13 = .ok (.aaload, 1) := by decide +kernel
theorem dX0_rideOf_14 : decode cX0_rideOf 14 = .ok (.astore_n 2, 1) := by decide +kernel
theorem dX0_rideOf_15 : decode cX0_rideOf 15 = .ok (.iconst 0, 1) := by decide +kernel
theorem dX0_rideOf_16 : decode cX0_rideOf 16 = .ok (.istore_n 3, 1) := by decide +kernel
theorem dX0_rideOf_17 : decode cX0_rideOf 17 = .ok (.iload_n 3, 1) := by decide +kernel
theorem dX0_rideOf_18 : decode cX0_rideOf 18 = .ok (.aload_n 2, 1) := by decide +kernel
theorem dX0_rideOf_19 : decode cX0_rideOf 19 = .ok (.getfield 87, 3) := by decide +kernel
theorem dX0_rideOf_22 : decode cX0_rideOf 22 = .ok (.if_icmp .ge 63, 3) := by decide +kernel
theorem dX0_rideOf_25 : decode cX0_rideOf 25 = .ok (.aload_n 2, 1) := by decide +kernel
theorem dX0_rideOf_26 : decode cX0_rideOf 26 = .ok (.getfield 81, 3) := by decide +kernel
theorem dX0_rideOf_29 : decode cX0_rideOf 29 = .ok (.iload_n 3, 1) := by decide +kernel
theorem dX0_rideOf_30 : decode cX0_rideOf 30 = .ok (.iaload, 1) := by decide +kernel
theorem dX0_rideOf_31 : decode cX0_rideOf 31 = .ok (.istore 4, 2) := by decide +kernel
theorem dX0_rideOf_33 : decode cX0_rideOf 33 = .ok (.iload 4, 2) := by decide +kernel
theorem dX0_rideOf_35 : decode cX0_rideOf 35 = .ok (.aload_n 2, 1) := by decide +kernel
theorem dX0_rideOf_36 : decode cX0_rideOf 36 = .ok (.getfield 81, 3) := by decide +kernel
theorem dX0_rideOf_39 : decode cX0_rideOf 39 = .ok (.iload_n 3, 1) := by decide +kernel
theorem dX0_rideOf_40 : decode cX0_rideOf 40 = .ok (.iconst 1, 1) := by decide +kernel
theorem dX0_rideOf_41 : decode cX0_rideOf 41 = .ok (.iadd, 1) := by decide +kernel
theorem dX0_rideOf_42 : decode cX0_rideOf 42 = .ok (.iaload, 1) := by decide +kernel
theorem dX0_rideOf_43 : decode cX0_rideOf 43 = .ok (.if_icmp .ge 36, 3) := by decide +kernel
theorem dX0_rideOf_46 : decode cX0_rideOf 46 = .ok (.aload_n 2, 1) := by decide +kernel
theorem dX0_rideOf_47 : decode cX0_rideOf 47 = .ok (.getfield 84, 3) := by decide +kernel
theorem dX0_rideOf_50 : decode cX0_rideOf 50 = .ok (.iload 4, 2) := by decide +kernel
theorem dX0_rideOf_52 : decode cX0_rideOf 52 = .ok (.iaload, 1) := by decide +kernel
theorem dX0_rideOf_53 : decode cX0_rideOf 53 = .ok (.iload_n 1, 1) := by decide +kernel
theorem dX0_rideOf_54 : decode cX0_rideOf 54 = .ok (.if_icmp .ne 19, 3) := by decide +kernel
theorem dX0_rideOf_57 : decode cX0_rideOf 57 = .ok (.aload_n 0, 1) := by decide +kernel
theorem dX0_rideOf_58 : decode cX0_rideOf 58 = .ok (.aload_n 2, 1) := by decide +kernel
theorem dX0_rideOf_59 : decode cX0_rideOf 59 = .ok (.iload_n 3, 1) := by decide +kernel
theorem dX0_rideOf_60 : decode cX0_rideOf 60 = .ok (.iload 4, 2) := by decide +kernel
theorem dX0_rideOf_62 : decode cX0_rideOf 62 = .ok (.aload_n 0, 1) := by decide +kernel
theorem dX0_rideOf_63 : decode cX0_rideOf 63 = .ok (.getfield 12, 3) := by decide +kernel
theorem dX0_rideOf_66 : decode cX0_rideOf 66 = .ok (.invokevirtual 90, 3) := by decide +kernel
theorem dX0_rideOf_69 : decode cX0_rideOf 69 = .ok (.invokevirtual 94, 3) := by decide +kernel
theorem dX0_rideOf_72 : decode cX0_rideOf 72 = .ok (.ireturn, 1) := by decide +kernel
theorem dX0_rideOf_73 : decode cX0_rideOf 73 = .ok (.iinc 4 1, 3) := by decide +kernel
theorem dX0_rideOf_76 : decode cX0_rideOf 76 = .ok (.goto (-43), 3) := by decide +kernel
theorem dX0_rideOf_79 : decode cX0_rideOf 79 = .ok (.iinc 3 1, 3) := by decide +kernel
theorem dX0_rideOf_82 : decode cX0_rideOf 82 = .ok (.goto (-65), 3) := by decide +kernel
theorem dX0_rideOf_85 : decode cX0_rideOf 85 = .ok (.iconst 0, 1) := by decide +kernel
theorem dX0_rideOf_86 : decode cX0_rideOf 86 = .ok (.ireturn, 1) := by decide +kernel
theorem dX0_pupilsFrom_0 : decode cX0_pupilsFrom 0 = .ok (.iconst 0, 1) := by decide +kernel
theorem dX0_pupilsFrom_1 : decode cX0_pupilsFrom 1 = .ok (.istore_n 2, 1) := by decide +kernel
theorem dX0_pupilsFrom_2 : decode cX0_pupilsFrom 2 = .ok (.iconst 0, 1) := by decide +kernel
theorem dX0_pupilsFrom_3 : decode cX0_pupilsFrom 3 = .ok (.istore_n 3, 1) := by decide +kernel
theorem dX0_pupilsFrom_4 : decode cX0_pupilsFrom 4 = .ok (.iload_n 3, 1) := by decide +kernel
theorem dX0_pupilsFrom_5 : decode cX0_pupilsFrom 5 = .ok (.aload_n 0, 1) := by decide +kernel
theorem dX0_pupilsFrom_6 : decode cX0_pupilsFrom 6 = .ok (.getfield 50, 3) := by decide +kernel
theorem dX0_pupilsFrom_9 : decode cX0_pupilsFrom 9 = .ok (.if_icmp .ge 34, 3) := by decide +kernel
theorem dX0_pupilsFrom_12 : decode cX0_pupilsFrom 12 = .ok (.aload_n 0, 1) := by decide +kernel
theorem dX0_pupilsFrom_13 : decode cX0_pupilsFrom 13 = .ok (.getfield 30, 3) := by decide +kernel
theorem dX0_pupilsFrom_16 : decode cX0_pupilsFrom 16 = .ok (.iload_n 3, 1) := by decide +kernel
theorem dX0_pupilsFrom_17 : decode cX0_pupilsFrom 17 = .ok (.aaload, 1) := by decide +kernel
theorem dX0_pupilsFrom_18 : decode cX0_pupilsFrom 18 = .ok (.getfield 69, 3) := by decide +kernel
theorem dX0_pupilsFrom_21 : decode cX0_pupilsFrom 21 = .ok (.iload_n 1, 1) := by decide +kernel
theorem dX0_pupilsFrom_22 : decode cX0_pupilsFrom 22 = .ok (.if_icmp .ne 15, 3) := by decide +kernel
theorem dX0_pupilsFrom_25 : decode cX0_pupilsFrom 25 = .ok (.iload_n 2, 1) := by decide +kernel
theorem dX0_pupilsFrom_26 : decode cX0_pupilsFrom 26 = .ok (.aload_n 0, 1) := by decide +kernel
theorem dX0_pupilsFrom_27 : decode cX0_pupilsFrom 27 = .ok (.getfield 30, 3) := by decide +kernel
theorem dX0_pupilsFrom_30 : decode cX0_pupilsFrom 30 = .ok (.iload_n 3, 1) := by decide +kernel
theorem dX0_pupilsFrom_31 : decode cX0_pupilsFrom 31 = .ok (.aaload, 1) := by decide +kernel
theorem dX0_pupilsFrom_32 : decode cX0_pupilsFrom 32 = .ok (.getfield 66, 3) := by decide +kernel
theorem dX0_pupilsFrom_35 : decode cX0_pupilsFrom 35 = .ok (.iadd, 1) := by decide +kernel
theorem dX0_pupilsFrom_36 : decode cX0_pupilsFrom 36 = .ok (.istore_n 2, 1) := by decide +kernel
theorem dX0_pupilsFrom_37 : decode cX0_pupilsFrom 37 = .ok (.iinc 3 1, 3) := by decide +kernel
theorem dX0_pupilsFrom_40 : decode cX0_pupilsFrom 40 = .ok (.goto (-36), 3) := by decide +kernel
theorem dX0_pupilsFrom_43 : decode cX0_pupilsFrom 43 = .ok (.iload_n 2, 1) := by decide +kernel
theorem dX0_pupilsFrom_44 : decode cX0_pupilsFrom 44 = .ok (.ireturn, 1) := by decide +kernel
theorem dX0_ridesFrom_0 : decode cX0_ridesFrom 0 = .ok (.iconst 0, 1) := by decide +kernel
theorem dX0_ridesFrom_1 : decode cX0_ridesFrom 1 = .ok (.istore_n 2, 1) := by decide +kernel
theorem dX0_ridesFrom_2 : decode cX0_ridesFrom 2 = .ok (.iconst 0, 1) := by decide +kernel
theorem dX0_ridesFrom_3 : decode cX0_ridesFrom 3 = .ok (.istore_n 3, 1) := by decide +kernel
theorem dX0_ridesFrom_4 : decode cX0_ridesFrom 4 = .ok (.iload_n 3, 1) := by decide +kernel
theorem dX0_ridesFrom_5 : decode cX0_ridesFrom 5 = .ok (.aload_n 0, 1) := by decide +kernel
theorem dX0_ridesFrom_6 : decode cX0_ridesFrom 6 = .ok (.getfield 50, 3) := by decide +kernel
theorem dX0_ridesFrom_9 : decode cX0_ridesFrom 9 = .ok (.if_icmp .ge 40, 3) := by decide +kernel
theorem dX0_ridesFrom_12 : decode cX0_ridesFrom 12 = .ok (.aload_n 0, 1) := by decide +kernel
theorem dX0_ridesFrom_13 : decode cX0_ridesFrom 13 = .ok (.getfield 30, 3) := by decide +kernel
theorem dX0_ridesFrom_16 : decode cX0_ridesFrom 16 = .ok (.iload_n 3, 1) := by decide +kernel
theorem dX0_ridesFrom_17 : decode cX0_ridesFrom 17 = .ok (.aaload, 1) := by decide +kernel
theorem dX0_ridesFrom_18 : decode cX0_ridesFrom 18 = .ok (.getfield 69, 3) := by decide +kernel
theorem dX0_ridesFrom_21 : decode cX0_ridesFrom 21 = .ok (.iload_n 1, 1) := by decide +kernel
theorem dX0_ridesFrom_22 : decode cX0_ridesFrom 22 = .ok (.if_icmp .ne 21, 3) := by decide +kernel
theorem dX0_ridesFrom_25 : decode cX0_ridesFrom 25 = .ok (.iload_n 2, 1) := by decide +kernel
theorem dX0_ridesFrom_26 : decode cX0_ridesFrom 26 = .ok (.aload_n 0, 1) := by decide +kernel
theorem dX0_ridesFrom_27 : decode cX0_ridesFrom 27 = .ok (.getfield 30, 3) := by decide +kernel
theorem dX0_ridesFrom_30 : decode cX0_ridesFrom 30 = .ok (.iload_n 3, 1) := by decide +kernel
theorem dX0_ridesFrom_31 : decode cX0_ridesFrom 31 = .ok (.aaload, 1) := by decide +kernel
theorem dX0_ridesFrom_32 : decode cX0_ridesFrom 32 = .ok (.getfield 66, 3) := by decide +kernel
theorem dX0_ridesFrom_35 : decode cX0_ridesFrom 35 = .ok (.aload_n 0, 1) := by decide +kernel
theorem dX0_ridesFrom_36 : decode cX0_ridesFrom 36 = .ok (.iload_n 3, 1) := by decide +kernel
theorem dX0_ridesFrom_37 : decode cX0_ridesFrom 37 = .ok (.invokevirtual 98, 3) := by decide +kernel
theorem dX0_ridesFrom_40 : decode cX0_ridesFrom 40 = .ok (.imul, 1) := by decide +kernel
theorem dX0_ridesFrom_41 : decode cX0_ridesFrom 41 = .ok (.iadd, 1) := by decide +kernel
theorem dX0_ridesFrom_42 : decode cX0_ridesFrom 42 = .ok (.istore_n 2, 1) := by decide +kernel
theorem dX0_ridesFrom_43 : decode cX0_ridesFrom 43 = .ok (.iinc 3 1, 3) := by decide +kernel
theorem dX0_ridesFrom_46 : decode cX0_ridesFrom 46 = .ok (.goto (-42), 3) := by decide +kernel
theorem dX0_ridesFrom_49 : decode cX0_ridesFrom 49 = .ok (.iload_n 2, 1) := by decide +kernel
theorem dX0_ridesFrom_50 : decode cX0_ridesFrom 50 = .ok (.ireturn, 1) := by decide +kernel
theorem dX0_greatestRide_0 : decode cX0_greatestRide 0 = .ok (.iconst 0, 1) := by decide +kernel
theorem dX0_greatestRide_1 : decode cX0_greatestRide 1 = .ok (.istore_n 2, 1) := by decide +kernel
theorem dX0_greatestRide_2 : decode cX0_greatestRide 2 = .ok (.iconst 0, 1) := by decide +kernel
theorem dX0_greatestRide_3 : decode cX0_greatestRide 3 = .ok (.istore_n 3, 1) := by decide +kernel
theorem dX0_greatestRide_4 : decode cX0_greatestRide 4 = .ok (.iload_n 3, 1) := by decide +kernel
theorem dX0_greatestRide_5 : decode cX0_greatestRide 5 = .ok (.aload_n 0, 1) := by decide +kernel
theorem dX0_greatestRide_6 : decode cX0_greatestRide 6 = .ok (.getfield 50, 3) := by decide +kernel
theorem dX0_greatestRide_9 : decode cX0_greatestRide 9 = .ok (.if_icmp .ge 32, 3) := by decide +kernel
theorem dX0_greatestRide_12 : decode cX0_greatestRide 12 = .ok (.aload_n 0, 1) := by decide +kernel
theorem dX0_greatestRide_13 : decode cX0_greatestRide 13 = .ok (.getfield 30, 3) := by decide +kernel
theorem dX0_greatestRide_16 : decode cX0_greatestRide 16 = .ok (.iload_n 3, 1) := by decide +kernel
theorem dX0_greatestRide_17 : decode cX0_greatestRide 17 = .ok (.aaload, 1) := by decide +kernel
theorem dX0_greatestRide_18 : decode cX0_greatestRide 18 = .ok (.getfield 69, 3) := by decide +kernel
theorem dX0_greatestRide_21 : decode cX0_greatestRide 21 = .ok (.iload_n 1, 1) := by decide +kernel
theorem dX0_greatestRide_22 : decode cX0_greatestRide 22 = .ok (.if_icmp .ne 13, 3) := by decide +kernel
theorem dX0_greatestRide_25 : decode cX0_greatestRide 25 = .ok (.iload_n 2, 1) := by decide +kernel
theorem dX0_greatestRide_26 : decode cX0_greatestRide 26 = .ok (.aload_n 0, 1) := by decide +kernel
theorem dX0_greatestRide_27 : decode cX0_greatestRide 27 = .ok (.iload_n 3, 1) := by decide +kernel
theorem dX0_greatestRide_28 : decode cX0_greatestRide 28 = .ok (.invokevirtual 98, 3) := by decide +kernel
theorem dX0_greatestRide_31 : decode cX0_greatestRide 31 = .ok (.invokestatic 101, 3) := by decide +kernel
theorem dX0_greatestRide_34 : decode cX0_greatestRide 34 = .ok (.istore_n 2, 1) := by decide +kernel
theorem dX0_greatestRide_35 : decode cX0_greatestRide 35 = .ok (.iinc 3 1, 3) := by decide +kernel
theorem dX0_greatestRide_38 : decode cX0_greatestRide 38 = .ok (.goto (-34), 3) := by decide +kernel
theorem dX0_greatestRide_41 : decode cX0_greatestRide 41 = .ok (.iload_n 2, 1) := by decide +kernel
theorem dX0_greatestRide_42 : decode cX0_greatestRide 42 = .ok (.ireturn, 1) := by decide +kernel
theorem dX0_earlyFrom_0 : decode cX0_earlyFrom 0 = .ok (.iconst 0, 1) := by decide +kernel
theorem dX0_earlyFrom_1 : decode cX0_earlyFrom 1 = .ok (.istore_n 2, 1) := by decide +kernel
theorem dX0_earlyFrom_2 : decode cX0_earlyFrom 2 = .ok (.iconst 0, 1) := by decide +kernel
theorem dX0_earlyFrom_3 : decode cX0_earlyFrom 3 = .ok (.istore_n 3, 1) := by decide +kernel
theorem dX0_earlyFrom_4 : decode cX0_earlyFrom 4 = .ok (.iload_n 3, 1) := by decide +kernel
theorem dX0_earlyFrom_5 : decode cX0_earlyFrom 5 = .ok (.aload_n 0, 1) := by decide +kernel
theorem dX0_earlyFrom_6 : decode cX0_earlyFrom 6 = .ok (.getfield 50, 3) := by decide +kernel
theorem dX0_earlyFrom_9 : decode cX0_earlyFrom 9 = .ok (.if_icmp .ge 75, 3) := by decide +kernel
theorem dX0_earlyFrom_12 : decode cX0_earlyFrom 12 = .ok (.aload_n 0, 1) := by decide +kernel
theorem dX0_earlyFrom_13 : decode cX0_earlyFrom 13 = .ok (.getfield 30, 3) := by decide +kernel
theorem dX0_earlyFrom_16 : decode cX0_earlyFrom 16 = .ok (.iload_n 3, 1) := by decide +kernel
theorem dX0_earlyFrom_17 : decode cX0_earlyFrom 17 = .ok (.aaload, 1) := by decide +kernel
theorem dX0_earlyFrom_18 : decode cX0_earlyFrom 18 = .ok (.getfield 69, 3) := by decide +kernel
theorem dX0_earlyFrom_21 : decode cX0_earlyFrom 21 = .ok (.iload_n 1, 1) := by decide +kernel
theorem dX0_earlyFrom_22 : decode cX0_earlyFrom 22 = .ok (.if_icmp .ne 56, 3) := by decide +kernel
theorem dX0_earlyFrom_25 : decode cX0_earlyFrom 25 = .ok (.aload_n 0, 1) := by decide +kernel
theorem dX0_earlyFrom_26 : decode cX0_earlyFrom 26 = .ok (.getfield 30, 3) := by decide +kernel
theorem dX0_earlyFrom_29 : decode cX0_earlyFrom 29 = .ok (.iload_n 3, 1) := by decide +kernel
theorem dX0_earlyFrom_30 : decode cX0_earlyFrom 30 = .ok (.aaload, 1) := by decide +kernel
theorem dX0_earlyFrom_31 : decode cX0_earlyFrom 31 = .ok (.getfield 62, 3) := by decide +kernel
theorem dX0_earlyFrom_34 : decode cX0_earlyFrom 34 = .ok (.istore 4, 2) := by decide +kernel
theorem dX0_earlyFrom_36 : decode cX0_earlyFrom 36 = .ok (.iconst 0, 1) := by decide +kernel
theorem dX0_earlyFrom_37 : decode cX0_earlyFrom 37 = .ok (.aload_n 0, 1) := by decide +kernel
theorem dX0_earlyFrom_38 : decode cX0_earlyFrom 38 = .ok (.getfield 20, 3) := by decide +kernel
theorem dX0_earlyFrom_41 : decode cX0_earlyFrom 41 = .ok (.iload 4, 2) := by decide +kernel
theorem dX0_earlyFrom_43 : decode cX0_earlyFrom 43 = .ok (.aaload, 1) := by decide +kernel
theorem dX0_earlyFrom_44 : decode cX0_earlyFrom 44 = .ok (.getfield 59, 3) := by decide +kernel
theorem dX0_earlyFrom_47 : decode cX0_earlyFrom 47 = .ok (.aload_n 0, 1) := by decide +kernel
theorem dX0_earlyFrom_48 : decode cX0_earlyFrom 48 = .ok (.getfield 24, 3) := by decide +kernel
theorem dX0_earlyFrom_51 : decode cX0_earlyFrom 51 = .ok (.iload 4, 2) := by decide +kernel
theorem dX0_earlyFrom_53 : decode cX0_earlyFrom 53 = .ok (.iaload, 1) := by decide +kernel
theorem dX0_earlyFrom_54 : decode cX0_earlyFrom 54 = .ok (.isub, 1) := by decide +kernel
theorem dX0_earlyFrom_55 : decode cX0_earlyFrom 55 = .ok (.invokestatic 101, 3) := by decide +kernel
theorem dX0_earlyFrom_58 : decode cX0_earlyFrom 58 = .ok (.istore 5, 2) := by decide +kernel
theorem dX0_earlyFrom_60 : decode cX0_earlyFrom 60 = .ok (.iload_n 2, 1) := by decide +kernel
theorem dX0_earlyFrom_61 : decode cX0_earlyFrom 61 = .ok (.aload_n 0, 1) := by decide +kernel
theorem dX0_earlyFrom_62 : decode cX0_earlyFrom 62 = .ok (.getfield 30, 3) := by decide +kernel
theorem dX0_earlyFrom_65 : decode cX0_earlyFrom 65 = .ok (.iload_n 3, 1) := by decide +kernel
theorem dX0_earlyFrom_66 : decode cX0_earlyFrom 66 = .ok (.aaload, 1) := by decide +kernel
theorem dX0_earlyFrom_67 : decode cX0_earlyFrom 67 = .ok (.getfield 66, 3) := by decide +kernel
theorem dX0_earlyFrom_70 : decode cX0_earlyFrom 70 = .ok (.bipush 20, 2) := by decide +kernel
theorem dX0_earlyFrom_72 : decode cX0_earlyFrom 72 = .ok (.imul, 1) := by decide +kernel
theorem dX0_earlyFrom_73 : decode cX0_earlyFrom 73 = .ok (.iload 5, 2) := by decide +kernel
theorem dX0_earlyFrom_75 : decode cX0_earlyFrom 75 = .ok (.imul, 1) := by decide +kernel
theorem dX0_earlyFrom_76 : decode cX0_earlyFrom 76 = .ok (.iadd, 1) := by decide +kernel
theorem dX0_earlyFrom_77 : decode cX0_earlyFrom 77 = .ok (.istore_n 2, 1) := by decide +kernel
theorem dX0_earlyFrom_78 : decode cX0_earlyFrom 78 = .ok (.iinc 3 1, 3) := by decide +kernel
theorem dX0_earlyFrom_81 : decode cX0_earlyFrom 81 = .ok (.goto (-77), 3) := by decide +kernel
theorem dX0_earlyFrom_84 : decode cX0_earlyFrom 84 = .ok (.iload_n 2, 1) := by decide +kernel
theorem dX0_earlyFrom_85 : decode cX0_earlyFrom 85 = .ok (.ireturn, 1) := by decide +kernel
theorem dX1_init_0 : decode cX1_init 0 = .ok (.aload_n 0, 1) := by decide +kernel
theorem dX1_init_1 : decode cX1_init 1 = .ok (.invokespecial 3, 3) := by decide +kernel
theorem dX1_init_4 : decode cX1_init 4 = .ok (.aload_n 0, 1) := by decide +kernel
theorem dX1_init_5 : decode cX1_init 5 = .ok (.bipush 10, 2) := by decide +kernel
theorem dX1_init_7 : decode cX1_init 7 = .ok (.newarray .int, 2) := by decide +kernel
theorem dX1_init_9 : decode cX1_init 9 = .ok (.putfield 9, 3) := by decide +kernel
theorem dX1_init_12 : decode cX1_init 12 = .ok (.aload_n 0, 1) := by decide +kernel
theorem dX1_init_13 : decode cX1_init 13 = .ok (.bipush 10, 2) := by decide +kernel
theorem dX1_init_15 : decode cX1_init 15 = .ok (.newarray .int, 2) := by decide +kernel
theorem dX1_init_17 : decode cX1_init 17 = .ok (.putfield 15, 3) := by decide +kernel
theorem dX1_init_20 : decode cX1_init 20 = .ok (.aload_n 0, 1) := by decide +kernel
theorem dX1_init_21 : decode cX1_init 21 = .ok (.bipush 10, 2) := by decide +kernel
theorem dX1_init_23 : decode cX1_init 23 = .ok (.newarray .int, 2) := by decide +kernel
theorem dX1_init_25 : decode cX1_init 25 = .ok (.putfield 18, 3) := by decide +kernel
theorem dX1_init_28 : decode cX1_init 28 = .ok (.aload_n 0, 1) := by decide +kernel
theorem dX1_init_29 : decode cX1_init 29 = .ok (.bipush 10, 2) := by decide +kernel
theorem dX1_init_31 : decode cX1_init 31 = .ok (.bipush 10, 2) := by decide +kernel
theorem dX1_init_33 : decode cX1_init 33 = .ok (.multianewarray 21 2, 4) := by decide +kernel
theorem dX1_init_37 : decode cX1_init 37 = .ok (.putfield 23, 3) := by decide +kernel
theorem dX1_init_40 : decode cX1_init 40 = .ok (.aload_n 0, 1) := by decide +kernel
theorem dX1_init_41 : decode cX1_init 41 = .ok (.new 26, 3) := by decide +kernel
theorem dX1_init_44 : decode cX1_init 44 = .ok (.dup, 1) := by decide +kernel
theorem dX1_init_45 : decode cX1_init 45 = .ok (.invokespecial 28, 3) := by decide +kernel
theorem dX1_init_48 : decode cX1_init 48 = .ok (.putfield 29, 3) := by decide +kernel
theorem dX1_init_51 : decode cX1_init 51 = .ok (.return_, 1) := by decide +kernel
theorem dX1_has_0 : decode cX1_has 0 = .ok (.aload_n 0, 1) := by decide +kernel
theorem dX1_has_1 : decode cX1_has 1 = .ok (.getfield 33, 3) := by decide +kernel
theorem dX1_has_4 : decode cX1_has 4 = .ok (.ifCond .eq 21, 3) := by decide +kernel
theorem dX1_has_7 : decode cX1_has 7 = .ok (.iload_n 1, 1) := by decide +kernel
theorem dX1_has_8 : decode cX1_has 8 = .ok (.iconst 0, 1) := by decide +kernel
theorem dX1_has_9 : decode cX1_has 9 = .ok (.aload_n 0, 1) := by decide +kernel
theorem dX1_has_10 : decode cX1_has 10 = .ok (.getfield 37, 3) := by decide +kernel
theorem dX1_has_13 : decode cX1_has 13 = .ok (.iconst 1, 1) := by decide +kernel
theorem dX1_has_14 : decode cX1_has 14 = .ok (.isub, 1) := by decide +kernel
theorem dX1_has_15 : decode cX1_has 15 = .ok (.invokestatic 41, 3) := by decide +kernel
theorem dX1_has_18 : decode cX1_has 18 = .ok (.ifCond .eq 7, 3) := by decide +kernel
theorem dX1_has_21 : decode cX1_has 21 = .ok (.iconst 1, 1) := by decide +kernel
theorem dX1_has_22 : decode cX1_has 22 = .ok (.goto 4, 3) := by decide +kernel
theorem dX1_has_25 : decode cX1_has 25 = .ok (.iconst 0, 1) := by decide +kernel
theorem dX1_has_26 : decode cX1_has 26 = .ok (.ireturn, 1) := by decide +kernel
theorem dX1_gather_0 : decode cX1_gather 0 = .ok (.aload_n 0, 1) := by decide +kernel
theorem dX1_gather_1 : decode cX1_gather 1 = .ok (.iconst 1, 1) := by decide +kernel
theorem dX1_gather_2 : decode cX1_gather 2 = .ok (.putfield 33, 3) := by decide +kernel
theorem dX1_gather_5 : decode cX1_gather 5 = .ok (.aload_n 0, 1) := by decide +kernel
theorem dX1_gather_6 : decode cX1_gather 6 = .ok (.iconst 0, 1) := by decide +kernel
theorem dX1_gather_7 : decode cX1_gather 7 = .ok (.putfield 37, 3) := by decide +kernel
theorem dX1_gather_10 : decode cX1_gather 10 = .ok (.aload_n 0, 1) := by decide +kernel
theorem dX1_gather_11 : decode cX1_gather 11 = .ok (.iconst 0, 1) := by decide +kernel
theorem dX1_gather_12 : decode cX1_gather 12 = .ok (.putfield 45, 3) := by decide +kernel
theorem dX1_gather_15 : decode cX1_gather 15 = .ok (.iconst 0, 1) := by decide +kernel
theorem dX1_gather_16 : decode cX1_gather 16 = .ok (.istore_n 2, 1) := by decide +kernel
theorem dX1_gather_17 : decode cX1_gather 17 = .ok (.iload_n 2, 1) := by decide +kernel
theorem dX1_gather_18 : decode cX1_gather 18 = .ok (.aload_n 1, 1) := by decide +kernel
theorem dX1_gather_19 : decode cX1_gather 19 = .ok (.getfield 48, 3) := by decide +kernel
theorem dX1_gather_22 : decode cX1_gather 22 = .ok (.if_icmp .ge 112, 3) := by decide +kernel
theorem dX1_gather_25 : decode cX1_gather 25 = .ok (.aload_n 1, 1) := by decide +kernel
theorem dX1_gather_26 : decode cX1_gather 26 = .ok (.getfield 53, 3) := by decide +kernel
theorem dX1_gather_29 : decode cX1_gather 29 = .ok (.iload_n 2, 1) := by decide +kernel
theorem dX1_gather_30 : decode cX1_gather 30 = .ok (.aaload, 1) := by decide +kernel
theorem dX1_gather_31 : decode cX1_gather 31 = .ok (.astore_n 3, 1) := by decide +kernel
theorem dX1_gather_32 : decode cX1_gather 32 = .ok (.aload_n 0, 1) := by decide +kernel
theorem dX1_gather_33 : decode cX1_gather 33 = .ok (.aload_n 0, 1) := by decide +kernel
theorem dX1_gather_34 : decode cX1_gather 34 = .ok (.getfield 33, 3) := by decide +kernel
theorem dX1_gather_37 : decode cX1_gather 37 = .ok (.ifCond .eq 14, 3) := by decide +kernel
theorem dX1_gather_40 : decode cX1_gather 40 = .ok (.aload_n 3, 1) := by decide +kernel
theorem dX1_gather_41 : decode cX1_gather 41 = .ok (.getfield 57, 3) := by decide +kernel
theorem dX1_gather_44 : decode cX1_gather 44 = .ok (.ifCond .eq 7, 3) := by decide +kernel
theorem dX1_gather_47 : decode cX1_gather 47 = .ok (.iconst 1, 1) := by decide +kernel
theorem dX1_gather_48 : decode cX1_gather 48 = .ok (.goto 4, 3) := by decide +kernel
theorem dX1_gather_51 : decode cX1_gather 51 = .ok (.iconst 0, 1) := by decide +kernel
theorem dX1_gather_52 : decode cX1_gather 52 = .ok (.putfield 33, 3) := by decide +kernel
theorem dX1_gather_55 : decode cX1_gather 55 = .ok (.aload_n 0, 1) := by decide +kernel
theorem dX1_gather_56 : decode cX1_gather 56 = .ok (.aload_n 0, 1) := by decide +kernel
theorem dX1_gather_57 : decode cX1_gather 57 = .ok (.getfield 45, 3) := by decide +kernel
theorem dX1_gather_60 : decode cX1_gather 60 = .ok (.aload_n 3, 1) := by decide +kernel
theorem dX1_gather_61 : decode cX1_gather 61 = .ok (.getfield 62, 3) := by decide +kernel
theorem dX1_gather_64 : decode cX1_gather 64 = .ok (.invokestatic 65, 3) := by decide +kernel
theorem dX1_gather_67 : decode cX1_gather 67 = .ok (.putfield 45, 3) := by decide +kernel
theorem dX1_gather_70 : decode cX1_gather 70 = .ok (.iconst 0, 1) := by decide +kernel
theorem dX1_gather_71 : decode cX1_gather 71 = .ok (.istore 4, 2) := by decide +kernel
theorem dX1_gather_73 : decode cX1_gather 73 = .ok (.iload 4, 2) := by decide +kernel
theorem dX1_gather_75 : decode cX1_gather 75 = .ok (.aload_n 3, 1) := by decide +kernel
theorem dX1_gather_76 : decode cX1_gather 76 = .ok (.getfield 62, 3) := by decide +kernel
theorem dX1_gather_79 : decode cX1_gather 79 = .ok (.if_icmp .ge 49, 3) := by decide +kernel
theorem dX1_gather_82 : decode cX1_gather 82 = .ok (.aload_n 0, 1) := by decide +kernel
theorem dX1_gather_83 : decode cX1_gather 83 = .ok (.getfield 37, 3) := by decide +kernel
theorem dX1_gather_86 : decode cX1_gather 86 = .ok (.bipush 10, 2) := by decide +kernel
theorem dX1_gather_88 : decode cX1_gather 88 = .ok (.if_icmp .ge 40, 3) := by decide +kernel
theorem dX1_gather_91 : decode cX1_gather 91 = .ok (.aload_n 0, 1) := by decide +kernel
theorem dX1_gather_92 : decode cX1_gather 92 = .ok (.getfield 9, 3) := by decide +kernel
theorem dX1_gather_95 : decode cX1_gather 95 = .ok (.aload_n 0, 1) := by decide +kernel
theorem dX1_gather_96 : decode cX1_gather 96 = .ok (.getfield 37, 3) := by decide +kernel
theorem dX1_gather_99 : decode cX1_gather 99 = .ok (.iload_n 2, 1) := by decide +kernel
theorem dX1_gather_100 : decode cX1_gather 100 = .ok (.iastore, 1) := by decide +kernel
theorem dX1_gather_101 : decode cX1_gather 101 = .ok (.aload_n 0, 1) := by decide +kernel
theorem dX1_gather_102 : decode cX1_gather 102 = .ok (.getfield 18, 3) := by decide +kernel
theorem dX1_gather_105 : decode cX1_gather 105 = .ok (.aload_n 0, 1) := by decide +kernel
theorem dX1_gather_106 : decode cX1_gather 106 = .ok (.getfield 37, 3) := by decide +kernel
theorem dX1_gather_109 : decode cX1_gather 109 = .ok (.iload 4, 2) := by decide +kernel
theorem dX1_gather_111 : decode cX1_gather 111 = .ok (.iastore, 1) := by decide +kernel
theorem dX1_gather_112 : decode cX1_gather 112 = .ok (.aload_n 0, 1) := by decide +kernel
theorem dX1_gather_113 : decode cX1_gather 113 = .ok (.dup, 1) := by decide +kernel
theorem dX1_gather_114 : decode cX1_gather 114 = .ok (.getfield 37, 3) := by decide +kernel
theorem dX1_gather_117 : decode cX1_gather 117 = .ok (.iconst 1, 1) := by decide +kernel
theorem dX1_gather_118 : decode cX1_gather 118 = .ok (.iadd, 1) := by decide +kernel
theorem dX1_gather_119 : decode cX1_gather 119 = .ok (.putfield 37, 3) := by decide +kernel
theorem dX1_gather_122 : decode cX1_gather 122 = .ok (.iinc 4 1, 3) := by decide +kernel
theorem dX1_gather_125 : decode cX1_gather 125 = .ok (.goto (-52), 3) := by decide +kernel
theorem dX1_gather_128 : decode cX1_gather 128 = .ok (.iinc 2 1, 3) := by decide +kernel
theorem dX1_gather_131 : decode cX1_gather 131 = .ok (.goto (-114), 3) := by decide +kernel
theorem dX1_gather_134 : decode cX1_gather 134 = .ok (.iconst 0, 1) := by decide +kernel
theorem dX1_gather_135 : decode cX1_gather 135 = .ok (.istore_n 2, 1) := by decide +kernel
theorem dX1_gather_136 : decode cX1_gather 136 = .ok (.aload_n 0, 1) := by decide +kernel
theorem dX1_gather_137 : decode cX1_gather 137 = .ok (.getfield 33, 3) := by decide +kernel
theorem dX1_gather_140 : decode cX1_gather 140 = .ok (.ifCond .eq 81, 3) := by decide +kernel
theorem dX1_gather_143 : decode cX1_gather 143 = .ok (.iload_n 2, 1) := by decide +kernel
theorem dX1_gather_144 : decode cX1_gather 144 = .ok (.aload_n 0, 1) := by decide +kernel
theorem dX1_gather_145 : decode cX1_gather 145 = .ok (.getfield 37, 3) := by decide +kernel
theorem dX1_gather_148 : decode cX1_gather 148 = .ok (.if_icmp .ge 73, 3) := by decide +kernel
theorem dX1_gather_151 : decode cX1_gather 151 = .ok (.iconst 0, 1) := by decide +kernel
theorem dX1_gather_152 : decode cX1_gather 152 = .ok (.istore_n 3, 1) := by decide +kernel
theorem dX1_gather_153 : decode cX1_gather 153 = .ok (.iload_n 3, 1) := by decide +kernel
theorem dX1_gather_154 : decode cX1_gather 154 = .ok (.aload_n 0, 1) := by decide +kernel
theorem dX1_gather_155 : decode cX1_gather 155 = .ok (.getfield 37, 3) := by decide +kernel
theorem dX1_gather_158 : decode cX1_gather 158 = .ok (.if_icmp .ge 57, 3) := by decide +kernel
theorem dX1_gather_161 : decode cX1_gather 161 = .ok (.aload_n 1, 1) := by decide +kernel
theorem dX1_gather_162 : decode cX1_gather 162 = .ok (.getfield 71, 3) := by decide +kernel
theorem dX1_gather_165 : decode cX1_gather 165 = .ok (.invokevirtual 75, 3) := by decide +kernel
theorem dX1_gather_168 : decode cX1_gather 168 = .ok (.aload_n 0, 1) := by decide +kernel
theorem dX1_gather_169 : decode cX1_gather 169 = .ok (.aload_n 1, 1) := by decide +kernel
theorem dX1_gather_170 : decode cX1_gather 170 = .ok (.iload_n 2, 1) := by decide +kernel
theorem dX1_gather_171 : decode cX1_gather 171 = .ok (.invokevirtual 81, 3) := by decide +kernel
theorem dX1_gather_174 : decode cX1_gather 174 = .ok (.getfield 85, 3) := by decide +kernel
theorem dX1_gather_177 : decode cX1_gather 177 = .ok (.aaload, 1) := by decide +kernel
theorem dX1_gather_178 : decode cX1_gather 178 = .ok (.aload_n 0, 1) := by decide +kernel
theorem dX1_gather_179 : decode cX1_gather 179 = .ok (.aload_n 1, 1) := by decide +kernel
theorem dX1_gather_180 : decode cX1_gather 180 = .ok (.iload_n 3, 1) := by decide +kernel
theorem dX1_gather_181 : decode cX1_gather 181 = .ok (.invokevirtual 88, 3) := by decide +kernel
theorem dX1_gather_184 : decode cX1_gather 184 = .ok (.iaload, 1) := by decide +kernel
theorem dX1_gather_185 : decode cX1_gather 185 = .ok (.istore 4, 2) := by decide +kernel
theorem dX1_gather_187 : decode cX1_gather 187 = .ok (.aload_n 0, 1) := by decide +kernel
theorem dX1_gather_188 : decode cX1_gather 188 = .ok (.getfield 23, 3) := by decide +kernel
theorem dX1_gather_191 : decode cX1_gather 191 = .ok (.iload_n 2, 1) := by decide +kernel
theorem dX1_gather_192 : decode cX1_gather 192 = .ok (.aaload, 1) := by decide +kernel
theorem dX1_gather_193 : decode cX1_gather 193 = .ok (.iload_n 3, 1) := by decide +kernel
theorem dX1_gather_194 : decode cX1_gather 194 = .ok (.iload 4, 2) := by decide +kernel
theorem dX1_gather_196 : decode cX1_gather 196 = .ok (.aload_n 1, 1) := by decide +kernel
theorem dX1_gather_197 : decode cX1_gather 197 = .ok (.getfield 92, 3) := by decide +kernel
theorem dX1_gather_200 : decode cX1_gather 200 = .ok (.iadd, 1) := by decide +kernel
theorem dX1_gather_201 : decode cX1_gather 201 = .ok (.aload_n 0, 1) := by decide +kernel
theorem dX1_gather_202 : decode cX1_gather 202 = .ok (.aload_n 1, 1) := by decide +kernel
theorem dX1_gather_203 : decode cX1_gather 203 = .ok (.iload_n 3, 1) := by decide +kernel
theorem dX1_gather_204 : decode cX1_gather 204 = .ok (.invokevirtual 95, 3) := by decide +kernel
theorem dX1_gather_207 : decode cX1_gather 207 = .ok (.iadd, 1) := by decide +kernel
theorem dX1_gather_208 : decode cX1_gather 208 = .ok (.iastore, 1) := by decide +kernel
theorem dX1_gather_209 : decode cX1_gather 209 = .ok (.iinc 3 1, 3) := by decide +kernel
theorem dX1_gather_212 : decode cX1_gather 212 = .ok (.goto (-59), 3) := by decide +kernel
theorem dX1_gather_215 : decode cX1_gather 215 = .ok (.iinc 2 1, 3) := by decide +kernel
theorem dX1_gather_218 : decode cX1_gather 218 = .ok (.goto (-82), 3) := by decide +kernel
theorem dX1_gather_221 : decode cX1_gather 221 = .ok (.return_, 1) := by decide +kernel
theorem dX1_schoolOf_0 : decode cX1_schoolOf 0 = .ok (.aload_n 1, 1) := by decide +kernel
theorem dX1_schoolOf_1 : decode cX1_schoolOf 1 = .ok (.getfield 53, 3) := by decide +kernel
theorem dX1_schoolOf_4 : decode cX1_schoolOf 4 = .ok (.aload_n 0, 1) := by decide +kernel
theorem dX1_schoolOf_5 : decode cX1_schoolOf 5 = .ok (.getfield 9, 3) := by decide +kernel
theorem dX1_schoolOf_8 : decode cX1_schoolOf 8 = .ok (.iload_n 2, 1) := by decide +kernel
theorem dX1_schoolOf_9 : decode cX1_schoolOf 9 = .ok (.iaload, 1) := by decide +kernel
theorem dX1_schoolOf_10 : decode cX1_schoolOf 10 = .ok (.aaload, 1) := by decide +kernel
theorem dX1_schoolOf_11 : decode cX1_schoolOf 11 = .ok (.areturn, 1) := by decide +kernel
theorem dX1_firstCorner_0 : decode cX1_firstCorner 0 = .ok (.aload_n 0, 1) := by decide +kernel
theorem dX1_firstCorner_1 : decode cX1_firstCorner 1 = .ok (.aload_n 1, 1) := by decide +kernel
theorem dX1_firstCorner_2 : decode cX1_firstCorner 2 = .ok (.iload_n 2, 1) := by decide +kernel
theorem dX1_firstCorner_3 : decode cX1_firstCorner 3 = .ok (.invokevirtual 81, 3) := by decide +kernel
theorem dX1_firstCorner_6 : decode cX1_firstCorner 6 = .ok (.astore_n 3, 1) := by decide +kernel
theorem dX1_firstCorner_7 : decode cX1_firstCorner 7 = .ok (.aload_n 1, 1) := by decide +kernel
theorem dX1_firstCorner_8 : decode cX1_firstCorner 8 = .ok (.getfield 98, 3) := by decide +kernel
theorem dX1_firstCorner_11 : decode cX1_firstCorner 11 = .ok (.aload_n 3, 1) := by decide +kernel
theorem dX1_firstCorner_12 : decode cX1_firstCorner 12 = .ok (.getfield 102, 3) := by decide +kernel
theorem dX1_firstCorner_15 : decode cX1_firstCorner 15 = .ok (.aload_n 3, 1) := by decide +kernel
theorem dX1_firstCorner_16 : decode cX1_firstCorner 16 = .ok (.getfield 105, 3) := by decide +kernel
theorem dX1_firstCorner_19 : decode cX1_firstCorner 19 = .ok (.aload_n 0, 1) := by decide +kernel
theorem dX1_firstCorner_20 : decode cX1_firstCorner 20 = .ok (.getfield 18, 3) := by decide +kernel
theorem dX1_firstCorner_23 : decode cX1_firstCorner 23 = .ok (.iload_n 2, 1) := by decide +kernel
theorem dX1_firstCorner_24 : decode cX1_firstCorner 24 = .ok (.iaload, 1) := by decide +kernel
theorem dX1_firstCorner_25 : decode cX1_firstCorner 25 = .ok (.iaload, 1) := by decide +kernel
theorem dX1_firstCorner_26 : decode cX1_firstCorner 26 = .ok (.iaload, 1) := by decide +kernel
theorem dX1_firstCorner_27 : decode cX1_firstCorner 27 = .ok (.aaload, 1) := by decide +kernel
theorem dX1_firstCorner_28 : decode cX1_firstCorner 28 = .ok (.getfield 108, 3) := by decide +kernel
theorem dX1_firstCorner_31 : decode cX1_firstCorner 31 = .ok (.ireturn, 1) := by decide +kernel
theorem dX1_lengthOf_0 : decode cX1_lengthOf 0 = .ok (.aload_n 0, 1) := by decide +kernel
theorem dX1_lengthOf_1 : decode cX1_lengthOf 1 = .ok (.aload_n 1, 1) := by decide +kernel
theorem dX1_lengthOf_2 : decode cX1_lengthOf 2 = .ok (.iload_n 2, 1) := by decide +kernel
theorem dX1_lengthOf_3 : decode cX1_lengthOf 3 = .ok (.invokevirtual 81, 3) := by decide +kernel
theorem dX1_lengthOf_6 : decode cX1_lengthOf 6 = .ok (.getfield 111, 3) := by decide +kernel
theorem dX1_lengthOf_9 : decode cX1_lengthOf 9 = .ok (.aload_n 0, 1) := by decide +kernel
theorem dX1_lengthOf_10 : decode cX1_lengthOf 10 = .ok (.getfield 18, 3) := by decide +kernel
theorem dX1_lengthOf_13 : decode cX1_lengthOf 13 = .ok (.iload_n 2, 1) := by decide +kernel
theorem dX1_lengthOf_14 : decode cX1_lengthOf 14 = .ok (.iaload, 1) := by decide +kernel
theorem dX1_lengthOf_15 : decode cX1_lengthOf 15 = .ok (.iaload, 1) := by decide +kernel
theorem dX1_lengthOf_16 : decode cX1_lengthOf 16 = .ok (.ireturn, 1) := by decide +kernel
theorem dX1_lengthOn_0 : decode cX1_lengthOn 0 = .ok (.aload_n 0, 1) := by decide +kernel
theorem dX1_lengthOn_1 : decode cX1_lengthOn 1 = .ok (.aload_n 1, 1) := by decide +kernel
theorem dX1_lengthOn_2 : decode cX1_lengthOn 2 = .ok (.iload_n 2, 1) := by decide +kernel
theorem dX1_lengthOn_3 : decode cX1_lengthOn 3 = .ok (.invokevirtual 81, 3) := by decide +kernel
theorem dX1_lengthOn_6 : decode cX1_lengthOn 6 = .ok (.astore 4, 2) := by decide +kernel
theorem dX1_lengthOn_8 : decode cX1_lengthOn 8 = .ok (.aload_n 1, 1) := by decide +kernel
theorem dX1_lengthOn_9 : decode cX1_lengthOn 9 = .ok (.aload 4, 2) := by decide +kernel
theorem dX1_lengthOn_11 : decode cX1_lengthOn 11 = .ok (.aload_n 0, 1) := by decide +kernel
theorem dX1_lengthOn_12 : decode cX1_lengthOn 12 = .ok (.getfield 18, 3) := by decide +kernel
theorem dX1_lengthOn_15 : decode cX1_lengthOn 15 = .ok (.iload_n 2, 1) := by decide +kernel
theorem dX1_lengthOn_16 : decode cX1_lengthOn 16 = .ok (.iaload, 1) := by decide +kernel
theorem dX1_lengthOn_17 : decode cX1_lengthOn 17 = .ok (.aload 4, 2) := by decide +kernel
theorem dX1_lengthOn_19 : decode cX1_lengthOn 19 = .ok (.getfield 105, 3) := by decide +kernel
theorem dX1_lengthOn_22 : decode cX1_lengthOn 22 = .ok (.aload_n 0, 1) := by decide +kernel
theorem dX1_lengthOn_23 : decode cX1_lengthOn 23 = .ok (.getfield 18, 3) := by decide +kernel
theorem dX1_lengthOn_26 : decode cX1_lengthOn 26 = .ok (.iload_n 2, 1) := by decide +kernel
theorem dX1_lengthOn_27 : decode cX1_lengthOn 27 = .ok (.iaload, 1) := by decide +kernel
theorem dX1_lengthOn_28 : decode cX1_lengthOn 28 = .ok (.iaload, 1) := by decide +kernel
theorem dX1_lengthOn_29 : decode cX1_lengthOn 29 = .ok (.aload_n 3, 1) := by decide +kernel
theorem dX1_lengthOn_30 : decode cX1_lengthOn 30 = .ok (.invokevirtual 114, 3) := by decide +kernel
theorem dX1_lengthOn_33 : decode cX1_lengthOn 33 = .ok (.ireturn, 1) := by decide +kernel
theorem dX1_startOf_0 : decode cX1_startOf 0 = .ok (.aload_n 1, 1) := by decide +kernel
theorem dX1_startOf_1 : decode cX1_startOf 1 = .ok (.aload_n 0, 1) := by decide +kernel
theorem dX1_startOf_2 : decode cX1_startOf 2 = .ok (.getfield 9, 3) := by decide +kernel
theorem dX1_startOf_5 : decode cX1_startOf 5 = .ok (.iload_n 2, 1) := by decide +kernel
theorem dX1_startOf_6 : decode cX1_startOf 6 = .ok (.iaload, 1) := by decide +kernel
theorem dX1_startOf_7 : decode cX1_startOf 7 = .ok (.invokevirtual 118, 3) := by decide +kernel
theorem dX1_startOf_10 : decode cX1_startOf 10 = .ok (.aload_n 0, 1) := by decide +kernel
theorem dX1_startOf_11 : decode cX1_startOf 11 = .ok (.aload_n 1, 1) := by decide +kernel
theorem dX1_startOf_12 : decode cX1_startOf 12 = .ok (.iload_n 2, 1) := by decide +kernel
theorem dX1_startOf_13 : decode cX1_startOf 13 = .ok (.invokevirtual 95, 3) := by decide +kernel
theorem dX1_startOf_16 : decode cX1_startOf 16 = .ok (.isub, 1) := by decide +kernel
theorem dX1_startOf_17 : decode cX1_startOf 17 = .ok (.ireturn, 1) := by decide +kernel
theorem dX1_pupilsOn_0 : decode cX1_pupilsOn 0 = .ok (.aload_n 0, 1) := by decide +kernel
theorem dX1_pupilsOn_1 : decode cX1_pupilsOn 1 = .ok (.aload_n 1, 1) := by decide +kernel
theorem dX1_pupilsOn_2 : decode cX1_pupilsOn 2 = .ok (.iload_n 2, 1) := by decide +kernel
theorem dX1_pupilsOn_3 : decode cX1_pupilsOn 3 = .ok (.invokevirtual 81, 3) := by decide +kernel
theorem dX1_pupilsOn_6 : decode cX1_pupilsOn 6 = .ok (.astore_n 3, 1) := by decide +kernel
theorem dX1_pupilsOn_7 : decode cX1_pupilsOn 7 = .ok (.iconst 0, 1) := by decide +kernel
theorem dX1_pupilsOn_8 : decode cX1_pupilsOn 8 = .ok (.istore 4, 2) := by decide +kernel
theorem dX1_pupilsOn_10 : decode cX1_pupilsOn 10 = .ok (.aload_n 3, 1) := by decide +kernel
theorem dX1_pupilsOn_11 : decode cX1_pupilsOn 11 = .ok (.getfield 105, 3) := by decide +kernel
theorem dX1_pupilsOn_14 : decode cX1_pupilsOn 14 = .ok (.aload_n 0, 1) := by decide +kernel
theorem dX1_pupilsOn_15 : decode cX1_pupilsOn 15 = .ok (.getfield 18, 3) := by decide +kernel
theorem dX1_pupilsOn_18 : decode cX1_pupilsOn 18 = .ok (.iload_n 2, 1) := by decide +kernel
theorem dX1_pupilsOn_19 : decode cX1_pupilsOn 19 = .ok (.iaload, 1) := by decide +kernel
theorem dX1_pupilsOn_20 : decode cX1_pupilsOn 20 = .ok (.iaload, 1) := by decide +kernel
theorem dX1_pupilsOn_21 : decode cX1_pupilsOn 21 = .ok (.istore 5, 2) := by decide +kernel
theorem dX1_pupilsOn_23 : decode cX1_pupilsOn 23 = .ok (.iload 5, 2) := by decide +kernel
theorem dX1_pupilsOn_25 : decode cX1_pupilsOn 25 = .ok (.aload_n 3, 1) := by decide +kernel
theorem dX1_pupilsOn_26 : decode cX1_pupilsOn 26 = .ok (.getfield 105, 3) := by decide +kernel
theorem dX1_pupilsOn_29 : decode cX1_pupilsOn 29 = .ok (.aload_n 0, 1) := by decide +kernel
theorem dX1_pupilsOn_30 : decode cX1_pupilsOn 30 = .ok (.getfield 18, 3) := by decide +kernel
theorem dX1_pupilsOn_33 : decode cX1_pupilsOn 33 = .ok (.iload_n 2, 1) := by decide +kernel
theorem dX1_pupilsOn_34 : decode cX1_pupilsOn 34 = .ok (.iaload, 1) := by decide +kernel
theorem dX1_pupilsOn_35 : decode cX1_pupilsOn 35 = .ok (.iconst 1, 1) := by decide +kernel
theorem dX1_pupilsOn_36 : decode cX1_pupilsOn 36 = .ok (.iadd, 1) := by decide +kernel
theorem dX1_pupilsOn_37 : decode cX1_pupilsOn 37 = .ok (.iaload, 1) := by decide +kernel
theorem dX1_pupilsOn_38 : decode cX1_pupilsOn 38 = .ok (.if_icmp .ge 29, 3) := by decide +kernel
theorem dX1_pupilsOn_41 : decode cX1_pupilsOn 41 = .ok (.iload 4, 2) := by decide +kernel
theorem dX1_pupilsOn_43 : decode cX1_pupilsOn 43 = .ok (.aload_n 1, 1) := by decide +kernel
theorem dX1_pupilsOn_44 : decode cX1_pupilsOn 44 = .ok (.getfield 98, 3) := by decide +kernel
theorem dX1_pupilsOn_47 : decode cX1_pupilsOn 47 = .ok (.aload_n 3, 1) := by decide +kernel
theorem dX1_pupilsOn_48 : decode cX1_pupilsOn 48 = .ok (.getfield 102, 3) := by decide +kernel
theorem dX1_pupilsOn_51 : decode cX1_pupilsOn 51 = .ok (.iload 5, 2) := by decide +kernel
theorem dX1_pupilsOn_53 : decode cX1_pupilsOn 53 = .ok (.iaload, 1) := by decide +kernel
theorem dX1_pupilsOn_54 : decode cX1_pupilsOn 54 = .ok (.aaload, 1) := by decide +kernel
theorem dX1_pupilsOn_55 : decode cX1_pupilsOn 55 = .ok (.getfield 122, 3) := by decide +kernel
theorem dX1_pupilsOn_58 : decode cX1_pupilsOn 58 = .ok (.iadd, 1) := by decide +kernel
theorem dX1_pupilsOn_59 : decode cX1_pupilsOn 59 = .ok (.istore 4, 2) := by decide +kernel
theorem dX1_pupilsOn_61 : decode cX1_pupilsOn 61 = .ok (.iinc 5 1, 3) := by decide +kernel
theorem dX1_pupilsOn_64 : decode cX1_pupilsOn 64 = .ok (.goto (-41), 3) := by decide +kernel
theorem dX1_pupilsOn_67 : decode cX1_pupilsOn 67 = .ok (.iload 4, 2) := by decide +kernel
theorem dX1_pupilsOn_69 : decode cX1_pupilsOn 69 = .ok (.ireturn, 1) := by decide +kernel
theorem dX1_canFollow_0 : decode cX1_canFollow 0 = .ok (.bipush 20, 2) := by decide +kernel
theorem dX1_canFollow_2 : decode cX1_canFollow 2 = .ok (.aload_n 1, 1) := by decide +kernel
theorem dX1_canFollow_3 : decode cX1_canFollow 3 = .ok (.aload_n 0, 1) := by decide +kernel
theorem dX1_canFollow_4 : decode cX1_canFollow 4 = .ok (.getfield 9, 3) := by decide +kernel
theorem dX1_canFollow_7 : decode cX1_canFollow 7 = .ok (.iload_n 3, 1) := by decide +kernel
theorem dX1_canFollow_8 : decode cX1_canFollow 8 = .ok (.iaload, 1) := by decide +kernel
theorem dX1_canFollow_9 : decode cX1_canFollow 9 = .ok (.iaload, 1) := by decide +kernel
theorem dX1_canFollow_10 : decode cX1_canFollow 10 = .ok (.aload_n 1, 1) := by decide +kernel
theorem dX1_canFollow_11 : decode cX1_canFollow 11 = .ok (.aload_n 0, 1) := by decide +kernel
theorem dX1_canFollow_12 : decode cX1_canFollow 12 = .ok (.getfield 9, 3) := by decide +kernel
theorem dX1_canFollow_15 : decode cX1_canFollow 15 = .ok (.iload_n 2, 1) := by decide +kernel
theorem dX1_canFollow_16 : decode cX1_canFollow 16 = .ok (.iaload, 1) := by decide +kernel
theorem dX1_canFollow_17 : decode cX1_canFollow 17 = .ok (.iaload, 1) := by decide +kernel
theorem dX1_canFollow_18 : decode cX1_canFollow 18 = .ok (.isub, 1) := by decide +kernel
theorem dX1_canFollow_19 : decode cX1_canFollow 19 = .ok (.imul, 1) := by decide +kernel
theorem dX1_canFollow_20 : decode cX1_canFollow 20 = .ok (.aload_n 0, 1) := by decide +kernel
theorem dX1_canFollow_21 : decode cX1_canFollow 21 = .ok (.getfield 23, 3) := by decide +kernel
theorem dX1_canFollow_24 : decode cX1_canFollow 24 = .ok (.iload_n 2, 1) := by decide +kernel
theorem dX1_canFollow_25 : decode cX1_canFollow 25 = .ok (.aaload, 1) := by decide +kernel
theorem dX1_canFollow_26 : decode cX1_canFollow 26 = .ok (.iload_n 3, 1) := by decide +kernel
theorem dX1_canFollow_27 : decode cX1_canFollow 27 = .ok (.iaload, 1) := by decide +kernel
theorem dX1_canFollow_28 : decode cX1_canFollow 28 = .ok (.if_icmp .lt 7, 3) := by decide +kernel
theorem dX1_canFollow_31 : decode cX1_canFollow 31 = .ok (.iconst 1, 1) := by decide +kernel
theorem dX1_canFollow_32 : decode cX1_canFollow 32 = .ok (.goto 4, 3) := by decide +kernel
theorem dX1_canFollow_35 : decode cX1_canFollow 35 = .ok (.iconst 0, 1) := by decide +kernel
theorem dX1_canFollow_36 : decode cX1_canFollow 36 = .ok (.ireturn, 1) := by decide +kernel
theorem dX1_fewestBuses_0 : decode cX1_fewestBuses 0 = .ok (.aload_n 0, 1) := by decide +kernel
theorem dX1_fewestBuses_1 : decode cX1_fewestBuses 1 = .ok (.aload_n 1, 1) := by decide +kernel
theorem dX1_fewestBuses_2 : decode cX1_fewestBuses 2 = .ok (.invokevirtual 125, 3) := by decide +kernel
theorem dX1_fewestBuses_5 : decode cX1_fewestBuses 5 = .ok (.aload_n 0, 1) := by decide +kernel
theorem dX1_fewestBuses_6 : decode cX1_fewestBuses 6 = .ok (.getfield 37, 3) := by decide +kernel
theorem dX1_fewestBuses_9 : decode cX1_fewestBuses 9 = .ok (.aload_n 0, 1) := by decide +kernel
theorem dX1_fewestBuses_10 : decode cX1_fewestBuses 10 = .ok (.getfield 29, 3) := by decide +kernel
theorem dX1_fewestBuses_13 : decode cX1_fewestBuses 13 = .ok (.iconst 0, 1) := by decide +kernel
theorem dX1_fewestBuses_14 : decode cX1_fewestBuses 14 = .ok (.iconst 1, 1) := by decide +kernel
theorem dX1_fewestBuses_15 : decode cX1_fewestBuses 15 = .ok (.aload_n 0, 1) := by decide +kernel
theorem dX1_fewestBuses_16 : decode cX1_fewestBuses 16 = .ok (.getfield 37, 3) := by decide +kernel
theorem dX1_fewestBuses_19 : decode cX1_fewestBuses 19 = .ok (.ishl, 1) := by decide +kernel
theorem dX1_fewestBuses_20 : decode cX1_fewestBuses 20 = .ok (.iconst 1, 1) := by decide +kernel
theorem dX1_fewestBuses_21 : decode cX1_fewestBuses 21 = .ok (.isub, 1) := by decide +kernel
theorem dX1_fewestBuses_22 : decode cX1_fewestBuses 22 = .ok (.invokevirtual 129, 3) := by decide +kernel
theorem dX1_fewestBuses_25 : decode cX1_fewestBuses 25 = .ok (.isub, 1) := by decide +kernel
theorem dX1_fewestBuses_26 : decode cX1_fewestBuses 26 = .ok (.ireturn, 1) := by decide +kernel
theorem dX1_link_0 : decode cX1_link 0 = .ok (.aload_n 0, 1) := by decide +kernel
theorem dX1_link_1 : decode cX1_link 1 = .ok (.aload_n 1, 1) := by decide +kernel
theorem dX1_link_2 : decode cX1_link 2 = .ok (.invokevirtual 125, 3) := by decide +kernel
theorem dX1_link_5 : decode cX1_link 5 = .ok (.iconst 1, 1) := by decide +kernel
theorem dX1_link_6 : decode cX1_link 6 = .ok (.aload_n 0, 1) := by decide +kernel
theorem dX1_link_7 : decode cX1_link 7 = .ok (.getfield 37, 3) := by decide +kernel
theorem dX1_link_10 : decode cX1_link 10 = .ok (.ishl, 1) := by decide +kernel
theorem dX1_link_11 : decode cX1_link 11 = .ok (.iconst 1, 1) := by decide +kernel
theorem dX1_link_12 : decode cX1_link 12 = .ok (.isub, 1) := by decide +kernel
theorem dX1_link_13 : decode cX1_link 13 = .ok (.istore_n 2, 1) := by decide +kernel
theorem dX1_link_14 : decode cX1_link 14 = .ok (.aload_n 0, 1) := by decide +kernel
theorem dX1_link_15 : decode cX1_link 15 = .ok (.getfield 29, 3) := by decide +kernel
theorem dX1_link_18 : decode cX1_link 18 = .ok (.iconst 0, 1) := by decide +kernel
theorem dX1_link_19 : decode cX1_link 19 = .ok (.iload_n 2, 1) := by decide +kernel
theorem dX1_link_20 : decode cX1_link 20 = .ok (.invokevirtual 129, 3) := by decide +kernel
theorem dX1_link_23 : decode cX1_link 23 = .ok (.istore_n 3, 1) := by decide +kernel
theorem dX1_link_24 : decode cX1_link 24 = .ok (.iconst 0, 1) := by decide +kernel
theorem dX1_link_25 : decode cX1_link 25 = .ok (.istore 4, 2) := by decide +kernel
theorem dX1_link_27 : decode cX1_link 27 = .ok (.iload 4, 2) := by decide +kernel
theorem dX1_link_29 : decode cX1_link 29 = .ok (.aload_n 0, 1) := by decide +kernel
theorem dX1_link_30 : decode cX1_link 30 = .ok (.getfield 37, 3) := by decide +kernel
theorem dX1_link_33 : decode cX1_link 33 = .ok (.if_icmp .ge 109, 3) := by decide +kernel
theorem dX1_link_36 : decode cX1_link 36 = .ok (.aload_n 0, 1) := by decide +kernel
theorem dX1_link_37 : decode cX1_link 37 = .ok (.getfield 15, 3) := by decide +kernel
theorem dX1_link_40 : decode cX1_link 40 = .ok (.iload 4, 2) := by decide +kernel
theorem dX1_link_42 : decode cX1_link 42 = .ok (.iconst (-1), 1) := by decide +kernel
theorem dX1_link_43 : decode cX1_link 43 = .ok (.iastore, 1) := by decide +kernel
theorem dX1_link_44 : decode cX1_link 44 = .ok (.iconst 0, 1) := by decide +kernel
theorem dX1_link_45 : decode cX1_link 45 = .ok (.istore 5, 2) := by decide +kernel
theorem dX1_link_47 : decode cX1_link 47 = .ok (.iload 5, 2) := by decide +kernel
theorem dX1_link_49 : decode cX1_link 49 = .ok (.aload_n 0, 1) := by decide +kernel
theorem dX1_link_50 : decode cX1_link 50 = .ok (.getfield 37, 3) := by decide +kernel
theorem dX1_link_53 : decode cX1_link 53 = .ok (.if_icmp .ge 83, 3) := by decide +kernel
theorem dX1_link_56 : decode cX1_link 56 = .ok (.aload_n 0, 1) := by decide +kernel
theorem dX1_link_57 : decode cX1_link 57 = .ok (.getfield 15, 3) := by decide +kernel
theorem dX1_link_60 : decode cX1_link 60 = .ok (.iload 4, 2) := by decide +kernel
theorem dX1_link_62 : decode cX1_link 62 = .ok (.iaload, 1) := by decide +kernel
theorem dX1_link_63 : decode cX1_link 63 = .ok (.ifCond .ge 73, 3) := by decide +kernel
theorem dX1_link_66 : decode cX1_link 66 = .ok (.iload_n 2, 1) := by decide +kernel
theorem dX1_link_67 : decode cX1_link 67 = .ok (.iconst 1, 1) := by decide +kernel
theorem dX1_link_68 : decode cX1_link 68 = .ok (.iload 5, 2) := by decide +kernel
theorem dX1_link_70 : decode cX1_link 70 = .ok (.ishl, 1) := by decide +kernel
theorem dX1_link_71 : decode cX1_link 71 = .ok (.iconst (-1), 1) := by decide +kernel
theorem dX1_link_72 : decode cX1_link 72 = .ok (.ixor, 1) := by decide +kernel
theorem dX1_link_73 : decode cX1_link 73 = .ok (.iand, 1) := by decide +kernel
theorem dX1_link_74 : decode cX1_link 74 = .ok (.istore 6, 2) := by decide +kernel
theorem dX1_link_76 : decode cX1_link 76 = .ok (.aload_n 0, 1) := by decide +kernel
theorem dX1_link_77 : decode cX1_link 77 = .ok (.getfield 29, 3) := by decide +kernel
theorem dX1_link_80 : decode cX1_link 80 = .ok (.getfield 132, 3) := by decide +kernel
theorem dX1_link_83 : decode cX1_link 83 = .ok (.iload 4, 2) := by decide +kernel
theorem dX1_link_85 : decode cX1_link 85 = .ok (.iaload, 1) := by decide +kernel
theorem dX1_link_86 : decode cX1_link 86 = .ok (.iload_n 2, 1) := by decide +kernel
theorem dX1_link_87 : decode cX1_link 87 = .ok (.iand, 1) := by decide +kernel
theorem dX1_link_88 : decode cX1_link 88 = .ok (.iconst 1, 1) := by decide +kernel
theorem dX1_link_89 : decode cX1_link 89 = .ok (.iload 5, 2) := by decide +kernel
theorem dX1_link_91 : decode cX1_link 91 = .ok (.ishl, 1) := by decide +kernel
theorem dX1_link_92 : decode cX1_link 92 = .ok (.iand, 1) := by decide +kernel
theorem dX1_link_93 : decode cX1_link 93 = .ok (.ifCond .eq 37, 3) := by decide +kernel
theorem dX1_link_96 : decode cX1_link 96 = .ok (.aload_n 0, 1) := by decide +kernel
theorem dX1_link_97 : decode cX1_link 97 = .ok (.getfield 29, 3) := by decide +kernel
theorem dX1_link_100 : decode cX1_link 100 = .ok (.iload 4, 2) := by decide +kernel
theorem dX1_link_102 : decode cX1_link 102 = .ok (.iconst 1, 1) := by decide +kernel
theorem dX1_link_103 : decode cX1_link 103 = .ok (.iadd, 1) := by decide +kernel
theorem dX1_link_104 : decode cX1_link 104 = .ok (.iload 6, 2) := by decide +kernel
theorem dX1_link_106 : decode cX1_link 106 = .ok (.invokevirtual 129, 3) := by decide +kernel
theorem dX1_link_109 : decode cX1_link 109 = .ok (.iload_n 3, 1) := by decide +kernel
theorem dX1_link_110 : decode cX1_link 110 = .ok (.iconst 1, 1) := by decide +kernel
theorem dX1_link_111 : decode cX1_link 111 = .ok (.isub, 1) := by decide +kernel
theorem dX1_link_112 : decode cX1_link 112 = .ok (.if_icmp .ne 18, 3) := by decide +kernel
theorem dX1_link_115 : decode cX1_link 115 = .ok (.aload_n 0, 1) := by decide +kernel
theorem dX1_link_116 : decode cX1_link 116 = .ok (.getfield 15, 3) := by decide +kernel
theorem dX1_link_119 : decode cX1_link 119 = .ok (.iload 4, 2) := by decide +kernel
theorem dX1_link_121 : decode cX1_link 121 = .ok (.iload 5, 2) := by decide +kernel
theorem dX1_link_123 : decode cX1_link 123 = .ok (.iastore, 1) := by decide +kernel
theorem dX1_link_124 : decode cX1_link 124 = .ok (.iload 6, 2) := by decide +kernel
theorem dX1_link_126 : decode cX1_link 126 = .ok (.istore_n 2, 1) := by decide +kernel
theorem dX1_link_127 : decode cX1_link 127 = .ok (.iinc 3 (-1), 3) := by decide +kernel
theorem dX1_link_130 : decode cX1_link 130 = .ok (.iinc 5 1, 3) := by decide +kernel
theorem dX1_link_133 : decode cX1_link 133 = .ok (.goto (-86), 3) := by decide +kernel
theorem dX1_link_136 : decode cX1_link 136 = .ok (.iinc 4 1, 3) := by decide +kernel
theorem dX1_link_139 : decode cX1_link 139 = .ok (.goto (-112), 3) := by decide +kernel
theorem dX1_link_142 : decode cX1_link 142 = .ok (.aload_n 0, 1) := by decide +kernel
theorem dX1_link_143 : decode cX1_link 143 = .ok (.iconst 1, 1) := by decide +kernel
theorem dX1_link_144 : decode cX1_link 144 = .ok (.aload_n 0, 1) := by decide +kernel
theorem dX1_link_145 : decode cX1_link 145 = .ok (.getfield 37, 3) := by decide +kernel
theorem dX1_link_148 : decode cX1_link 148 = .ok (.ishl, 1) := by decide +kernel
theorem dX1_link_149 : decode cX1_link 149 = .ok (.iconst 1, 1) := by decide +kernel
theorem dX1_link_150 : decode cX1_link 150 = .ok (.isub, 1) := by decide +kernel
theorem dX1_link_151 : decode cX1_link 151 = .ok (.iload_n 2, 1) := by decide +kernel
theorem dX1_link_152 : decode cX1_link 152 = .ok (.iconst (-1), 1) := by decide +kernel
theorem dX1_link_153 : decode cX1_link 153 = .ok (.ixor, 1) := by decide +kernel
end
section
theorem dX1_link_154 : decode cX1_link 154 = .ok (.iand, 1) := by decide +kernel
theorem dX1_link_155 : decode cX1_link 155 = .ok (.putfield 135, 3) := by decide +kernel
theorem dX1_link_158 : decode cX1_link 158 = .ok (.return_, 1) := by decide +kernel
theorem dX1_fillMatcher_0 : decode cX1_fillMatcher 0 = .ok (.aload_n 0, 1) := by decide +kernel
theorem dX1_fillMatcher_1 : decode cX1_fillMatcher 1 = .ok (.getfield 29, 3) := by decide +kernel
theorem dX1_fillMatcher_4 : decode cX1_fillMatcher 4 = .ok (.aload_n 0, 1) := by decide +kernel
theorem dX1_fillMatcher_5 : decode cX1_fillMatcher 5 = .ok (.getfield 37, 3) := by decide +kernel
theorem dX1_fillMatcher_8 : decode cX1_fillMatcher 8 = .ok (.putfield 138, 3) := by decide +kernel
theorem dX1_fillMatcher_11 : decode cX1_fillMatcher 11 = .ok (.iconst 0, 1) := by decide +kernel
theorem dX1_fillMatcher_12 : decode cX1_fillMatcher 12 = .ok (.istore_n 2, 1) := by decide +kernel
theorem dX1_fillMatcher_13 : decode cX1_fillMatcher 13 = .ok (.iload_n 2, 1) := by decide +kernel
theorem dX1_fillMatcher_14 : decode cX1_fillMatcher 14 = .ok (.aload_n 0, 1) := by decide +kernel
theorem dX1_fillMatcher_15 : decode cX1_fillMatcher 15 = .ok (.getfield 37, 3) := by decide +kernel
theorem dX1_fillMatcher_18 : decode cX1_fillMatcher 18 = .ok (.if_icmp .ge 57, 3) := by decide +kernel
theorem dX1_fillMatcher_21 : decode cX1_fillMatcher 21 = .ok (.iconst 0, 1) := by decide +kernel
theorem dX1_fillMatcher_22 : decode cX1_fillMatcher 22 = .ok (.istore_n 3, 1) := by decide +kernel
theorem dX1_fillMatcher_23 : decode cX1_fillMatcher 23 = .ok (.iconst 0, 1) := by decide +kernel
theorem dX1_fillMatcher_24 : decode cX1_fillMatcher 24 = .ok (.istore 4, 2) := by decide +kernel
theorem dX1_fillMatcher_26 : decode cX1_fillMatcher 26 = .ok (.iload 4, 2) := by decide +kernel
theorem dX1_fillMatcher_28 : decode cX1_fillMatcher 28 = .ok (.aload_n 0, 1) := by decide +kernel
theorem dX1_fillMatcher_29 : decode cX1_fillMatcher 29 = .ok (.getfield 37, 3) := by decide +kernel
theorem dX1_fillMatcher_32 : decode cX1_fillMatcher 32 = .ok (.if_icmp .ge 27, 3) := by decide +kernel
theorem dX1_fillMatcher_35 : decode cX1_fillMatcher 35 = .ok (.aload_n 0, 1) := by decide +kernel
theorem dX1_fillMatcher_36 : decode cX1_fillMatcher 36 = .ok (.aload_n 1, 1) := by decide +kernel
theorem dX1_fillMatcher_37 : decode cX1_fillMatcher 37 = .ok (.iload_n 2, 1) := by decide +kernel
theorem dX1_fillMatcher_38 : decode cX1_fillMatcher 38 = .ok (.iload 4, 2) := by decide +kernel
theorem dX1_fillMatcher_40 : decode cX1_fillMatcher 40 = .ok (.invokevirtual 139, 3) := by decide +kernel
theorem dX1_fillMatcher_43 : decode cX1_fillMatcher 43 = .ok (.ifCond .eq 10, 3) := by decide +kernel
theorem dX1_fillMatcher_46 : decode cX1_fillMatcher 46 = .ok (.iload_n 3, 1) := by decide +kernel
theorem dX1_fillMatcher_47 : decode cX1_fillMatcher 47 = .ok (.iconst 1, 1) := by decide +kernel
theorem dX1_fillMatcher_48 : decode cX1_fillMatcher 48 = .ok (.iload 4, 2) := by decide +kernel
theorem dX1_fillMatcher_50 : decode cX1_fillMatcher 50 = .ok (.ishl, 1) := by decide +kernel
theorem dX1_fillMatcher_51 : decode cX1_fillMatcher 51 = .ok (.ior, 1) := by decide +kernel
theorem dX1_fillMatcher_52 : decode cX1_fillMatcher 52 = .ok (.istore_n 3, 1) := by decide +kernel
theorem dX1_fillMatcher_53 : decode cX1_fillMatcher 53 = .ok (.iinc 4 1, 3) := by decide +kernel
theorem dX1_fillMatcher_56 : decode cX1_fillMatcher 56 = .ok (.goto (-30), 3) := by decide +kernel
theorem dX1_fillMatcher_59 : decode cX1_fillMatcher 59 = .ok (.aload_n 0, 1) := by decide +kernel
theorem dX1_fillMatcher_60 : decode cX1_fillMatcher 60 = .ok (.getfield 29, 3) := by decide +kernel
theorem dX1_fillMatcher_63 : decode cX1_fillMatcher 63 = .ok (.getfield 132, 3) := by decide +kernel
theorem dX1_fillMatcher_66 : decode cX1_fillMatcher 66 = .ok (.iload_n 2, 1) := by decide +kernel
theorem dX1_fillMatcher_67 : decode cX1_fillMatcher 67 = .ok (.iload_n 3, 1) := by decide +kernel
theorem dX1_fillMatcher_68 : decode cX1_fillMatcher 68 = .ok (.iastore, 1) := by decide +kernel
theorem dX1_fillMatcher_69 : decode cX1_fillMatcher 69 = .ok (.iinc 2 1, 3) := by decide +kernel
theorem dX1_fillMatcher_72 : decode cX1_fillMatcher 72 = .ok (.goto (-59), 3) := by decide +kernel
theorem dX1_fillMatcher_75 : decode cX1_fillMatcher 75 = .ok (.return_, 1) := by decide +kernel
theorem dX1_busCount_0 : decode cX1_busCount 0 = .ok (.aload_n 0, 1) := by decide +kernel
theorem dX1_busCount_1 : decode cX1_busCount 1 = .ok (.getfield 37, 3) := by decide +kernel
theorem dX1_busCount_4 : decode cX1_busCount 4 = .ok (.aload_n 0, 1) := by decide +kernel
theorem dX1_busCount_5 : decode cX1_busCount 5 = .ok (.getfield 135, 3) := by decide +kernel
theorem dX1_busCount_8 : decode cX1_busCount 8 = .ok (.invokestatic 143, 3) := by decide +kernel
theorem dX1_busCount_11 : decode cX1_busCount 11 = .ok (.isub, 1) := by decide +kernel
theorem dX1_busCount_12 : decode cX1_busCount 12 = .ok (.ireturn, 1) := by decide +kernel
theorem dX1_isFirst_0 : decode cX1_isFirst 0 = .ok (.aload_n 0, 1) := by decide +kernel
theorem dX1_isFirst_1 : decode cX1_isFirst 1 = .ok (.getfield 135, 3) := by decide +kernel
theorem dX1_isFirst_4 : decode cX1_isFirst 4 = .ok (.iload_n 1, 1) := by decide +kernel
theorem dX1_isFirst_5 : decode cX1_isFirst 5 = .ok (.ishr, 1) := by decide +kernel
theorem dX1_isFirst_6 : decode cX1_isFirst 6 = .ok (.iconst 1, 1) := by decide +kernel
theorem dX1_isFirst_7 : decode cX1_isFirst 7 = .ok (.iand, 1) := by decide +kernel
theorem dX1_isFirst_8 : decode cX1_isFirst 8 = .ok (.ifCond .ne 7, 3) := by decide +kernel
theorem dX1_isFirst_11 : decode cX1_isFirst 11 = .ok (.iconst 1, 1) := by decide +kernel
theorem dX1_isFirst_12 : decode cX1_isFirst 12 = .ok (.goto 4, 3) := by decide +kernel
theorem dX1_isFirst_15 : decode cX1_isFirst 15 = .ok (.iconst 0, 1) := by decide +kernel
theorem dX1_isFirst_16 : decode cX1_isFirst 16 = .ok (.ireturn, 1) := by decide +kernel
theorem dX1_driven_0 : decode cX1_driven 0 = .ok (.iload_n 1, 1) := by decide +kernel
theorem dX1_driven_1 : decode cX1_driven 1 = .ok (.istore_n 3, 1) := by decide +kernel
theorem dX1_driven_2 : decode cX1_driven 2 = .ok (.iconst (-1), 1) := by decide +kernel
theorem dX1_driven_3 : decode cX1_driven 3 = .ok (.istore 4, 2) := by decide +kernel
theorem dX1_driven_5 : decode cX1_driven 5 = .ok (.iconst 0, 1) := by decide +kernel
theorem dX1_driven_6 : decode cX1_driven 6 = .ok (.istore 5, 2) := by decide +kernel
theorem dX1_driven_8 : decode cX1_driven 8 = .ok (.iload 5, 2) := by decide +kernel
theorem dX1_driven_10 : decode cX1_driven 10 = .ok (.aload_n 0, 1) := by decide +kernel
theorem dX1_driven_11 : decode cX1_driven 11 = .ok (.getfield 37, 3) := by decide +kernel
theorem dX1_driven_14 : decode cX1_driven 14 = .ok (.if_icmp .ge 38, 3) := by decide +kernel
theorem dX1_driven_17 : decode cX1_driven 17 = .ok (.iload 4, 2) := by decide +kernel
theorem dX1_driven_19 : decode cX1_driven 19 = .ok (.ifCond .ge 33, 3) := by decide +kernel
theorem dX1_driven_22 : decode cX1_driven 22 = .ok (.aload_n 0, 1) := by decide +kernel
theorem dX1_driven_23 : decode cX1_driven 23 = .ok (.iload 5, 2) := by decide +kernel
theorem dX1_driven_25 : decode cX1_driven 25 = .ok (.invokevirtual 148, 3) := by decide +kernel
theorem dX1_driven_28 : decode cX1_driven 28 = .ok (.ifCond .eq 18, 3) := by decide +kernel
theorem dX1_driven_31 : decode cX1_driven 31 = .ok (.iload_n 3, 1) := by decide +kernel
theorem dX1_driven_32 : decode cX1_driven 32 = .ok (.ifCond .ne 8, 3) := by decide +kernel
theorem dX1_driven_35 : decode cX1_driven 35 = .ok (.iload 5, 2) := by decide +kernel
theorem dX1_driven_37 : decode cX1_driven 37 = .ok (.goto 4, 3) := by decide +kernel
theorem dX1_driven_40 : decode cX1_driven 40 = .ok (.iconst (-1), 1) := by decide +kernel
theorem dX1_driven_41 : decode cX1_driven 41 = .ok (.istore 4, 2) := by decide +kernel
theorem dX1_driven_43 : decode cX1_driven 43 = .ok (.iinc 3 (-1), 3) := by decide +kernel
theorem dX1_driven_46 : decode cX1_driven 46 = .ok (.iinc 5 1, 3) := by decide +kernel
theorem dX1_driven_49 : decode cX1_driven 49 = .ok (.goto (-41), 3) := by decide +kernel
theorem dX1_driven_52 : decode cX1_driven 52 = .ok (.iconst 0, 1) := by decide +kernel
theorem dX1_driven_53 : decode cX1_driven 53 = .ok (.istore 5, 2) := by decide +kernel
theorem dX1_driven_55 : decode cX1_driven 55 = .ok (.iload 5, 2) := by decide +kernel
theorem dX1_driven_57 : decode cX1_driven 57 = .ok (.iload_n 2, 1) := by decide +kernel
theorem dX1_driven_58 : decode cX1_driven 58 = .ok (.if_icmp .ge 32, 3) := by decide +kernel
theorem dX1_driven_61 : decode cX1_driven 61 = .ok (.iload 5, 2) := by decide +kernel
theorem dX1_driven_63 : decode cX1_driven 63 = .ok (.aload_n 0, 1) := by decide +kernel
theorem dX1_driven_64 : decode cX1_driven 64 = .ok (.getfield 37, 3) := by decide +kernel
theorem dX1_driven_67 : decode cX1_driven 67 = .ok (.if_icmp .ge 23, 3) := by decide +kernel
theorem dX1_driven_70 : decode cX1_driven 70 = .ok (.iload 4, 2) := by decide +kernel
theorem dX1_driven_72 : decode cX1_driven 72 = .ok (.ifCond .lt 18, 3) := by decide +kernel
theorem dX1_driven_75 : decode cX1_driven 75 = .ok (.aload_n 0, 1) := by decide +kernel
theorem dX1_driven_76 : decode cX1_driven 76 = .ok (.getfield 15, 3) := by decide +kernel
theorem dX1_driven_79 : decode cX1_driven 79 = .ok (.iload 4, 2) := by decide +kernel
theorem dX1_driven_81 : decode cX1_driven 81 = .ok (.iaload, 1) := by decide +kernel
theorem dX1_driven_82 : decode cX1_driven 82 = .ok (.istore 4, 2) := by decide +kernel
theorem dX1_driven_84 : decode cX1_driven 84 = .ok (.iinc 5 1, 3) := by decide +kernel
theorem dX1_driven_87 : decode cX1_driven 87 = .ok (.goto (-32), 3) := by decide +kernel
theorem dX1_driven_90 : decode cX1_driven 90 = .ok (.iload 4, 2) := by decide +kernel
theorem dX1_driven_92 : decode cX1_driven 92 = .ok (.ireturn, 1) := by decide +kernel
theorem dX1_specialBuses_0 : decode cX1_specialBuses 0 = .ok (.iconst 0, 1) := by decide +kernel
theorem dX1_specialBuses_1 : decode cX1_specialBuses 1 = .ok (.istore_n 2, 1) := by decide +kernel
theorem dX1_specialBuses_2 : decode cX1_specialBuses 2 = .ok (.iconst 0, 1) := by decide +kernel
theorem dX1_specialBuses_3 : decode cX1_specialBuses 3 = .ok (.istore_n 3, 1) := by decide +kernel
theorem dX1_specialBuses_4 : decode cX1_specialBuses 4 = .ok (.iload_n 3, 1) := by decide +kernel
theorem dX1_specialBuses_5 : decode cX1_specialBuses 5 = .ok (.aload_n 0, 1) := by decide +kernel
theorem dX1_specialBuses_6 : decode cX1_specialBuses 6 = .ok (.getfield 37, 3) := by decide +kernel
theorem dX1_specialBuses_9 : decode cX1_specialBuses 9 = .ok (.if_icmp .ge 29, 3) := by decide +kernel
theorem dX1_specialBuses_12 : decode cX1_specialBuses 12 = .ok (.aload_n 0, 1) := by decide +kernel
theorem dX1_specialBuses_13 : decode cX1_specialBuses 13 = .ok (.iload_n 3, 1) := by decide +kernel
theorem dX1_specialBuses_14 : decode cX1_specialBuses 14 = .ok (.invokevirtual 148, 3) := by decide +kernel
theorem dX1_specialBuses_17 : decode cX1_specialBuses 17 = .ok (.ifCond .eq 15, 3) := by decide +kernel
theorem dX1_specialBuses_20 : decode cX1_specialBuses 20 = .ok (.aload_n 0, 1) := by decide +kernel
theorem dX1_specialBuses_21 : decode cX1_specialBuses 21 = .ok (.aload_n 1, 1) := by decide +kernel
theorem dX1_specialBuses_22 : decode cX1_specialBuses 22 = .ok (.iload_n 3, 1) := by decide +kernel
theorem dX1_specialBuses_23 : decode cX1_specialBuses 23 = .ok (.invokevirtual 152, 3) := by decide +kernel
theorem dX1_specialBuses_26 : decode cX1_specialBuses 26 = .ok (.ifCond .eq 6, 3) := by decide +kernel
theorem dX1_specialBuses_29 : decode cX1_specialBuses 29 = .ok (.iinc 2 1, 3) := by decide +kernel
theorem dX1_specialBuses_32 : decode cX1_specialBuses 32 = .ok (.iinc 3 1, 3) := by decide +kernel
theorem dX1_specialBuses_35 : decode cX1_specialBuses 35 = .ok (.goto (-31), 3) := by decide +kernel
theorem dX1_specialBuses_38 : decode cX1_specialBuses 38 = .ok (.iload_n 2, 1) := by decide +kernel
theorem dX1_specialBuses_39 : decode cX1_specialBuses 39 = .ok (.ireturn, 1) := by decide +kernel
theorem dX1_drivesSpecial_0 : decode cX1_drivesSpecial 0 = .ok (.iload_n 2, 1) := by decide +kernel
theorem dX1_drivesSpecial_1 : decode cX1_drivesSpecial 1 = .ok (.istore_n 3, 1) := by decide +kernel
theorem dX1_drivesSpecial_2 : decode cX1_drivesSpecial 2 = .ok (.iconst 0, 1) := by decide +kernel
theorem dX1_drivesSpecial_3 : decode cX1_drivesSpecial 3 = .ok (.istore 4, 2) := by decide +kernel
theorem dX1_drivesSpecial_5 : decode cX1_drivesSpecial 5 = .ok (.iload 4, 2) := by decide +kernel
theorem dX1_drivesSpecial_7 : decode cX1_drivesSpecial 7 = .ok (.aload_n 0, 1) := by decide +kernel
theorem dX1_drivesSpecial_8 : decode cX1_drivesSpecial 8 = .ok (.getfield 37, 3) := by decide +kernel
theorem dX1_drivesSpecial_11 : decode cX1_drivesSpecial 11 = .ok (.if_icmp .ge 35, 3) := by decide +kernel
theorem dX1_drivesSpecial_14 : decode cX1_drivesSpecial 14 = .ok (.iload_n 3, 1) := by decide +kernel
theorem dX1_drivesSpecial_15 : decode cX1_drivesSpecial 15 = .ok (.ifCond .lt 31, 3) := by decide +kernel
theorem dX1_drivesSpecial_18 : decode cX1_drivesSpecial 18 = .ok (.aload_n 0, 1) := by decide +kernel
theorem dX1_drivesSpecial_19 : decode cX1_drivesSpecial 19 = .ok (.aload_n 1, 1) := by decide +kernel
theorem dX1_drivesSpecial_20 : decode cX1_drivesSpecial 20 = .ok (.iload_n 3, 1) := by decide +kernel
theorem dX1_drivesSpecial_21 : decode cX1_drivesSpecial 21 = .ok (.invokevirtual 81, 3) := by decide +kernel
theorem dX1_drivesSpecial_24 : decode cX1_drivesSpecial 24 = .ok (.getfield 156, 3) := by decide +kernel
theorem dX1_drivesSpecial_27 : decode cX1_drivesSpecial 27 = .ok (.iconst 3, 1) := by decide +kernel
theorem dX1_drivesSpecial_28 : decode cX1_drivesSpecial 28 = .ok (.if_icmp .ne 5, 3) := by decide +kernel
theorem dX1_drivesSpecial_31 : decode cX1_drivesSpecial 31 = .ok (.iconst 1, 1) := by decide +kernel
theorem dX1_drivesSpecial_32 : decode cX1_drivesSpecial 32 = .ok (.ireturn, 1) := by decide +kernel
theorem dX1_drivesSpecial_33 : decode cX1_drivesSpecial 33 = .ok (.aload_n 0, 1) := by decide +kernel
theorem dX1_drivesSpecial_34 : decode cX1_drivesSpecial 34 = .ok (.getfield 15, 3) := by decide +kernel
theorem dX1_drivesSpecial_37 : decode cX1_drivesSpecial 37 = .ok (.iload_n 3, 1) := by decide +kernel
theorem dX1_drivesSpecial_38 : decode cX1_drivesSpecial 38 = .ok (.iaload, 1) := by decide +kernel
theorem dX1_drivesSpecial_39 : decode cX1_drivesSpecial 39 = .ok (.istore_n 3, 1) := by decide +kernel
theorem dX1_drivesSpecial_40 : decode cX1_drivesSpecial 40 = .ok (.iinc 4 1, 3) := by decide +kernel
theorem dX1_drivesSpecial_43 : decode cX1_drivesSpecial 43 = .ok (.goto (-38), 3) := by decide +kernel
theorem dX1_drivesSpecial_46 : decode cX1_drivesSpecial 46 = .ok (.iconst 0, 1) := by decide +kernel
theorem dX1_drivesSpecial_47 : decode cX1_drivesSpecial 47 = .ok (.ireturn, 1) := by decide +kernel
theorem dX2_init_0 : decode cX2_init 0 = .ok (.aload_n 0, 1) := by decide +kernel
theorem dX2_init_1 : decode cX2_init 1 = .ok (.invokespecial 3, 3) := by decide +kernel
theorem dX2_init_4 : decode cX2_init 4 = .ok (.aload_n 0, 1) := by decide +kernel
theorem dX2_init_5 : decode cX2_init 5 = .ok (.bipush 11, 2) := by decide +kernel
theorem dX2_init_7 : decode cX2_init 7 = .ok (.newarray .int, 2) := by decide +kernel
theorem dX2_init_9 : decode cX2_init 9 = .ok (.putfield 9, 3) := by decide +kernel
theorem dX2_init_12 : decode cX2_init 12 = .ok (.aload_n 0, 1) := by decide +kernel
theorem dX2_init_13 : decode cX2_init 13 = .ok (.bipush 11, 2) := by decide +kernel
theorem dX2_init_15 : decode cX2_init 15 = .ok (.newarray .int, 2) := by decide +kernel
theorem dX2_init_17 : decode cX2_init 17 = .ok (.putfield 15, 3) := by decide +kernel
theorem dX2_init_20 : decode cX2_init 20 = .ok (.aload_n 0, 1) := by decide +kernel
theorem dX2_init_21 : decode cX2_init 21 = .ok (.bipush 11, 2) := by decide +kernel
theorem dX2_init_23 : decode cX2_init 23 = .ok (.newarray .int, 2) := by decide +kernel
theorem dX2_init_25 : decode cX2_init 25 = .ok (.putfield 18, 3) := by decide +kernel
theorem dX2_init_28 : decode cX2_init 28 = .ok (.aload_n 0, 1) := by decide +kernel
theorem dX2_init_29 : decode cX2_init 29 = .ok (.iconst 4, 1) := by decide +kernel
theorem dX2_init_30 : decode cX2_init 30 = .ok (.bipush 7, 2) := by decide +kernel
theorem dX2_init_32 : decode cX2_init 32 = .ok (.multianewarray 21 2, 4) := by decide +kernel
theorem dX2_init_36 : decode cX2_init 36 = .ok (.putfield 23, 3) := by decide +kernel
theorem dX2_init_39 : decode cX2_init 39 = .ok (.aload_n 0, 1) := by decide +kernel
theorem dX2_init_40 : decode cX2_init 40 = .ok (.iconst 4, 1) := by decide +kernel
theorem dX2_init_41 : decode cX2_init 41 = .ok (.newarray .int, 2) := by decide +kernel
theorem dX2_init_43 : decode cX2_init 43 = .ok (.putfield 26, 3) := by decide +kernel
theorem dX2_init_46 : decode cX2_init 46 = .ok (.return_, 1) := by decide +kernel
theorem dX2_weigh_0 : decode cX2_weigh 0 = .ok (.aload_n 0, 1) := by decide +kernel
theorem dX2_weigh_1 : decode cX2_weigh 1 = .ok (.aload_n 1, 1) := by decide +kernel
theorem dX2_weigh_2 : decode cX2_weigh 2 = .ok (.getfield 29, 3) := by decide +kernel
theorem dX2_weigh_5 : decode cX2_weigh 5 = .ok (.putfield 35, 3) := by decide +kernel
theorem dX2_weigh_8 : decode cX2_weigh 8 = .ok (.iconst 1, 1) := by decide +kernel
theorem dX2_weigh_9 : decode cX2_weigh 9 = .ok (.istore 4, 2) := by decide +kernel
theorem dX2_weigh_11 : decode cX2_weigh 11 = .ok (.iconst 0, 1) := by decide +kernel
theorem dX2_weigh_12 : decode cX2_weigh 12 = .ok (.istore 5, 2) := by decide +kernel
theorem dX2_weigh_14 : decode cX2_weigh 14 = .ok (.iload 5, 2) := by decide +kernel
theorem dX2_weigh_16 : decode cX2_weigh 16 = .ok (.aload_n 0, 1) := by decide +kernel
theorem dX2_weigh_17 : decode cX2_weigh 17 = .ok (.getfield 35, 3) := by decide +kernel
theorem dX2_weigh_20 : decode cX2_weigh 20 = .ok (.if_icmp .ge 77, 3) := by decide +kernel
theorem dX2_weigh_23 : decode cX2_weigh 23 = .ok (.iload 4, 2) := by decide +kernel
theorem dX2_weigh_25 : decode cX2_weigh 25 = .ok (.bipush 7, 2) := by decide +kernel
theorem dX2_weigh_27 : decode cX2_weigh 27 = .ok (.imul, 1) := by decide +kernel
theorem dX2_weigh_28 : decode cX2_weigh 28 = .ok (.istore 4, 2) := by decide +kernel
theorem dX2_weigh_30 : decode cX2_weigh 30 = .ok (.iconst 0, 1) := by decide +kernel
theorem dX2_weigh_31 : decode cX2_weigh 31 = .ok (.istore 6, 2) := by decide +kernel
theorem dX2_weigh_33 : decode cX2_weigh 33 = .ok (.iload 6, 2) := by decide +kernel
theorem dX2_weigh_35 : decode cX2_weigh 35 = .ok (.bipush 7, 2) := by decide +kernel
theorem dX2_weigh_37 : decode cX2_weigh 37 = .ok (.if_icmp .ge 54, 3) := by decide +kernel
theorem dX2_weigh_40 : decode cX2_weigh 40 = .ok (.aload_n 3, 1) := by decide +kernel
theorem dX2_weigh_41 : decode cX2_weigh 41 = .ok (.aload_n 1, 1) := by decide +kernel
theorem dX2_weigh_42 : decode cX2_weigh 42 = .ok (.getfield 38, 3) := by decide +kernel
theorem dX2_weigh_45 : decode cX2_weigh 45 = .ok (.iload 5, 2) := by decide +kernel
theorem dX2_weigh_47 : decode cX2_weigh 47 = .ok (.aaload, 1) := by decide +kernel
theorem dX2_weigh_48 : decode cX2_weigh 48 = .ok (.getfield 41, 3) := by decide +kernel
theorem dX2_weigh_51 : decode cX2_weigh 51 = .ok (.iload 6, 2) := by decide +kernel
theorem dX2_weigh_53 : decode cX2_weigh 53 = .ok (.invokevirtual 46, 3) := by decide +kernel
theorem dX2_weigh_56 : decode cX2_weigh 56 = .ok (.istore 7, 2) := by decide +kernel
theorem dX2_weigh_58 : decode cX2_weigh 58 = .ok (.aload_n 0, 1) := by decide +kernel
theorem dX2_weigh_59 : decode cX2_weigh 59 = .ok (.getfield 23, 3) := by decide +kernel
theorem dX2_weigh_62 : decode cX2_weigh 62 = .ok (.iload 5, 2) := by decide +kernel
theorem dX2_weigh_64 : decode cX2_weigh 64 = .ok (.aaload, 1) := by decide +kernel
theorem dX2_weigh_65 : decode cX2_weigh 65 = .ok (.iload 6, 2) := by decide +kernel
theorem dX2_weigh_67 : decode cX2_weigh 67 = .ok (.iload 7, 2) := by decide +kernel
theorem dX2_weigh_69 : decode cX2_weigh 69 = .ok (.ifCond .eq 14, 3) := by decide +kernel
theorem dX2_weigh_72 : decode cX2_weigh 72 = .ok (.aload_n 1, 1) := by decide +kernel
theorem dX2_weigh_73 : decode cX2_weigh 73 = .ok (.iload 5, 2) := by decide +kernel
theorem dX2_weigh_75 : decode cX2_weigh 75 = .ok (.iload 6, 2) := by decide +kernel
theorem dX2_weigh_77 : decode cX2_weigh 77 = .ok (.invokevirtual 52, 3) := by decide +kernel
theorem dX2_weigh_80 : decode cX2_weigh 80 = .ok (.goto 4, 3) := by decide +kernel
theorem dX2_weigh_83 : decode cX2_weigh 83 = .ok (.iconst (-1), 1) := by decide +kernel
theorem dX2_weigh_84 : decode cX2_weigh 84 = .ok (.iastore, 1) := by decide +kernel
theorem dX2_weigh_85 : decode cX2_weigh 85 = .ok (.iinc 6 1, 3) := by decide +kernel
theorem dX2_weigh_88 : decode cX2_weigh 88 = .ok (.goto (-55), 3) := by decide +kernel
theorem dX2_weigh_91 : decode cX2_weigh 91 = .ok (.iinc 5 1, 3) := by decide +kernel
theorem dX2_weigh_94 : decode cX2_weigh 94 = .ok (.goto (-80), 3) := by decide +kernel
theorem dX2_weigh_97 : decode cX2_weigh 97 = .ok (.aload_n 0, 1) := by decide +kernel
theorem dX2_weigh_98 : decode cX2_weigh 98 = .ok (.getfield 15, 3) := by decide +kernel
theorem dX2_weigh_101 : decode cX2_weigh 101 = .ok (.ldc 56, 2) := by decide +kernel
theorem dX2_weigh_103 : decode cX2_weigh 103 = .ok (.invokestatic 57, 3) := by decide +kernel
theorem dX2_weigh_106 : decode cX2_weigh 106 = .ok (.iconst 0, 1) := by decide +kernel
theorem dX2_weigh_107 : decode cX2_weigh 107 = .ok (.istore 5, 2) := by decide +kernel
theorem dX2_weigh_109 : decode cX2_weigh 109 = .ok (.iload 5, 2) := by decide +kernel
theorem dX2_weigh_111 : decode cX2_weigh 111 = .ok (.iload 4, 2) := by decide +kernel
theorem dX2_weigh_113 : decode cX2_weigh 113 = .ok (.if_icmp .ge 57, 3) := by decide +kernel
theorem dX2_weigh_116 : decode cX2_weigh 116 = .ok (.aload_n 0, 1) := by decide +kernel
theorem dX2_weigh_117 : decode cX2_weigh 117 = .ok (.iload 5, 2) := by decide +kernel
theorem dX2_weigh_119 : decode cX2_weigh 119 = .ok (.invokevirtual 63, 3) := by decide +kernel
theorem dX2_weigh_122 : decode cX2_weigh 122 = .ok (.aload_n 0, 1) := by decide +kernel
theorem dX2_weigh_123 : decode cX2_weigh 123 = .ok (.invokevirtual 67, 3) := by decide +kernel
theorem dX2_weigh_126 : decode cX2_weigh 126 = .ok (.istore 6, 2) := by decide +kernel
theorem dX2_weigh_128 : decode cX2_weigh 128 = .ok (.iload 6, 2) := by decide +kernel
theorem dX2_weigh_130 : decode cX2_weigh 130 = .ok (.iconst (-1), 1) := by decide +kernel
theorem dX2_weigh_131 : decode cX2_weigh 131 = .ok (.if_icmp .eq 33, 3) := by decide +kernel
theorem dX2_weigh_134 : decode cX2_weigh 134 = .ok (.iload 6, 2) := by decide +kernel
theorem dX2_weigh_136 : decode cX2_weigh 136 = .ok (.aload_n 0, 1) := by decide +kernel
theorem dX2_weigh_137 : decode cX2_weigh 137 = .ok (.getfield 15, 3) := by decide +kernel
theorem dX2_weigh_140 : decode cX2_weigh 140 = .ok (.aload_n 2, 1) := by decide +kernel
theorem dX2_weigh_141 : decode cX2_weigh 141 = .ok (.getfield 71, 3) := by decide +kernel
theorem dX2_weigh_144 : decode cX2_weigh 144 = .ok (.iaload, 1) := by decide +kernel
theorem dX2_weigh_145 : decode cX2_weigh 145 = .ok (.if_icmp .ge 19, 3) := by decide +kernel
theorem dX2_weigh_148 : decode cX2_weigh 148 = .ok (.aload_n 0, 1) := by decide +kernel
theorem dX2_weigh_149 : decode cX2_weigh 149 = .ok (.iload 5, 2) := by decide +kernel
theorem dX2_weigh_151 : decode cX2_weigh 151 = .ok (.iload 6, 2) := by decide +kernel
theorem dX2_weigh_153 : decode cX2_weigh 153 = .ok (.aload_n 2, 1) := by decide +kernel
theorem dX2_weigh_154 : decode cX2_weigh 154 = .ok (.aload_n 0, 1) := by decide +kernel
theorem dX2_weigh_155 : decode cX2_weigh 155 = .ok (.getfield 26, 3) := by decide +kernel
theorem dX2_weigh_158 : decode cX2_weigh 158 = .ok (.invokevirtual 76, 3) := by decide +kernel
theorem dX2_weigh_161 : decode cX2_weigh 161 = .ok (.invokevirtual 80, 3) := by decide +kernel
theorem dX2_weigh_164 : decode cX2_weigh 164 = .ok (.iinc 5 1, 3) := by decide +kernel
theorem dX2_weigh_167 : decode cX2_weigh 167 = .ok (.goto (-58), 3) := by decide +kernel
theorem dX2_weigh_170 : decode cX2_weigh 170 = .ok (.aload_n 0, 1) := by decide +kernel
theorem dX2_weigh_171 : decode cX2_weigh 171 = .ok (.invokevirtual 84, 3) := by decide +kernel
theorem dX2_weigh_174 : decode cX2_weigh 174 = .ok (.return_, 1) := by decide +kernel
theorem dX2_priceOfBells_0 : decode cX2_priceOfBells 0 = .ok (.iconst 0, 1) := by decide +kernel
theorem dX2_priceOfBells_1 : decode cX2_priceOfBells 1 = .ok (.istore_n 1, 1) := by decide +kernel
theorem dX2_priceOfBells_2 : decode cX2_priceOfBells 2 = .ok (.iconst 0, 1) := by decide +kernel
theorem dX2_priceOfBells_3 : decode cX2_priceOfBells 3 = .ok (.istore_n 2, 1) := by decide +kernel
theorem dX2_priceOfBells_4 : decode cX2_priceOfBells 4 = .ok (.iload_n 2, 1) := by decide +kernel
theorem dX2_priceOfBells_5 : decode cX2_priceOfBells 5 = .ok (.aload_n 0, 1) := by decide +kernel
theorem dX2_priceOfBells_6 : decode cX2_priceOfBells 6 = .ok (.getfield 35, 3) := by decide +kernel
theorem dX2_priceOfBells_9 : decode cX2_priceOfBells 9 = .ok (.if_icmp .ge 44, 3) := by decide +kernel
theorem dX2_priceOfBells_12 : decode cX2_priceOfBells 12 = .ok (.aload_n 0, 1) := by decide +kernel
theorem dX2_priceOfBells_13 : decode cX2_priceOfBells 13 = .ok (.getfield 23, 3) := by decide +kernel
theorem dX2_priceOfBells_16 : decode cX2_priceOfBells 16 = .ok (.iload_n 2, 1) := by decide +kernel
theorem dX2_priceOfBells_17 : decode cX2_priceOfBells 17 = .ok (.aaload, 1) := by decide +kernel
theorem dX2_priceOfBells_18 : decode cX2_priceOfBells 18 = .ok (.aload_n 0, 1) := by decide +kernel
theorem dX2_priceOfBells_19 : decode cX2_priceOfBells 19 = .ok (.getfield 26, 3) := by decide +kernel
theorem dX2_priceOfBells_22 : decode cX2_priceOfBells 22 = .ok (.iload_n 2, 1) := by decide +kernel
theorem dX2_priceOfBells_23 : decode cX2_priceOfBells 23 = .ok (.iaload, 1) := by decide +kernel
theorem dX2_priceOfBells_24 : decode cX2_priceOfBells 24 = .ok (.iaload, 1) := by decide +kernel
theorem dX2_priceOfBells_25 : decode cX2_priceOfBells 25 = .ok (.iconst (-1), 1) := by decide +kernel
theorem dX2_priceOfBells_26 : decode cX2_priceOfBells 26 = .ok (.if_icmp .ne 5, 3) := by decide +kernel
theorem dX2_priceOfBells_29 : decode cX2_priceOfBells 29 = .ok (.iconst (-1), 1) := by decide +kernel
theorem dX2_priceOfBells_30 : decode cX2_priceOfBells 30 = .ok (.ireturn, 1) := by decide +kernel
theorem dX2_priceOfBells_31 : decode cX2_priceOfBells 31 = .ok (.iload_n 1, 1) := by decide +kernel
theorem dX2_priceOfBells_32 : decode cX2_priceOfBells 32 = .ok (.aload_n 0, 1) := by decide +kernel
theorem dX2_priceOfBells_33 : decode cX2_priceOfBells 33 = .ok (.getfield 23, 3) := by decide +kernel
theorem dX2_priceOfBells_36 : decode cX2_priceOfBells 36 = .ok (.iload_n 2, 1) := by decide +kernel
theorem dX2_priceOfBells_37 : decode cX2_priceOfBells 37 = .ok (.aaload, 1) := by decide +kernel
theorem dX2_priceOfBells_38 : decode cX2_priceOfBells 38 = .ok (.aload_n 0, 1) := by decide +kernel
theorem dX2_priceOfBells_39 : decode cX2_priceOfBells 39 = .ok (.getfield 26, 3) := by decide +kernel
theorem dX2_priceOfBells_42 : decode cX2_priceOfBells 42 = .ok (.iload_n 2, 1) := by decide +kernel
theorem dX2_priceOfBells_43 : decode cX2_priceOfBells 43 = .ok (.iaload, 1) := by decide +kernel
theorem dX2_priceOfBells_44 : decode cX2_priceOfBells 44 = .ok (.iaload, 1) := by decide +kernel
theorem dX2_priceOfBells_45 : decode cX2_priceOfBells 45 = .ok (.iadd, 1) := by decide +kernel
theorem dX2_priceOfBells_46 : decode cX2_priceOfBells 46 = .ok (.istore_n 1, 1) := by decide +kernel
theorem dX2_priceOfBells_47 : decode cX2_priceOfBells 47 = .ok (.iinc 2 1, 3) := by decide +kernel
theorem dX2_priceOfBells_50 : decode cX2_priceOfBells 50 = .ok (.goto (-46), 3) := by decide +kernel
theorem dX2_priceOfBells_53 : decode cX2_priceOfBells 53 = .ok (.iload_n 1, 1) := by decide +kernel
theorem dX2_priceOfBells_54 : decode cX2_priceOfBells 54 = .ok (.ireturn, 1) := by decide +kernel
theorem dX2_note_0 : decode cX2_note 0 = .ok (.iload_n 2, 1) := by decide +kernel
theorem dX2_note_1 : decode cX2_note 1 = .ok (.aload_n 0, 1) := by decide +kernel
theorem dX2_note_2 : decode cX2_note 2 = .ok (.getfield 15, 3) := by decide +kernel
theorem dX2_note_5 : decode cX2_note 5 = .ok (.iload_n 3, 1) := by decide +kernel
theorem dX2_note_6 : decode cX2_note 6 = .ok (.iaload, 1) := by decide +kernel
theorem dX2_note_7 : decode cX2_note 7 = .ok (.if_icmp .ge 17, 3) := by decide +kernel
theorem dX2_note_10 : decode cX2_note 10 = .ok (.aload_n 0, 1) := by decide +kernel
theorem dX2_note_11 : decode cX2_note 11 = .ok (.getfield 15, 3) := by decide +kernel
theorem dX2_note_14 : decode cX2_note 14 = .ok (.iload_n 3, 1) := by decide +kernel
theorem dX2_note_15 : decode cX2_note 15 = .ok (.iload_n 2, 1) := by decide +kernel
theorem dX2_note_16 : decode cX2_note 16 = .ok (.iastore, 1) := by decide +kernel
theorem dX2_note_17 : decode cX2_note 17 = .ok (.aload_n 0, 1) := by decide +kernel
theorem dX2_note_18 : decode cX2_note 18 = .ok (.getfield 18, 3) := by decide +kernel
theorem dX2_note_21 : decode cX2_note 21 = .ok (.iload_n 3, 1) := by decide +kernel
theorem dX2_note_22 : decode cX2_note 22 = .ok (.iload_n 1, 1) := by decide +kernel
theorem dX2_note_23 : decode cX2_note 23 = .ok (.iastore, 1) := by decide +kernel
theorem dX2_note_24 : decode cX2_note 24 = .ok (.return_, 1) := by decide +kernel
theorem dX2_decode_0 : decode cX2_decode 0 = .ok (.iload_n 1, 1) := by decide +kernel
theorem dX2_decode_1 : decode cX2_decode 1 = .ok (.istore_n 2, 1) := by decide +kernel
theorem dX2_decode_2 : decode cX2_decode 2 = .ok (.aload_n 0, 1) := by decide +kernel
theorem dX2_decode_3 : decode cX2_decode 3 = .ok (.getfield 35, 3) := by decide +kernel
theorem dX2_decode_6 : decode cX2_decode 6 = .ok (.iconst 1, 1) := by decide +kernel
theorem dX2_decode_7 : decode cX2_decode 7 = .ok (.isub, 1) := by decide +kernel
theorem dX2_decode_8 : decode cX2_decode 8 = .ok (.istore_n 3, 1) := by decide +kernel
theorem dX2_decode_9 : decode cX2_decode 9 = .ok (.iload_n 3, 1) := by decide +kernel
theorem dX2_decode_10 : decode cX2_decode 10 = .ok (.ifCond .lt 24, 3) := by decide +kernel
theorem dX2_decode_13 : decode cX2_decode 13 = .ok (.aload_n 0, 1) := by decide +kernel
theorem dX2_decode_14 : decode cX2_decode 14 = .ok (.getfield 26, 3) := by decide +kernel
theorem dX2_decode_17 : decode cX2_decode 17 = .ok (.iload_n 3, 1) := by decide +kernel
theorem dX2_decode_18 : decode cX2_decode 18 = .ok (.iload_n 2, 1) := by decide +kernel
theorem dX2_decode_19 : decode cX2_decode 19 = .ok (.bipush 7, 2) := by decide +kernel
theorem dX2_decode_21 : decode cX2_decode 21 = .ok (.irem, 1) := by decide +kernel
theorem dX2_decode_22 : decode cX2_decode 22 = .ok (.iastore, 1) := by decide +kernel
theorem dX2_decode_23 : decode cX2_decode 23 = .ok (.iload_n 2, 1) := by decide +kernel
theorem dX2_decode_24 : decode cX2_decode 24 = .ok (.bipush 7, 2) := by decide +kernel
theorem dX2_decode_26 : decode cX2_decode 26 = .ok (.idiv, 1) := by decide +kernel
theorem dX2_decode_27 : decode cX2_decode 27 = .ok (.istore_n 2, 1) := by decide +kernel
theorem dX2_decode_28 : decode cX2_decode 28 = .ok (.iinc 3 (-1), 3) := by decide +kernel
theorem dX2_decode_31 : decode cX2_decode 31 = .ok (.goto (-22), 3) := by decide +kernel
theorem dX2_decode_34 : decode cX2_decode 34 = .ok (.return_, 1) := by decide +kernel
theorem dX2_list_0 : decode cX2_list 0 = .ok (.aload_n 0, 1) := by decide +kernel
theorem dX2_list_1 : decode cX2_list 1 = .ok (.iconst 0, 1) := by decide +kernel
theorem dX2_list_2 : decode cX2_list 2 = .ok (.putfield 87, 3) := by decide +kernel
theorem dX2_list_5 : decode cX2_list 5 = .ok (.ldc 56, 2) := by decide +kernel
theorem dX2_list_7 : decode cX2_list 7 = .ok (.istore_n 1, 1) := by decide +kernel
theorem dX2_list_8 : decode cX2_list 8 = .ok (.iconst 0, 1) := by decide +kernel
theorem dX2_list_9 : decode cX2_list 9 = .ok (.istore_n 2, 1) := by decide +kernel
theorem dX2_list_10 : decode cX2_list 10 = .ok (.iload_n 2, 1) := by decide +kernel
theorem dX2_list_11 : decode cX2_list 11 = .ok (.bipush 10, 2) := by decide +kernel
theorem dX2_list_13 : decode cX2_list 13 = .ok (.if_icmp .gt 46, 3) := by decide +kernel
theorem dX2_list_16 : decode cX2_list 16 = .ok (.aload_n 0, 1) := by decide +kernel
theorem dX2_list_17 : decode cX2_list 17 = .ok (.getfield 15, 3) := by decide +kernel
theorem dX2_list_20 : decode cX2_list 20 = .ok (.iload_n 2, 1) := by decide +kernel
theorem dX2_list_21 : decode cX2_list 21 = .ok (.iaload, 1) := by decide +kernel
theorem dX2_list_22 : decode cX2_list 22 = .ok (.iload_n 1, 1) := by decide +kernel
theorem dX2_list_23 : decode cX2_list 23 = .ok (.if_icmp .ge 30, 3) := by decide +kernel
theorem dX2_list_26 : decode cX2_list 26 = .ok (.aload_n 0, 1) := by decide +kernel
theorem dX2_list_27 : decode cX2_list 27 = .ok (.getfield 15, 3) := by decide +kernel
theorem dX2_list_30 : decode cX2_list 30 = .ok (.iload_n 2, 1) := by decide +kernel
theorem dX2_list_31 : decode cX2_list 31 = .ok (.iaload, 1) := by decide +kernel
theorem dX2_list_32 : decode cX2_list 32 = .ok (.istore_n 1, 1) := by decide +kernel
theorem dX2_list_33 : decode cX2_list 33 = .ok (.aload_n 0, 1) := by decide +kernel
theorem dX2_list_34 : decode cX2_list 34 = .ok (.getfield 9, 3) := by decide +kernel
theorem dX2_list_37 : decode cX2_list 37 = .ok (.aload_n 0, 1) := by decide +kernel
theorem dX2_list_38 : decode cX2_list 38 = .ok (.getfield 87, 3) := by decide +kernel
theorem dX2_list_41 : decode cX2_list 41 = .ok (.iload_n 2, 1) := by decide +kernel
theorem dX2_list_42 : decode cX2_list 42 = .ok (.iastore, 1) := by decide +kernel
theorem dX2_list_43 : decode cX2_list 43 = .ok (.aload_n 0, 1) := by decide +kernel
theorem dX2_list_44 : decode cX2_list 44 = .ok (.dup, 1) := by decide +kernel
theorem dX2_list_45 : decode cX2_list 45 = .ok (.getfield 87, 3) := by decide +kernel
theorem dX2_list_48 : decode cX2_list 48 = .ok (.iconst 1, 1) := by decide +kernel
theorem dX2_list_49 : decode cX2_list 49 = .ok (.iadd, 1) := by decide +kernel
theorem dX2_list_50 : decode cX2_list 50 = .ok (.putfield 87, 3) := by decide +kernel
theorem dX2_list_53 : decode cX2_list 53 = .ok (.iinc 2 1, 3) := by decide +kernel
theorem dX2_list_56 : decode cX2_list 56 = .ok (.goto (-46), 3) := by decide +kernel
theorem dX2_list_59 : decode cX2_list 59 = .ok (.return_, 1) := by decide +kernel
theorem dX2_busesIn_0 : decode cX2_busesIn 0 = .ok (.aload_n 0, 1) := by decide +kernel
theorem dX2_busesIn_1 : decode cX2_busesIn 1 = .ok (.getfield 9, 3) := by decide +kernel
theorem dX2_busesIn_4 : decode cX2_busesIn 4 = .ok (.iload_n 1, 1) := by decide +kernel
theorem dX2_busesIn_5 : decode cX2_busesIn 5 = .ok (.iaload, 1) := by decide +kernel
theorem dX2_busesIn_6 : decode cX2_busesIn 6 = .ok (.ireturn, 1) := by decide +kernel
theorem dX2_costIn_0 : decode cX2_costIn 0 = .ok (.aload_n 0, 1) := by decide +kernel
theorem dX2_costIn_1 : decode cX2_costIn 1 = .ok (.getfield 15, 3) := by decide +kernel
theorem dX2_costIn_4 : decode cX2_costIn 4 = .ok (.aload_n 0, 1) := by decide +kernel
theorem dX2_costIn_5 : decode cX2_costIn 5 = .ok (.getfield 9, 3) := by decide +kernel
theorem dX2_costIn_8 : decode cX2_costIn 8 = .ok (.iload_n 1, 1) := by decide +kernel
theorem dX2_costIn_9 : decode cX2_costIn 9 = .ok (.iaload, 1) := by decide +kernel
theorem dX2_costIn_10 : decode cX2_costIn 10 = .ok (.iaload, 1) := by decide +kernel
theorem dX2_costIn_11 : decode cX2_costIn 11 = .ok (.ireturn, 1) := by decide +kernel
theorem dX2_bellsIn_0 : decode cX2_bellsIn 0 = .ok (.aload_n 0, 1) := by decide +kernel
theorem dX2_bellsIn_1 : decode cX2_bellsIn 1 = .ok (.aload_n 0, 1) := by decide +kernel
theorem dX2_bellsIn_2 : decode cX2_bellsIn 2 = .ok (.getfield 18, 3) := by decide +kernel
theorem dX2_bellsIn_5 : decode cX2_bellsIn 5 = .ok (.aload_n 0, 1) := by decide +kernel
theorem dX2_bellsIn_6 : decode cX2_bellsIn 6 = .ok (.getfield 9, 3) := by decide +kernel
theorem dX2_bellsIn_9 : decode cX2_bellsIn 9 = .ok (.iload_n 1, 1) := by decide +kernel
theorem dX2_bellsIn_10 : decode cX2_bellsIn 10 = .ok (.iaload, 1) := by decide +kernel
theorem dX2_bellsIn_11 : decode cX2_bellsIn 11 = .ok (.iaload, 1) := by decide +kernel
theorem dX2_bellsIn_12 : decode cX2_bellsIn 12 = .ok (.invokevirtual 63, 3) := by decide +kernel
theorem dX2_bellsIn_15 : decode cX2_bellsIn 15 = .ok (.aload_n 0, 1) := by decide +kernel
theorem dX2_bellsIn_16 : decode cX2_bellsIn 16 = .ok (.getfield 26, 3) := by decide +kernel
theorem dX2_bellsIn_19 : decode cX2_bellsIn 19 = .ok (.areturn, 1) := by decide +kernel
theorem dX3_init_0 : decode cX3_init 0 = .ok (.aload_n 0, 1) := by decide +kernel
theorem dX3_init_1 : decode cX3_init 1 = .ok (.invokespecial 3, 3) := by decide +kernel
theorem dX3_init_4 : decode cX3_init 4 = .ok (.aload_n 0, 1) := by decide +kernel
theorem dX3_init_5 : decode cX3_init 5 = .ok (.bipush 10, 2) := by decide +kernel
theorem dX3_init_7 : decode cX3_init 7 = .ok (.newarray .int, 2) := by decide +kernel
theorem dX3_init_9 : decode cX3_init 9 = .ok (.putfield 9, 3) := by decide +kernel
theorem dX3_init_12 : decode cX3_init 12 = .ok (.aload_n 0, 1) := by decide +kernel
theorem dX3_init_13 : decode cX3_init 13 = .ok (.bipush 10, 2) := by decide +kernel
theorem dX3_init_15 : decode cX3_init 15 = .ok (.newarray .int, 2) := by decide +kernel
theorem dX3_init_17 : decode cX3_init 17 = .ok (.putfield 15, 3) := by decide +kernel
theorem dX3_init_20 : decode cX3_init 20 = .ok (.aload_n 0, 1) := by decide +kernel
theorem dX3_init_21 : decode cX3_init 21 = .ok (.bipush 10, 2) := by decide +kernel
theorem dX3_init_23 : decode cX3_init 23 = .ok (.newarray .int, 2) := by decide +kernel
theorem dX3_init_25 : decode cX3_init 25 = .ok (.putfield 18, 3) := by decide +kernel
theorem dX3_init_28 : decode cX3_init 28 = .ok (.aload_n 0, 1) := by decide +kernel
theorem dX3_init_29 : decode cX3_init 29 = .ok (.bipush 10, 2) := by decide +kernel
theorem dX3_init_31 : decode cX3_init 31 = .ok (.newarray .int, 2) := by decide +kernel
theorem dX3_init_33 : decode cX3_init 33 = .ok (.putfield 21, 3) := by decide +kernel
theorem dX3_init_36 : decode cX3_init 36 = .ok (.aload_n 0, 1) := by decide +kernel
theorem dX3_init_37 : decode cX3_init 37 = .ok (.bipush 10, 2) := by decide +kernel
theorem dX3_init_39 : decode cX3_init 39 = .ok (.newarray .int, 2) := by decide +kernel
theorem dX3_init_41 : decode cX3_init 41 = .ok (.putfield 24, 3) := by decide +kernel
theorem dX3_init_44 : decode cX3_init 44 = .ok (.return_, 1) := by decide +kernel
theorem dX3_most_0 : decode cX3_most 0 = .ok (.aload_n 0, 1) := by decide +kernel
theorem dX3_most_1 : decode cX3_most 1 = .ok (.getfield 15, 3) := by decide +kernel
theorem dX3_most_4 : decode cX3_most 4 = .ok (.iconst (-1), 1) := by decide +kernel
theorem dX3_most_5 : decode cX3_most 5 = .ok (.invokestatic 27, 3) := by decide +kernel
theorem dX3_most_8 : decode cX3_most 8 = .ok (.aload_n 0, 1) := by decide +kernel
theorem dX3_most_9 : decode cX3_most 9 = .ok (.getfield 18, 3) := by decide +kernel
theorem dX3_most_12 : decode cX3_most 12 = .ok (.iconst (-1), 1) := by decide +kernel
theorem dX3_most_13 : decode cX3_most 13 = .ok (.invokestatic 27, 3) := by decide +kernel
theorem dX3_most_16 : decode cX3_most 16 = .ok (.iconst 0, 1) := by decide +kernel
theorem dX3_most_17 : decode cX3_most 17 = .ok (.istore_n 3, 1) := by decide +kernel
theorem dX3_most_18 : decode cX3_most 18 = .ok (.iload_n 1, 1) := by decide +kernel
theorem dX3_most_19 : decode cX3_most 19 = .ok (.istore 4, 2) := by decide +kernel
theorem dX3_most_21 : decode cX3_most 21 = .ok (.iload 4, 2) := by decide +kernel
theorem dX3_most_23 : decode cX3_most 23 = .ok (.aload_n 0, 1) := by decide +kernel
theorem dX3_most_24 : decode cX3_most 24 = .ok (.getfield 33, 3) := by decide +kernel
theorem dX3_most_27 : decode cX3_most 27 = .ok (.if_icmp .ge 22, 3) := by decide +kernel
theorem dX3_most_30 : decode cX3_most 30 = .ok (.aload_n 0, 1) := by decide +kernel
theorem dX3_most_31 : decode cX3_most 31 = .ok (.iload 4, 2) := by decide +kernel
theorem dX3_most_33 : decode cX3_most 33 = .ok (.iload_n 2, 1) := by decide +kernel
theorem dX3_most_34 : decode cX3_most 34 = .ok (.invokevirtual 37, 3) := by decide +kernel
theorem dX3_most_37 : decode cX3_most 37 = .ok (.ifCond .eq 6, 3) := by decide +kernel
theorem dX3_most_40 : decode cX3_most 40 = .ok (.iinc 3 1, 3) := by decide +kernel
theorem dX3_most_43 : decode cX3_most 43 = .ok (.iinc 4 1, 3) := by decide +kernel
theorem dX3_most_46 : decode cX3_most 46 = .ok (.goto (-25), 3) := by decide +kernel
theorem dX3_most_49 : decode cX3_most 49 = .ok (.iload_n 3, 1) := by decide +kernel
theorem dX3_most_50 : decode cX3_most 50 = .ok (.ireturn, 1) := by decide +kernel
theorem dX3_gains_0 : decode cX3_gains 0 = .ok (.iload_n 2, 1) := by decide +kernel
theorem dX3_gains_1 : decode cX3_gains 1 = .ok (.istore_n 3, 1) := by decide +kernel
theorem dX3_gains_2 : decode cX3_gains 2 = .ok (.iconst 1, 1) := by decide +kernel
theorem dX3_gains_3 : decode cX3_gains 3 = .ok (.istore 4, 2) := by decide +kernel
theorem dX3_gains_5 : decode cX3_gains 5 = .ok (.aload_n 0, 1) := by decide +kernel
theorem dX3_gains_6 : decode cX3_gains 6 = .ok (.getfield 24, 3) := by decide +kernel
theorem dX3_gains_9 : decode cX3_gains 9 = .ok (.iconst 0, 1) := by decide +kernel
theorem dX3_gains_10 : decode cX3_gains 10 = .ok (.iload_n 1, 1) := by decide +kernel
theorem dX3_gains_11 : decode cX3_gains 11 = .ok (.iastore, 1) := by decide +kernel
theorem dX3_gains_12 : decode cX3_gains 12 = .ok (.iconst 0, 1) := by decide +kernel
theorem dX3_gains_13 : decode cX3_gains 13 = .ok (.istore 5, 2) := by decide +kernel
theorem dX3_gains_15 : decode cX3_gains 15 = .ok (.iload 5, 2) := by decide +kernel
theorem dX3_gains_17 : decode cX3_gains 17 = .ok (.iload 4, 2) := by decide +kernel
theorem dX3_gains_19 : decode cX3_gains 19 = .ok (.if_icmp .ge 113, 3) := by decide +kernel
theorem dX3_gains_22 : decode cX3_gains 22 = .ok (.aload_n 0, 1) := by decide +kernel
theorem dX3_gains_23 : decode cX3_gains 23 = .ok (.getfield 24, 3) := by decide +kernel
theorem dX3_gains_26 : decode cX3_gains 26 = .ok (.iload 5, 2) := by decide +kernel
theorem dX3_gains_28 : decode cX3_gains 28 = .ok (.iaload, 1) := by decide +kernel
theorem dX3_gains_29 : decode cX3_gains 29 = .ok (.istore 6, 2) := by decide +kernel
theorem dX3_gains_31 : decode cX3_gains 31 = .ok (.iconst 0, 1) := by decide +kernel
theorem dX3_gains_32 : decode cX3_gains 32 = .ok (.istore 7, 2) := by decide +kernel
theorem dX3_gains_34 : decode cX3_gains 34 = .ok (.iload 7, 2) := by decide +kernel
theorem dX3_gains_36 : decode cX3_gains 36 = .ok (.aload_n 0, 1) := by decide +kernel
theorem dX3_gains_37 : decode cX3_gains 37 = .ok (.getfield 33, 3) := by decide +kernel
theorem dX3_gains_40 : decode cX3_gains 40 = .ok (.if_icmp .ge 86, 3) := by decide +kernel
theorem dX3_gains_43 : decode cX3_gains 43 = .ok (.aload_n 0, 1) := by decide +kernel
theorem dX3_gains_44 : decode cX3_gains 44 = .ok (.getfield 9, 3) := by decide +kernel
theorem dX3_gains_47 : decode cX3_gains 47 = .ok (.iload 6, 2) := by decide +kernel
theorem dX3_gains_49 : decode cX3_gains 49 = .ok (.iaload, 1) := by decide +kernel
theorem dX3_gains_50 : decode cX3_gains 50 = .ok (.iload_n 3, 1) := by decide +kernel
theorem dX3_gains_51 : decode cX3_gains 51 = .ok (.iand, 1) := by decide +kernel
theorem dX3_gains_52 : decode cX3_gains 52 = .ok (.iconst 1, 1) := by decide +kernel
theorem dX3_gains_53 : decode cX3_gains 53 = .ok (.iload 7, 2) := by decide +kernel
theorem dX3_gains_55 : decode cX3_gains 55 = .ok (.ishl, 1) := by decide +kernel
theorem dX3_gains_56 : decode cX3_gains 56 = .ok (.iand, 1) := by decide +kernel
theorem dX3_gains_57 : decode cX3_gains 57 = .ok (.ifCond .eq 63, 3) := by decide +kernel
theorem dX3_gains_60 : decode cX3_gains 60 = .ok (.iload_n 3, 1) := by decide +kernel
theorem dX3_gains_61 : decode cX3_gains 61 = .ok (.iconst 1, 1) := by decide +kernel
theorem dX3_gains_62 : decode cX3_gains 62 = .ok (.iload 7, 2) := by decide +kernel
theorem dX3_gains_64 : decode cX3_gains 64 = .ok (.ishl, 1) := by decide +kernel
theorem dX3_gains_65 : decode cX3_gains 65 = .ok (.iconst (-1), 1) := by decide +kernel
theorem dX3_gains_66 : decode cX3_gains 66 = .ok (.ixor, 1) := by decide +kernel
theorem dX3_gains_67 : decode cX3_gains 67 = .ok (.iand, 1) := by decide +kernel
theorem dX3_gains_68 : decode cX3_gains 68 = .ok (.istore_n 3, 1) := by decide +kernel
theorem dX3_gains_69 : decode cX3_gains 69 = .ok (.aload_n 0, 1) := by decide +kernel
theorem dX3_gains_70 : decode cX3_gains 70 = .ok (.getfield 21, 3) := by decide +kernel
theorem dX3_gains_73 : decode cX3_gains 73 = .ok (.iload 7, 2) := by decide +kernel
theorem dX3_gains_75 : decode cX3_gains 75 = .ok (.iload 6, 2) := by decide +kernel
theorem dX3_gains_77 : decode cX3_gains 77 = .ok (.iastore, 1) := by decide +kernel
theorem dX3_gains_78 : decode cX3_gains 78 = .ok (.aload_n 0, 1) := by decide +kernel
theorem dX3_gains_79 : decode cX3_gains 79 = .ok (.getfield 18, 3) := by decide +kernel
theorem dX3_gains_82 : decode cX3_gains 82 = .ok (.iload 7, 2) := by decide +kernel
theorem dX3_gains_84 : decode cX3_gains 84 = .ok (.iaload, 1) := by decide +kernel
theorem dX3_gains_85 : decode cX3_gains 85 = .ok (.ifCond .ge 11, 3) := by decide +kernel
theorem dX3_gains_88 : decode cX3_gains 88 = .ok (.aload_n 0, 1) := by decide +kernel
theorem dX3_gains_89 : decode cX3_gains 89 = .ok (.iload 7, 2) := by decide +kernel
theorem dX3_gains_91 : decode cX3_gains 91 = .ok (.invokevirtual 41, 3) := by decide +kernel
theorem dX3_gains_94 : decode cX3_gains 94 = .ok (.iconst 1, 1) := by decide +kernel
theorem dX3_gains_95 : decode cX3_gains 95 = .ok (.ireturn, 1) := by decide +kernel
theorem dX3_gains_96 : decode cX3_gains 96 = .ok (.iload 4, 2) := by decide +kernel
theorem dX3_gains_98 : decode cX3_gains 98 = .ok (.bipush 10, 2) := by decide +kernel
theorem dX3_gains_100 : decode cX3_gains 100 = .ok (.if_icmp .ge 20, 3) := by decide +kernel
theorem dX3_gains_103 : decode cX3_gains 103 = .ok (.aload_n 0, 1) := by decide +kernel
theorem dX3_gains_104 : decode cX3_gains 104 = .ok (.getfield 24, 3) := by decide +kernel
theorem dX3_gains_107 : decode cX3_gains 107 = .ok (.iload 4, 2) := by decide +kernel
theorem dX3_gains_109 : decode cX3_gains 109 = .ok (.aload_n 0, 1) := by decide +kernel
theorem dX3_gains_110 : decode cX3_gains 110 = .ok (.getfield 18, 3) := by decide +kernel
theorem dX3_gains_113 : decode cX3_gains 113 = .ok (.iload 7, 2) := by decide +kernel
theorem dX3_gains_115 : decode cX3_gains 115 = .ok (.iaload, 1) := by decide +kernel
theorem dX3_gains_116 : decode cX3_gains 116 = .ok (.iastore, 1) := by decide +kernel
theorem dX3_gains_117 : decode cX3_gains 117 = .ok (.iinc 4 1, 3) := by decide +kernel
theorem dX3_gains_120 : decode cX3_gains 120 = .ok (.iinc 7 1, 3) := by decide +kernel
theorem dX3_gains_123 : decode cX3_gains 123 = .ok (.goto (-89), 3) := by decide +kernel
theorem dX3_gains_126 : decode cX3_gains 126 = .ok (.iinc 5 1, 3) := by decide +kernel
theorem dX3_gains_129 : decode cX3_gains 129 = .ok (.goto (-114), 3) := by decide +kernel
theorem dX3_gains_132 : decode cX3_gains 132 = .ok (.iconst 0, 1) := by decide +kernel
theorem dX3_gains_133 : decode cX3_gains 133 = .ok (.ireturn, 1) := by decide +kernel
theorem dX3_move_0 : decode cX3_move 0 = .ok (.iload_n 1, 1) := by decide +kernel
theorem dX3_move_1 : decode cX3_move 1 = .ok (.istore_n 2, 1) := by decide +kernel
theorem dX3_move_2 : decode cX3_move 2 = .ok (.iconst 0, 1) := by decide +kernel
theorem dX3_move_3 : decode cX3_move 3 = .ok (.istore_n 3, 1) := by decide +kernel
theorem dX3_move_4 : decode cX3_move 4 = .ok (.iload_n 3, 1) := by decide +kernel
theorem dX3_move_5 : decode cX3_move 5 = .ok (.aload_n 0, 1) := by decide +kernel
theorem dX3_move_6 : decode cX3_move 6 = .ok (.getfield 33, 3) := by decide +kernel
theorem dX3_move_9 : decode cX3_move 9 = .ok (.if_icmp .ge 49, 3) := by decide +kernel
theorem dX3_move_12 : decode cX3_move 12 = .ok (.iload_n 2, 1) := by decide +kernel
theorem dX3_move_13 : decode cX3_move 13 = .ok (.ifCond .lt 45, 3) := by decide +kernel
theorem dX3_move_16 : decode cX3_move 16 = .ok (.aload_n 0, 1) := by decide +kernel
theorem dX3_move_17 : decode cX3_move 17 = .ok (.getfield 21, 3) := by decide +kernel
theorem dX3_move_20 : decode cX3_move 20 = .ok (.iload_n 2, 1) := by decide +kernel
theorem dX3_move_21 : decode cX3_move 21 = .ok (.iaload, 1) := by decide +kernel
theorem dX3_move_22 : decode cX3_move 22 = .ok (.istore 4, 2) := by decide +kernel
theorem dX3_move_24 : decode cX3_move 24 = .ok (.aload_n 0, 1) := by decide +kernel
theorem dX3_move_25 : decode cX3_move 25 = .ok (.getfield 15, 3) := by decide +kernel
theorem dX3_move_28 : decode cX3_move 28 = .ok (.iload 4, 2) := by decide +kernel
theorem dX3_move_30 : decode cX3_move 30 = .ok (.iaload, 1) := by decide +kernel
theorem dX3_move_31 : decode cX3_move 31 = .ok (.istore 5, 2) := by decide +kernel
theorem dX3_move_33 : decode cX3_move 33 = .ok (.aload_n 0, 1) := by decide +kernel
theorem dX3_move_34 : decode cX3_move 34 = .ok (.getfield 15, 3) := by decide +kernel
theorem dX3_move_37 : decode cX3_move 37 = .ok (.iload 4, 2) := by decide +kernel
theorem dX3_move_39 : decode cX3_move 39 = .ok (.iload_n 2, 1) := by decide +kernel
theorem dX3_move_40 : decode cX3_move 40 = .ok (.iastore, 1) := by decide +kernel
theorem dX3_move_41 : decode cX3_move 41 = .ok (.aload_n 0, 1) := by decide +kernel
theorem dX3_move_42 : decode cX3_move 42 = .ok (.getfield 18, 3) := by decide +kernel
theorem dX3_move_45 : decode cX3_move 45 = .ok (.iload_n 2, 1) := by decide +kernel
theorem dX3_move_46 : decode cX3_move 46 = .ok (.iload 4, 2) := by decide +kernel
theorem dX3_move_48 : decode cX3_move 48 = .ok (.iastore, 1) := by decide +kernel
theorem dX3_move_49 : decode cX3_move 49 = .ok (.iload 5, 2) := by decide +kernel
theorem dX3_move_51 : decode cX3_move 51 = .ok (.istore_n 2, 1) := by decide +kernel
theorem dX3_move_52 : decode cX3_move 52 = .ok (.iinc 3 1, 3) := by decide +kernel
theorem dX3_move_55 : decode cX3_move 55 = .ok (.goto (-51), 3) := by decide +kernel
theorem dX3_move_58 : decode cX3_move 58 = .ok (.return_, 1) := by decide +kernel
theorem dX4_init_0 : decode cX4_init 0 = .ok (.aload_n 0, 1) := by decide +kernel
theorem dX4_init_1 : decode cX4_init 1 = .ok (.invokespecial 3, 3) := by decide +kernel
theorem dX4_init_4 : decode cX4_init 4 = .ok (.aload_n 0, 1) := by decide +kernel
theorem dX4_init_5 : decode cX4_init 5 = .ok (.bipush 10, 2) := by decide +kernel
theorem dX4_init_7 : decode cX4_init 7 = .ok (.newarray .int, 2) := by decide +kernel
theorem dX4_init_9 : decode cX4_init 9 = .ok (.putfield 9, 3) := by decide +kernel
theorem dX4_init_12 : decode cX4_init 12 = .ok (.return_, 1) := by decide +kernel
theorem dX4_drive_0 : decode cX4_drive 0 = .ok (.aload_n 1, 1) := by decide +kernel
theorem dX4_drive_1 : decode cX4_drive 1 = .ok (.getfield 15, 3) := by decide +kernel
theorem dX4_drive_4 : decode cX4_drive 4 = .ok (.iload 5, 2) := by decide +kernel
theorem dX4_drive_6 : decode cX4_drive 6 = .ok (.invokevirtual 21, 3) := by decide +kernel
theorem dX4_drive_9 : decode cX4_drive 9 = .ok (.astore 6, 2) := by decide +kernel
theorem dX4_drive_11 : decode cX4_drive 11 = .ok (.iconst 0, 1) := by decide +kernel
theorem dX4_drive_12 : decode cX4_drive 12 = .ok (.istore 7, 2) := by decide +kernel
theorem dX4_drive_14 : decode cX4_drive 14 = .ok (.aload_n 0, 1) := by decide +kernel
theorem dX4_drive_15 : decode cX4_drive 15 = .ok (.aload_n 2, 1) := by decide +kernel
theorem dX4_drive_16 : decode cX4_drive 16 = .ok (.getfield 27, 3) := by decide +kernel
theorem dX4_drive_19 : decode cX4_drive 19 = .ok (.putfield 33, 3) := by decide +kernel
theorem dX4_drive_22 : decode cX4_drive 22 = .ok (.iconst 0, 1) := by decide +kernel
theorem dX4_drive_23 : decode cX4_drive 23 = .ok (.istore 8, 2) := by decide +kernel
theorem dX4_drive_25 : decode cX4_drive 25 = .ok (.iload 8, 2) := by decide +kernel
theorem dX4_drive_27 : decode cX4_drive 27 = .ok (.aload_n 0, 1) := by decide +kernel
theorem dX4_drive_28 : decode cX4_drive 28 = .ok (.getfield 33, 3) := by decide +kernel
theorem dX4_drive_31 : decode cX4_drive 31 = .ok (.if_icmp .ge 31, 3) := by decide +kernel
theorem dX4_drive_34 : decode cX4_drive 34 = .ok (.aload_n 2, 1) := by decide +kernel
theorem dX4_drive_35 : decode cX4_drive 35 = .ok (.iload 8, 2) := by decide +kernel
theorem dX4_drive_37 : decode cX4_drive 37 = .ok (.invokevirtual 34, 3) := by decide +kernel
theorem dX4_drive_40 : decode cX4_drive 40 = .ok (.ifCond .eq 16, 3) := by decide +kernel
theorem dX4_drive_43 : decode cX4_drive 43 = .ok (.aload_n 0, 1) := by decide +kernel
theorem dX4_drive_44 : decode cX4_drive 44 = .ok (.aload_n 1, 1) := by decide +kernel
theorem dX4_drive_45 : decode cX4_drive 45 = .ok (.aload_n 2, 1) := by decide +kernel
theorem dX4_drive_46 : decode cX4_drive 46 = .ok (.iload 8, 2) := by decide +kernel
theorem dX4_drive_48 : decode cX4_drive 48 = .ok (.iload_n 3, 1) := by decide +kernel
theorem dX4_drive_49 : decode cX4_drive 49 = .ok (.iload 4, 2) := by decide +kernel
theorem dX4_drive_51 : decode cX4_drive 51 = .ok (.aload 6, 2) := by decide +kernel
theorem dX4_drive_53 : decode cX4_drive 53 = .ok (.invokevirtual 38, 3) := by decide +kernel
theorem dX4_drive_56 : decode cX4_drive 56 = .ok (.iinc 8 1, 3) := by decide +kernel
theorem dX4_drive_59 : decode cX4_drive 59 = .ok (.goto (-34), 3) := by decide +kernel
theorem dX4_drive_62 : decode cX4_drive 62 = .ok (.iconst 0, 1) := by decide +kernel
theorem dX4_drive_63 : decode cX4_drive 63 = .ok (.istore 8, 2) := by decide +kernel
theorem dX4_drive_65 : decode cX4_drive 65 = .ok (.iload 8, 2) := by decide +kernel
theorem dX4_drive_67 : decode cX4_drive 67 = .ok (.aload_n 0, 1) := by decide +kernel
theorem dX4_drive_68 : decode cX4_drive 68 = .ok (.getfield 33, 3) := by decide +kernel
theorem dX4_drive_71 : decode cX4_drive 71 = .ok (.if_icmp .ge 42, 3) := by decide +kernel
theorem dX4_drive_74 : decode cX4_drive 74 = .ok (.aload_n 0, 1) := by decide +kernel
theorem dX4_drive_75 : decode cX4_drive 75 = .ok (.getfield 9, 3) := by decide +kernel
theorem dX4_drive_78 : decode cX4_drive 78 = .ok (.iload 8, 2) := by decide +kernel
theorem dX4_drive_80 : decode cX4_drive 80 = .ok (.iaload, 1) := by decide +kernel
theorem dX4_drive_81 : decode cX4_drive 81 = .ok (.aload_n 1, 1) := by decide +kernel
theorem dX4_drive_82 : decode cX4_drive 82 = .ok (.aload_n 2, 1) := by decide +kernel
theorem dX4_drive_83 : decode cX4_drive 83 = .ok (.getfield 42, 3) := by decide +kernel
theorem dX4_drive_86 : decode cX4_drive 86 = .ok (.iload 8, 2) := by decide +kernel
theorem dX4_drive_88 : decode cX4_drive 88 = .ok (.iaload, 1) := by decide +kernel
theorem dX4_drive_89 : decode cX4_drive 89 = .ok (.invokevirtual 45, 3) := by decide +kernel
theorem dX4_drive_92 : decode cX4_drive 92 = .ok (.if_icmp .le 15, 3) := by decide +kernel
theorem dX4_drive_95 : decode cX4_drive 95 = .ok (.iload 7, 2) := by decide +kernel
theorem dX4_drive_97 : decode cX4_drive 97 = .ok (.aload_n 2, 1) := by decide +kernel
theorem dX4_drive_98 : decode cX4_drive 98 = .ok (.aload_n 1, 1) := by decide +kernel
theorem dX4_drive_99 : decode cX4_drive 99 = .ok (.iload 8, 2) := by decide +kernel
theorem dX4_drive_101 : decode cX4_drive 101 = .ok (.invokevirtual 49, 3) := by decide +kernel
theorem dX4_drive_104 : decode cX4_drive 104 = .ok (.iadd, 1) := by decide +kernel
theorem dX4_drive_105 : decode cX4_drive 105 = .ok (.istore 7, 2) := by decide +kernel
theorem dX4_drive_107 : decode cX4_drive 107 = .ok (.iinc 8 1, 3) := by decide +kernel
theorem dX4_drive_110 : decode cX4_drive 110 = .ok (.goto (-45), 3) := by decide +kernel
theorem dX4_drive_113 : decode cX4_drive 113 = .ok (.iload 7, 2) := by decide +kernel
theorem dX4_drive_115 : decode cX4_drive 115 = .ok (.ireturn, 1) := by decide +kernel
theorem dX4_driveBus_0 : decode cX4_driveBus 0 = .ok (.iload_n 3, 1) := by decide +kernel
theorem dX4_driveBus_1 : decode cX4_driveBus 1 = .ok (.istore 7, 2) := by decide +kernel
theorem dX4_driveBus_3 : decode cX4_driveBus 3 = .ok (.aload_n 2, 1) := by decide +kernel
theorem dX4_driveBus_4 : decode cX4_driveBus 4 = .ok (.aload_n 1, 1) := by decide +kernel
theorem dX4_driveBus_5 : decode cX4_driveBus 5 = .ok (.iload_n 3, 1) := by decide +kernel
theorem dX4_driveBus_6 : decode cX4_driveBus 6 = .ok (.invokevirtual 53, 3) := by decide +kernel
theorem dX4_driveBus_9 : decode cX4_driveBus 9 = .ok (.istore 8, 2) := by decide +kernel
theorem dX4_driveBus_11 : decode cX4_driveBus 11 = .ok (.iconst 0, 1) := by decide +kernel
theorem dX4_driveBus_12 : decode cX4_driveBus 12 = .ok (.istore 9, 2) := by decide +kernel
theorem dX4_driveBus_14 : decode cX4_driveBus 14 = .ok (.iload 9, 2) := by decide +kernel
theorem dX4_driveBus_16 : decode cX4_driveBus 16 = .ok (.aload_n 0, 1) := by decide +kernel
theorem dX4_driveBus_17 : decode cX4_driveBus 17 = .ok (.getfield 33, 3) := by decide +kernel
theorem dX4_driveBus_20 : decode cX4_driveBus 20 = .ok (.if_icmp .ge 114, 3) := by decide +kernel
theorem dX4_driveBus_23 : decode cX4_driveBus 23 = .ok (.iload 7, 2) := by decide +kernel
theorem dX4_driveBus_25 : decode cX4_driveBus 25 = .ok (.ifCond .lt 109, 3) := by decide +kernel
theorem dX4_driveBus_28 : decode cX4_driveBus 28 = .ok (.iload 8, 2) := by decide +kernel
theorem dX4_driveBus_30 : decode cX4_driveBus 30 = .ok (.aload_n 2, 1) := by decide +kernel
theorem dX4_driveBus_31 : decode cX4_driveBus 31 = .ok (.aload_n 1, 1) := by decide +kernel
theorem dX4_driveBus_32 : decode cX4_driveBus 32 = .ok (.iload 7, 2) := by decide +kernel
theorem dX4_driveBus_34 : decode cX4_driveBus 34 = .ok (.invokevirtual 53, 3) := by decide +kernel
theorem dX4_driveBus_37 : decode cX4_driveBus 37 = .ok (.invokestatic 56, 3) := by decide +kernel
theorem dX4_driveBus_40 : decode cX4_driveBus 40 = .ok (.iload 7, 2) := by decide +kernel
theorem dX4_driveBus_42 : decode cX4_driveBus 42 = .ok (.iload 4, 2) := by decide +kernel
theorem dX4_driveBus_44 : decode cX4_driveBus 44 = .ok (.if_icmp .ne 8, 3) := by decide +kernel
theorem dX4_driveBus_47 : decode cX4_driveBus 47 = .ok (.iload 5, 2) := by decide +kernel
theorem dX4_driveBus_49 : decode cX4_driveBus 49 = .ok (.goto 4, 3) := by decide +kernel
theorem dX4_driveBus_52 : decode cX4_driveBus 52 = .ok (.iconst 0, 1) := by decide +kernel
theorem dX4_driveBus_53 : decode cX4_driveBus 53 = .ok (.iadd, 1) := by decide +kernel
theorem dX4_driveBus_54 : decode cX4_driveBus 54 = .ok (.istore 10, 2) := by decide +kernel
theorem dX4_driveBus_56 : decode cX4_driveBus 56 = .ok (.aload_n 0, 1) := by decide +kernel
theorem dX4_driveBus_57 : decode cX4_driveBus 57 = .ok (.getfield 9, 3) := by decide +kernel
theorem dX4_driveBus_60 : decode cX4_driveBus 60 = .ok (.iload 7, 2) := by decide +kernel
theorem dX4_driveBus_62 : decode cX4_driveBus 62 = .ok (.iload 10, 2) := by decide +kernel
theorem dX4_driveBus_64 : decode cX4_driveBus 64 = .ok (.aload_n 2, 1) := by decide +kernel
theorem dX4_driveBus_65 : decode cX4_driveBus 65 = .ok (.aload_n 1, 1) := by decide +kernel
theorem dX4_driveBus_66 : decode cX4_driveBus 66 = .ok (.iload 7, 2) := by decide +kernel
theorem dX4_driveBus_68 : decode cX4_driveBus 68 = .ok (.aload 6, 2) := by decide +kernel
theorem dX4_driveBus_70 : decode cX4_driveBus 70 = .ok (.invokevirtual 62, 3) := by decide +kernel
theorem dX4_driveBus_73 : decode cX4_driveBus 73 = .ok (.iadd, 1) := by decide +kernel
theorem dX4_driveBus_74 : decode cX4_driveBus 74 = .ok (.iastore, 1) := by decide +kernel
theorem dX4_driveBus_75 : decode cX4_driveBus 75 = .ok (.aload_n 2, 1) := by decide +kernel
theorem dX4_driveBus_76 : decode cX4_driveBus 76 = .ok (.getfield 66, 3) := by decide +kernel
theorem dX4_driveBus_79 : decode cX4_driveBus 79 = .ok (.iload 7, 2) := by decide +kernel
theorem dX4_driveBus_81 : decode cX4_driveBus 81 = .ok (.iaload, 1) := by decide +kernel
theorem dX4_driveBus_82 : decode cX4_driveBus 82 = .ok (.istore 11, 2) := by decide +kernel
theorem dX4_driveBus_84 : decode cX4_driveBus 84 = .ok (.iload 11, 2) := by decide +kernel
theorem dX4_driveBus_86 : decode cX4_driveBus 86 = .ok (.ifCond .lt 38, 3) := by decide +kernel
theorem dX4_driveBus_89 : decode cX4_driveBus 89 = .ok (.aload_n 2, 1) := by decide +kernel
theorem dX4_driveBus_90 : decode cX4_driveBus 90 = .ok (.aload_n 1, 1) := by decide +kernel
theorem dX4_driveBus_91 : decode cX4_driveBus 91 = .ok (.iload 7, 2) := by decide +kernel
theorem dX4_driveBus_93 : decode cX4_driveBus 93 = .ok (.invokevirtual 69, 3) := by decide +kernel
theorem dX4_driveBus_96 : decode cX4_driveBus 96 = .ok (.getfield 73, 3) := by decide +kernel
theorem dX4_driveBus_99 : decode cX4_driveBus 99 = .ok (.istore 12, 2) := by decide +kernel
theorem dX4_driveBus_101 : decode cX4_driveBus 101 = .ok (.aload_n 0, 1) := by decide +kernel
theorem dX4_driveBus_102 : decode cX4_driveBus 102 = .ok (.getfield 9, 3) := by decide +kernel
theorem dX4_driveBus_105 : decode cX4_driveBus 105 = .ok (.iload 7, 2) := by decide +kernel
theorem dX4_driveBus_107 : decode cX4_driveBus 107 = .ok (.iaload, 1) := by decide +kernel
theorem dX4_driveBus_108 : decode cX4_driveBus 108 = .ok (.aload 6, 2) := by decide +kernel
theorem dX4_driveBus_110 : decode cX4_driveBus 110 = .ok (.iload 12, 2) := by decide +kernel
theorem dX4_driveBus_112 : decode cX4_driveBus 112 = .ok (.aaload, 1) := by decide +kernel
theorem dX4_driveBus_113 : decode cX4_driveBus 113 = .ok (.aload_n 2, 1) := by decide +kernel
theorem dX4_driveBus_114 : decode cX4_driveBus 114 = .ok (.aload_n 1, 1) := by decide +kernel
theorem dX4_driveBus_115 : decode cX4_driveBus 115 = .ok (.iload 11, 2) := by decide +kernel
theorem dX4_driveBus_117 : decode cX4_driveBus 117 = .ok (.invokevirtual 78, 3) := by decide +kernel
theorem dX4_driveBus_120 : decode cX4_driveBus 120 = .ok (.iaload, 1) := by decide +kernel
theorem dX4_driveBus_121 : decode cX4_driveBus 121 = .ok (.iadd, 1) := by decide +kernel
theorem dX4_driveBus_122 : decode cX4_driveBus 122 = .ok (.istore 8, 2) := by decide +kernel
theorem dX4_driveBus_124 : decode cX4_driveBus 124 = .ok (.iload 11, 2) := by decide +kernel
theorem dX4_driveBus_126 : decode cX4_driveBus 126 = .ok (.istore 7, 2) := by decide +kernel
theorem dX4_driveBus_128 : decode cX4_driveBus 128 = .ok (.iinc 9 1, 3) := by decide +kernel
theorem dX4_driveBus_131 : decode cX4_driveBus 131 = .ok (.goto (-117), 3) := by decide +kernel
theorem dX4_driveBus_134 : decode cX4_driveBus 134 = .ok (.return_, 1) := by decide +kernel
theorem dX5_init_0 : decode cX5_init 0 = .ok (.aload_n 0, 1) := by decide +kernel
theorem dX5_init_1 : decode cX5_init 1 = .ok (.invokespecial 3, 3) := by decide +kernel
theorem dX5_init_4 : decode cX5_init 4 = .ok (.aload_n 0, 1) := by decide +kernel
theorem dX5_init_5 : decode cX5_init 5 = .ok (.bipush 10, 2) := by decide +kernel
theorem dX5_init_7 : decode cX5_init 7 = .ok (.newarray .int, 2) := by decide +kernel
theorem dX5_init_9 : decode cX5_init 9 = .ok (.putfield 9, 3) := by decide +kernel
theorem dX5_init_12 : decode cX5_init 12 = .ok (.aload_n 0, 1) := by decide +kernel
theorem dX5_init_13 : decode cX5_init 13 = .ok (.bipush 10, 2) := by decide +kernel
theorem dX5_init_15 : decode cX5_init 15 = .ok (.newarray .int, 2) := by decide +kernel
theorem dX5_init_17 : decode cX5_init 17 = .ok (.putfield 15, 3) := by decide +kernel
theorem dX5_init_20 : decode cX5_init 20 = .ok (.aload_n 0, 1) := by decide +kernel
theorem dX5_init_21 : decode cX5_init 21 = .ok (.bipush 10, 2) := by decide +kernel
theorem dX5_init_23 : decode cX5_init 23 = .ok (.newarray .int, 2) := by decide +kernel
theorem dX5_init_25 : decode cX5_init 25 = .ok (.putfield 18, 3) := by decide +kernel
theorem dX5_init_28 : decode cX5_init 28 = .ok (.aload_n 0, 1) := by decide +kernel
theorem dX5_init_29 : decode cX5_init 29 = .ok (.bipush 10, 2) := by decide +kernel
theorem dX5_init_31 : decode cX5_init 31 = .ok (.bipush 10, 2) := by decide +kernel
theorem dX5_init_33 : decode cX5_init 33 = .ok (.multianewarray 21 2, 4) := by decide +kernel
theorem dX5_init_37 : decode cX5_init 37 = .ok (.putfield 23, 3) := by decide +kernel
theorem dX5_init_40 : decode cX5_init 40 = .ok (.aload_n 0, 1) := by decide +kernel
theorem dX5_init_41 : decode cX5_init 41 = .ok (.sipush 10240, 3) := by decide +kernel
theorem dX5_init_44 : decode cX5_init 44 = .ok (.newarray .int, 2) := by decide +kernel
theorem dX5_init_46 : decode cX5_init 46 = .ok (.putfield 26, 3) := by decide +kernel
theorem dX5_init_49 : decode cX5_init 49 = .ok (.aload_n 0, 1) := by decide +kernel
theorem dX5_init_50 : decode cX5_init 50 = .ok (.sipush 1024, 3) := by decide +kernel
theorem dX5_init_53 : decode cX5_init 53 = .ok (.newarray .int, 2) := by decide +kernel
theorem dX5_init_55 : decode cX5_init 55 = .ok (.putfield 29, 3) := by decide +kernel
theorem dX5_init_58 : decode cX5_init 58 = .ok (.aload_n 0, 1) := by decide +kernel
theorem dX5_init_59 : decode cX5_init 59 = .ok (.sipush 1024, 3) := by decide +kernel
theorem dX5_init_62 : decode cX5_init 62 = .ok (.newarray .int, 2) := by decide +kernel
theorem dX5_init_64 : decode cX5_init 64 = .ok (.putfield 32, 3) := by decide +kernel
theorem dX5_init_67 : decode cX5_init 67 = .ok (.aload_n 0, 1) := by decide +kernel
theorem dX5_init_68 : decode cX5_init 68 = .ok (.sipush 1024, 3) := by decide +kernel
theorem dX5_init_71 : decode cX5_init 71 = .ok (.newarray .int, 2) := by decide +kernel
theorem dX5_init_73 : decode cX5_init 73 = .ok (.putfield 35, 3) := by decide +kernel
theorem dX5_init_76 : decode cX5_init 76 = .ok (.return_, 1) := by decide +kernel
theorem dX5_draw_0 : decode cX5_draw 0 = .ok (.aload_n 0, 1) := by decide +kernel
theorem dX5_draw_1 : decode cX5_draw 1 = .ok (.aload_n 1, 1) := by decide +kernel
theorem dX5_draw_2 : decode cX5_draw 2 = .ok (.iload_n 2, 1) := by decide +kernel
theorem dX5_draw_3 : decode cX5_draw 3 = .ok (.invokevirtual 38, 3) := by decide +kernel
theorem dX5_draw_6 : decode cX5_draw 6 = .ok (.iconst 1, 1) := by decide +kernel
theorem dX5_draw_7 : decode cX5_draw 7 = .ok (.aload_n 0, 1) := by decide +kernel
theorem dX5_draw_8 : decode cX5_draw 8 = .ok (.getfield 42, 3) := by decide +kernel
theorem dX5_draw_11 : decode cX5_draw 11 = .ok (.ishl, 1) := by decide +kernel
theorem dX5_draw_12 : decode cX5_draw 12 = .ok (.istore_n 3, 1) := by decide +kernel
theorem dX5_draw_13 : decode cX5_draw 13 = .ok (.iconst 1, 1) := by decide +kernel
theorem dX5_draw_14 : decode cX5_draw 14 = .ok (.istore 4, 2) := by decide +kernel
theorem dX5_draw_16 : decode cX5_draw 16 = .ok (.iload 4, 2) := by decide +kernel
theorem dX5_draw_18 : decode cX5_draw 18 = .ok (.iload_n 3, 1) := by decide +kernel
theorem dX5_draw_19 : decode cX5_draw 19 = .ok (.if_icmp .ge 63, 3) := by decide +kernel
theorem dX5_draw_22 : decode cX5_draw 22 = .ok (.aload_n 0, 1) := by decide +kernel
theorem dX5_draw_23 : decode cX5_draw 23 = .ok (.getfield 29, 3) := by decide +kernel
theorem dX5_draw_26 : decode cX5_draw 26 = .ok (.iload 4, 2) := by decide +kernel
theorem dX5_draw_28 : decode cX5_draw 28 = .ok (.ldc 46, 2) := by decide +kernel
theorem dX5_draw_30 : decode cX5_draw 30 = .ok (.iastore, 1) := by decide +kernel
theorem dX5_draw_31 : decode cX5_draw 31 = .ok (.aload_n 0, 1) := by decide +kernel
theorem dX5_draw_32 : decode cX5_draw 32 = .ok (.iload 4, 2) := by decide +kernel
theorem dX5_draw_34 : decode cX5_draw 34 = .ok (.invokevirtual 47, 3) := by decide +kernel
theorem dX5_draw_37 : decode cX5_draw 37 = .ok (.aload_n 1, 1) := by decide +kernel
theorem dX5_draw_38 : decode cX5_draw 38 = .ok (.getfield 51, 3) := by decide +kernel
theorem dX5_draw_41 : decode cX5_draw 41 = .ok (.if_icmp .gt 35, 3) := by decide +kernel
theorem dX5_draw_44 : decode cX5_draw 44 = .ok (.aload_n 0, 1) := by decide +kernel
theorem dX5_draw_45 : decode cX5_draw 45 = .ok (.iload 4, 2) := by decide +kernel
theorem dX5_draw_47 : decode cX5_draw 47 = .ok (.invokevirtual 56, 3) := by decide +kernel
theorem dX5_draw_50 : decode cX5_draw 50 = .ok (.istore 5, 2) := by decide +kernel
theorem dX5_draw_52 : decode cX5_draw 52 = .ok (.aload_n 0, 1) := by decide +kernel
theorem dX5_draw_53 : decode cX5_draw 53 = .ok (.getfield 29, 3) := by decide +kernel
theorem dX5_draw_56 : decode cX5_draw 56 = .ok (.iload 4, 2) := by decide +kernel
theorem dX5_draw_58 : decode cX5_draw 58 = .ok (.iload 5, 2) := by decide +kernel
theorem dX5_draw_60 : decode cX5_draw 60 = .ok (.aload_n 1, 1) := by decide +kernel
theorem dX5_draw_61 : decode cX5_draw 61 = .ok (.iload_n 2, 1) := by decide +kernel
theorem dX5_draw_62 : decode cX5_draw 62 = .ok (.invokevirtual 59, 3) := by decide +kernel
theorem dX5_draw_65 : decode cX5_draw 65 = .ok (.if_icmp .gt 8, 3) := by decide +kernel
theorem dX5_draw_68 : decode cX5_draw 68 = .ok (.iload 5, 2) := by decide +kernel
theorem dX5_draw_70 : decode cX5_draw 70 = .ok (.goto 5, 3) := by decide +kernel
theorem dX5_draw_73 : decode cX5_draw 73 = .ok (.ldc 46, 2) := by decide +kernel
theorem dX5_draw_75 : decode cX5_draw 75 = .ok (.iastore, 1) := by decide +kernel
theorem dX5_draw_76 : decode cX5_draw 76 = .ok (.iinc 4 1, 3) := by decide +kernel
theorem dX5_draw_79 : decode cX5_draw 79 = .ok (.goto (-63), 3) := by decide +kernel
theorem dX5_draw_82 : decode cX5_draw 82 = .ok (.aload_n 0, 1) := by decide +kernel
theorem dX5_draw_83 : decode cX5_draw 83 = .ok (.getfield 32, 3) := by decide +kernel
theorem dX5_draw_86 : decode cX5_draw 86 = .ok (.iconst 0, 1) := by decide +kernel
theorem dX5_draw_87 : decode cX5_draw 87 = .ok (.iconst 0, 1) := by decide +kernel
theorem dX5_draw_88 : decode cX5_draw 88 = .ok (.iastore, 1) := by decide +kernel
theorem dX5_draw_89 : decode cX5_draw 89 = .ok (.iconst 1, 1) := by decide +kernel
theorem dX5_draw_90 : decode cX5_draw 90 = .ok (.istore 4, 2) := by decide +kernel
theorem dX5_draw_92 : decode cX5_draw 92 = .ok (.iload 4, 2) := by decide +kernel
theorem dX5_draw_94 : decode cX5_draw 94 = .ok (.iload_n 3, 1) := by decide +kernel
theorem dX5_draw_95 : decode cX5_draw 95 = .ok (.if_icmp .ge 15, 3) := by decide +kernel
theorem dX5_draw_98 : decode cX5_draw 98 = .ok (.aload_n 0, 1) := by decide +kernel
theorem dX5_draw_99 : decode cX5_draw 99 = .ok (.iload 4, 2) := by decide +kernel
theorem dX5_draw_101 : decode cX5_draw 101 = .ok (.invokevirtual 62, 3) := by decide +kernel
theorem dX5_draw_104 : decode cX5_draw 104 = .ok (.iinc 4 1, 3) := by decide +kernel
theorem dX5_draw_107 : decode cX5_draw 107 = .ok (.goto (-15), 3) := by decide +kernel
theorem dX5_draw_110 : decode cX5_draw 110 = .ok (.aload_n 0, 1) := by decide +kernel
theorem dX5_draw_111 : decode cX5_draw 111 = .ok (.aload_n 1, 1) := by decide +kernel
theorem dX5_draw_112 : decode cX5_draw 112 = .ok (.getfield 66, 3) := by decide +kernel
theorem dX5_draw_115 : decode cX5_draw 115 = .ok (.iload_n 2, 1) := by decide +kernel
theorem dX5_draw_116 : decode cX5_draw 116 = .ok (.aaload, 1) := by decide +kernel
theorem dX5_draw_117 : decode cX5_draw 117 = .ok (.iload_n 3, 1) := by decide +kernel
theorem dX5_draw_118 : decode cX5_draw 118 = .ok (.iconst 1, 1) := by decide +kernel
theorem dX5_draw_119 : decode cX5_draw 119 = .ok (.isub, 1) := by decide +kernel
theorem dX5_draw_120 : decode cX5_draw 120 = .ok (.invokevirtual 70, 3) := by decide +kernel
theorem dX5_draw_123 : decode cX5_draw 123 = .ok (.return_, 1) := by decide +kernel
theorem dX5_collect_0 : decode cX5_collect 0 = .ok (.aload_n 1, 1) := by decide +kernel
theorem dX5_collect_1 : decode cX5_collect 1 = .ok (.getfield 74, 3) := by decide +kernel
theorem dX5_collect_4 : decode cX5_collect 4 = .ok (.invokevirtual 78, 3) := by decide +kernel
theorem dX5_collect_7 : decode cX5_collect 7 = .ok (.astore_n 3, 1) := by decide +kernel
theorem dX5_collect_8 : decode cX5_collect 8 = .ok (.aload_n 0, 1) := by decide +kernel
theorem dX5_collect_9 : decode cX5_collect 9 = .ok (.iconst 0, 1) := by decide +kernel
theorem dX5_collect_10 : decode cX5_collect 10 = .ok (.putfield 42, 3) := by decide +kernel
theorem dX5_collect_13 : decode cX5_collect 13 = .ok (.iconst 0, 1) := by decide +kernel
theorem dX5_collect_14 : decode cX5_collect 14 = .ok (.istore 4, 2) := by decide +kernel
theorem dX5_collect_16 : decode cX5_collect 16 = .ok (.iload 4, 2) := by decide +kernel
theorem dX5_collect_18 : decode cX5_collect 18 = .ok (.aload_n 1, 1) := by decide +kernel
theorem dX5_collect_19 : decode cX5_collect 19 = .ok (.getfield 84, 3) := by decide +kernel
theorem dX5_collect_22 : decode cX5_collect 22 = .ok (.if_icmp .ge 63, 3) := by decide +kernel
theorem dX5_collect_25 : decode cX5_collect 25 = .ok (.aload_n 1, 1) := by decide +kernel
theorem dX5_collect_26 : decode cX5_collect 26 = .ok (.getfield 87, 3) := by decide +kernel
theorem dX5_collect_29 : decode cX5_collect 29 = .ok (.iload 4, 2) := by decide +kernel
theorem dX5_collect_31 : decode cX5_collect 31 = .ok (.aaload, 1) := by decide +kernel
theorem dX5_collect_32 : decode cX5_collect 32 = .ok (.getfield 91, 3) := by decide +kernel
theorem dX5_collect_35 : decode cX5_collect 35 = .ok (.iload_n 2, 1) := by decide +kernel
theorem dX5_collect_36 : decode cX5_collect 36 = .ok (.if_icmp .ne 43, 3) := by decide +kernel
theorem dX5_collect_39 : decode cX5_collect 39 = .ok (.aload_n 0, 1) := by decide +kernel
theorem dX5_collect_40 : decode cX5_collect 40 = .ok (.getfield 9, 3) := by decide +kernel
theorem dX5_collect_43 : decode cX5_collect 43 = .ok (.aload_n 0, 1) := by decide +kernel
theorem dX5_collect_44 : decode cX5_collect 44 = .ok (.getfield 42, 3) := by decide +kernel
theorem dX5_collect_47 : decode cX5_collect 47 = .ok (.iload 4, 2) := by decide +kernel
theorem dX5_collect_49 : decode cX5_collect 49 = .ok (.iastore, 1) := by decide +kernel
theorem dX5_collect_50 : decode cX5_collect 50 = .ok (.aload_n 0, 1) := by decide +kernel
theorem dX5_collect_51 : decode cX5_collect 51 = .ok (.getfield 15, 3) := by decide +kernel
theorem dX5_collect_54 : decode cX5_collect 54 = .ok (.aload_n 0, 1) := by decide +kernel
theorem dX5_collect_55 : decode cX5_collect 55 = .ok (.getfield 42, 3) := by decide +kernel
theorem dX5_collect_58 : decode cX5_collect 58 = .ok (.aload_n 1, 1) := by decide +kernel
theorem dX5_collect_59 : decode cX5_collect 59 = .ok (.getfield 87, 3) := by decide +kernel
theorem dX5_collect_62 : decode cX5_collect 62 = .ok (.iload 4, 2) := by decide +kernel
theorem dX5_collect_64 : decode cX5_collect 64 = .ok (.aaload, 1) := by decide +kernel
theorem dX5_collect_65 : decode cX5_collect 65 = .ok (.getfield 96, 3) := by decide +kernel
theorem dX5_collect_68 : decode cX5_collect 68 = .ok (.iastore, 1) := by decide +kernel
theorem dX5_collect_69 : decode cX5_collect 69 = .ok (.aload_n 0, 1) := by decide +kernel
theorem dX5_collect_70 : decode cX5_collect 70 = .ok (.dup, 1) := by decide +kernel
theorem dX5_collect_71 : decode cX5_collect 71 = .ok (.getfield 42, 3) := by decide +kernel
theorem dX5_collect_74 : decode cX5_collect 74 = .ok (.iconst 1, 1) := by decide +kernel
theorem dX5_collect_75 : decode cX5_collect 75 = .ok (.iadd, 1) := by decide +kernel
theorem dX5_collect_76 : decode cX5_collect 76 = .ok (.putfield 42, 3) := by decide +kernel
theorem dX5_collect_79 : decode cX5_collect 79 = .ok (.iinc 4 1, 3) := by decide +kernel
theorem dX5_collect_82 : decode cX5_collect 82 = .ok (.goto (-66), 3) := by decide +kernel
theorem dX5_collect_85 : decode cX5_collect 85 = .ok (.iconst 0, 1) := by decide +kernel
theorem dX5_collect_86 : decode cX5_collect 86 = .ok (.istore 4, 2) := by decide +kernel
theorem dX5_collect_88 : decode cX5_collect 88 = .ok (.iload 4, 2) := by decide +kernel
theorem dX5_collect_90 : decode cX5_collect 90 = .ok (.aload_n 0, 1) := by decide +kernel
theorem dX5_collect_91 : decode cX5_collect 91 = .ok (.getfield 42, 3) := by decide +kernel
theorem dX5_collect_94 : decode cX5_collect 94 = .ok (.if_icmp .ge 95, 3) := by decide +kernel
theorem dX5_collect_97 : decode cX5_collect 97 = .ok (.aload_n 1, 1) := by decide +kernel
theorem dX5_collect_98 : decode cX5_collect 98 = .ok (.getfield 87, 3) := by decide +kernel
theorem dX5_collect_101 : decode cX5_collect 101 = .ok (.aload_n 0, 1) := by decide +kernel
theorem dX5_collect_102 : decode cX5_collect 102 = .ok (.getfield 9, 3) := by decide +kernel
theorem dX5_collect_105 : decode cX5_collect 105 = .ok (.iload 4, 2) := by decide +kernel
theorem dX5_collect_107 : decode cX5_collect 107 = .ok (.iaload, 1) := by decide +kernel
theorem dX5_collect_108 : decode cX5_collect 108 = .ok (.aaload, 1) := by decide +kernel
theorem dX5_collect_109 : decode cX5_collect 109 = .ok (.getfield 98, 3) := by decide +kernel
theorem dX5_collect_112 : decode cX5_collect 112 = .ok (.istore 5, 2) := by decide +kernel
theorem dX5_collect_114 : decode cX5_collect 114 = .ok (.aload_n 0, 1) := by decide +kernel
theorem dX5_collect_115 : decode cX5_collect 115 = .ok (.getfield 18, 3) := by decide +kernel
theorem dX5_collect_118 : decode cX5_collect 118 = .ok (.iload 4, 2) := by decide +kernel
theorem dX5_collect_120 : decode cX5_collect 120 = .ok (.aload_n 3, 1) := by decide +kernel
theorem dX5_collect_121 : decode cX5_collect 121 = .ok (.iload 5, 2) := by decide +kernel
theorem dX5_collect_123 : decode cX5_collect 123 = .ok (.aaload, 1) := by decide +kernel
theorem dX5_collect_124 : decode cX5_collect 124 = .ok (.aload_n 1, 1) := by decide +kernel
theorem dX5_collect_125 : decode cX5_collect 125 = .ok (.getfield 66, 3) := by decide +kernel
theorem dX5_collect_128 : decode cX5_collect 128 = .ok (.iload_n 2, 1) := by decide +kernel
theorem dX5_collect_129 : decode cX5_collect 129 = .ok (.aaload, 1) := by decide +kernel
theorem dX5_collect_130 : decode cX5_collect 130 = .ok (.getfield 101, 3) := by decide +kernel
theorem dX5_collect_133 : decode cX5_collect 133 = .ok (.iaload, 1) := by decide +kernel
theorem dX5_collect_134 : decode cX5_collect 134 = .ok (.iastore, 1) := by decide +kernel
theorem dX5_collect_135 : decode cX5_collect 135 = .ok (.iconst 0, 1) := by decide +kernel
theorem dX5_collect_136 : decode cX5_collect 136 = .ok (.istore 6, 2) := by decide +kernel
theorem dX5_collect_138 : decode cX5_collect 138 = .ok (.iload 6, 2) := by decide +kernel
theorem dX5_collect_140 : decode cX5_collect 140 = .ok (.aload_n 0, 1) := by decide +kernel
theorem dX5_collect_141 : decode cX5_collect 141 = .ok (.getfield 42, 3) := by decide +kernel
theorem dX5_collect_144 : decode cX5_collect 144 = .ok (.if_icmp .ge 39, 3) := by decide +kernel
theorem dX5_collect_147 : decode cX5_collect 147 = .ok (.aload_n 0, 1) := by decide +kernel
theorem dX5_collect_148 : decode cX5_collect 148 = .ok (.getfield 23, 3) := by decide +kernel
theorem dX5_collect_151 : decode cX5_collect 151 = .ok (.iload 4, 2) := by decide +kernel
theorem dX5_collect_153 : decode cX5_collect 153 = .ok (.aaload, 1) := by decide +kernel
theorem dX5_collect_154 : decode cX5_collect 154 = .ok (.iload 6, 2) := by decide +kernel
theorem dX5_collect_156 : decode cX5_collect 156 = .ok (.aload_n 3, 1) := by decide +kernel
theorem dX5_collect_157 : decode cX5_collect 157 = .ok (.iload 5, 2) := by decide +kernel
theorem dX5_collect_159 : decode cX5_collect 159 = .ok (.aaload, 1) := by decide +kernel
theorem dX5_collect_160 : decode cX5_collect 160 = .ok (.aload_n 1, 1) := by decide +kernel
theorem dX5_collect_161 : decode cX5_collect 161 = .ok (.getfield 87, 3) := by decide +kernel
theorem dX5_collect_164 : decode cX5_collect 164 = .ok (.aload_n 0, 1) := by decide +kernel
theorem dX5_collect_165 : decode cX5_collect 165 = .ok (.getfield 9, 3) := by decide +kernel
theorem dX5_collect_168 : decode cX5_collect 168 = .ok (.iload 6, 2) := by decide +kernel
end
section
theorem dX5_collect_170 : decode cX5_collect 170 = .ok (.iaload, 1) := by decide +kernel
theorem dX5_collect_171 : decode cX5_collect 171 = .ok (.aaload, 1) := by decide +kernel
theorem dX5_collect_172 : decode cX5_collect 172 = .ok (.getfield 98, 3) := by decide +kernel
theorem dX5_collect_175 : decode cX5_collect 175 = .ok (.iaload, 1) := by decide +kernel
theorem dX5_collect_176 : decode cX5_collect 176 = .ok (.iastore, 1) := by decide +kernel
theorem dX5_collect_177 : decode cX5_collect 177 = .ok (.iinc 6 1, 3) := by decide +kernel
theorem dX5_collect_180 : decode cX5_collect 180 = .ok (.goto (-42), 3) := by decide +kernel
theorem dX5_collect_183 : decode cX5_collect 183 = .ok (.iinc 4 1, 3) := by decide +kernel
theorem dX5_collect_186 : decode cX5_collect 186 = .ok (.goto (-98), 3) := by decide +kernel
theorem dX5_collect_189 : decode cX5_collect 189 = .ok (.return_, 1) := by decide +kernel
theorem dX5_load_0 : decode cX5_load 0 = .ok (.iconst 0, 1) := by decide +kernel
theorem dX5_load_1 : decode cX5_load 1 = .ok (.istore_n 2, 1) := by decide +kernel
theorem dX5_load_2 : decode cX5_load 2 = .ok (.iconst 0, 1) := by decide +kernel
theorem dX5_load_3 : decode cX5_load 3 = .ok (.istore_n 3, 1) := by decide +kernel
theorem dX5_load_4 : decode cX5_load 4 = .ok (.iload_n 3, 1) := by decide +kernel
theorem dX5_load_5 : decode cX5_load 5 = .ok (.aload_n 0, 1) := by decide +kernel
theorem dX5_load_6 : decode cX5_load 6 = .ok (.getfield 42, 3) := by decide +kernel
theorem dX5_load_9 : decode cX5_load 9 = .ok (.if_icmp .ge 26, 3) := by decide +kernel
theorem dX5_load_12 : decode cX5_load 12 = .ok (.iload_n 1, 1) := by decide +kernel
theorem dX5_load_13 : decode cX5_load 13 = .ok (.iload_n 3, 1) := by decide +kernel
theorem dX5_load_14 : decode cX5_load 14 = .ok (.invokestatic 104, 3) := by decide +kernel
theorem dX5_load_17 : decode cX5_load 17 = .ok (.ifCond .eq 12, 3) := by decide +kernel
theorem dX5_load_20 : decode cX5_load 20 = .ok (.iload_n 2, 1) := by decide +kernel
theorem dX5_load_21 : decode cX5_load 21 = .ok (.aload_n 0, 1) := by decide +kernel
theorem dX5_load_22 : decode cX5_load 22 = .ok (.getfield 15, 3) := by decide +kernel
theorem dX5_load_25 : decode cX5_load 25 = .ok (.iload_n 3, 1) := by decide +kernel
theorem dX5_load_26 : decode cX5_load 26 = .ok (.iaload, 1) := by decide +kernel
theorem dX5_load_27 : decode cX5_load 27 = .ok (.iadd, 1) := by decide +kernel
theorem dX5_load_28 : decode cX5_load 28 = .ok (.istore_n 2, 1) := by decide +kernel
theorem dX5_load_29 : decode cX5_load 29 = .ok (.iinc 3 1, 3) := by decide +kernel
theorem dX5_load_32 : decode cX5_load 32 = .ok (.goto (-28), 3) := by decide +kernel
theorem dX5_load_35 : decode cX5_load 35 = .ok (.iload_n 2, 1) := by decide +kernel
theorem dX5_load_36 : decode cX5_load 36 = .ok (.ireturn, 1) := by decide +kernel
theorem dX5_shortest_0 : decode cX5_shortest 0 = .ok (.ldc 46, 2) := by decide +kernel
theorem dX5_shortest_2 : decode cX5_shortest 2 = .ok (.istore_n 2, 1) := by decide +kernel
theorem dX5_shortest_3 : decode cX5_shortest 3 = .ok (.iconst 0, 1) := by decide +kernel
theorem dX5_shortest_4 : decode cX5_shortest 4 = .ok (.istore_n 3, 1) := by decide +kernel
theorem dX5_shortest_5 : decode cX5_shortest 5 = .ok (.iload_n 3, 1) := by decide +kernel
theorem dX5_shortest_6 : decode cX5_shortest 6 = .ok (.aload_n 0, 1) := by decide +kernel
theorem dX5_shortest_7 : decode cX5_shortest 7 = .ok (.getfield 42, 3) := by decide +kernel
theorem dX5_shortest_10 : decode cX5_shortest 10 = .ok (.if_icmp .ge 45, 3) := by decide +kernel
theorem dX5_shortest_13 : decode cX5_shortest 13 = .ok (.iload_n 1, 1) := by decide +kernel
theorem dX5_shortest_14 : decode cX5_shortest 14 = .ok (.iload_n 3, 1) := by decide +kernel
theorem dX5_shortest_15 : decode cX5_shortest 15 = .ok (.invokestatic 104, 3) := by decide +kernel
theorem dX5_shortest_18 : decode cX5_shortest 18 = .ok (.ifCond .eq 31, 3) := by decide +kernel
theorem dX5_shortest_21 : decode cX5_shortest 21 = .ok (.aload_n 0, 1) := by decide +kernel
theorem dX5_shortest_22 : decode cX5_shortest 22 = .ok (.iload_n 1, 1) := by decide +kernel
theorem dX5_shortest_23 : decode cX5_shortest 23 = .ok (.iload_n 3, 1) := by decide +kernel
theorem dX5_shortest_24 : decode cX5_shortest 24 = .ok (.invokevirtual 108, 3) := by decide +kernel
theorem dX5_shortest_27 : decode cX5_shortest 27 = .ok (.istore 4, 2) := by decide +kernel
theorem dX5_shortest_29 : decode cX5_shortest 29 = .ok (.aload_n 0, 1) := by decide +kernel
theorem dX5_shortest_30 : decode cX5_shortest 30 = .ok (.getfield 26, 3) := by decide +kernel
theorem dX5_shortest_33 : decode cX5_shortest 33 = .ok (.iload_n 1, 1) := by decide +kernel
theorem dX5_shortest_34 : decode cX5_shortest 34 = .ok (.bipush 10, 2) := by decide +kernel
theorem dX5_shortest_36 : decode cX5_shortest 36 = .ok (.imul, 1) := by decide +kernel
theorem dX5_shortest_37 : decode cX5_shortest 37 = .ok (.iload_n 3, 1) := by decide +kernel
theorem dX5_shortest_38 : decode cX5_shortest 38 = .ok (.iadd, 1) := by decide +kernel
theorem dX5_shortest_39 : decode cX5_shortest 39 = .ok (.iload 4, 2) := by decide +kernel
theorem dX5_shortest_41 : decode cX5_shortest 41 = .ok (.iastore, 1) := by decide +kernel
theorem dX5_shortest_42 : decode cX5_shortest 42 = .ok (.iload_n 2, 1) := by decide +kernel
theorem dX5_shortest_43 : decode cX5_shortest 43 = .ok (.iload 4, 2) := by decide +kernel
theorem dX5_shortest_45 : decode cX5_shortest 45 = .ok (.invokestatic 112, 3) := by decide +kernel
theorem dX5_shortest_48 : decode cX5_shortest 48 = .ok (.istore_n 2, 1) := by decide +kernel
theorem dX5_shortest_49 : decode cX5_shortest 49 = .ok (.iinc 3 1, 3) := by decide +kernel
theorem dX5_shortest_52 : decode cX5_shortest 52 = .ok (.goto (-47), 3) := by decide +kernel
theorem dX5_shortest_55 : decode cX5_shortest 55 = .ok (.iload_n 2, 1) := by decide +kernel
theorem dX5_shortest_56 : decode cX5_shortest 56 = .ok (.ireturn, 1) := by decide +kernel
theorem dX5_shortestFrom_0 : decode cX5_shortestFrom 0 = .ok (.iload_n 1, 1) := by decide +kernel
theorem dX5_shortestFrom_1 : decode cX5_shortestFrom 1 = .ok (.iconst 1, 1) := by decide +kernel
theorem dX5_shortestFrom_2 : decode cX5_shortestFrom 2 = .ok (.iload_n 2, 1) := by decide +kernel
theorem dX5_shortestFrom_3 : decode cX5_shortestFrom 3 = .ok (.ishl, 1) := by decide +kernel
theorem dX5_shortestFrom_4 : decode cX5_shortestFrom 4 = .ok (.iconst (-1), 1) := by decide +kernel
theorem dX5_shortestFrom_5 : decode cX5_shortestFrom 5 = .ok (.ixor, 1) := by decide +kernel
theorem dX5_shortestFrom_6 : decode cX5_shortestFrom 6 = .ok (.iand, 1) := by decide +kernel
theorem dX5_shortestFrom_7 : decode cX5_shortestFrom 7 = .ok (.istore_n 3, 1) := by decide +kernel
theorem dX5_shortestFrom_8 : decode cX5_shortestFrom 8 = .ok (.iload_n 3, 1) := by decide +kernel
theorem dX5_shortestFrom_9 : decode cX5_shortestFrom 9 = .ok (.ifCond .ne 12, 3) := by decide +kernel
theorem dX5_shortestFrom_12 : decode cX5_shortestFrom 12 = .ok (.aload_n 0, 1) := by decide +kernel
theorem dX5_shortestFrom_13 : decode cX5_shortestFrom 13 = .ok (.getfield 18, 3) := by decide +kernel
theorem dX5_shortestFrom_16 : decode cX5_shortestFrom 16 = .ok (.iload_n 2, 1) := by decide +kernel
theorem dX5_shortestFrom_17 : decode cX5_shortestFrom 17 = .ok (.iaload, 1) := by decide +kernel
theorem dX5_shortestFrom_18 : decode cX5_shortestFrom 18 = .ok (.goto 5, 3) := by decide +kernel
theorem dX5_shortestFrom_21 : decode cX5_shortestFrom 21 = .ok (.ldc 46, 2) := by decide +kernel
theorem dX5_shortestFrom_23 : decode cX5_shortestFrom 23 = .ok (.istore 4, 2) := by decide +kernel
theorem dX5_shortestFrom_25 : decode cX5_shortestFrom 25 = .ok (.iconst 0, 1) := by decide +kernel
theorem dX5_shortestFrom_26 : decode cX5_shortestFrom 26 = .ok (.istore 5, 2) := by decide +kernel
theorem dX5_shortestFrom_28 : decode cX5_shortestFrom 28 = .ok (.iload 5, 2) := by decide +kernel
theorem dX5_shortestFrom_30 : decode cX5_shortestFrom 30 = .ok (.aload_n 0, 1) := by decide +kernel
theorem dX5_shortestFrom_31 : decode cX5_shortestFrom 31 = .ok (.getfield 42, 3) := by decide +kernel
theorem dX5_shortestFrom_34 : decode cX5_shortestFrom 34 = .ok (.if_icmp .ge 47, 3) := by decide +kernel
theorem dX5_shortestFrom_37 : decode cX5_shortestFrom 37 = .ok (.iload_n 3, 1) := by decide +kernel
theorem dX5_shortestFrom_38 : decode cX5_shortestFrom 38 = .ok (.iload 5, 2) := by decide +kernel
theorem dX5_shortestFrom_40 : decode cX5_shortestFrom 40 = .ok (.invokestatic 104, 3) := by decide +kernel
theorem dX5_shortestFrom_43 : decode cX5_shortestFrom 43 = .ok (.ifCond .eq 32, 3) := by decide +kernel
theorem dX5_shortestFrom_46 : decode cX5_shortestFrom 46 = .ok (.iload 4, 2) := by decide +kernel
theorem dX5_shortestFrom_48 : decode cX5_shortestFrom 48 = .ok (.aload_n 0, 1) := by decide +kernel
theorem dX5_shortestFrom_49 : decode cX5_shortestFrom 49 = .ok (.getfield 23, 3) := by decide +kernel
theorem dX5_shortestFrom_52 : decode cX5_shortestFrom 52 = .ok (.iload_n 2, 1) := by decide +kernel
theorem dX5_shortestFrom_53 : decode cX5_shortestFrom 53 = .ok (.aaload, 1) := by decide +kernel
theorem dX5_shortestFrom_54 : decode cX5_shortestFrom 54 = .ok (.iload 5, 2) := by decide +kernel
theorem dX5_shortestFrom_56 : decode cX5_shortestFrom 56 = .ok (.iaload, 1) := by decide +kernel
theorem dX5_shortestFrom_57 : decode cX5_shortestFrom 57 = .ok (.aload_n 0, 1) := by decide +kernel
theorem dX5_shortestFrom_58 : decode cX5_shortestFrom 58 = .ok (.getfield 26, 3) := by decide +kernel
theorem dX5_shortestFrom_61 : decode cX5_shortestFrom 61 = .ok (.iload_n 3, 1) := by decide +kernel
theorem dX5_shortestFrom_62 : decode cX5_shortestFrom 62 = .ok (.bipush 10, 2) := by decide +kernel
theorem dX5_shortestFrom_64 : decode cX5_shortestFrom 64 = .ok (.imul, 1) := by decide +kernel
theorem dX5_shortestFrom_65 : decode cX5_shortestFrom 65 = .ok (.iload 5, 2) := by decide +kernel
theorem dX5_shortestFrom_67 : decode cX5_shortestFrom 67 = .ok (.iadd, 1) := by decide +kernel
theorem dX5_shortestFrom_68 : decode cX5_shortestFrom 68 = .ok (.iaload, 1) := by decide +kernel
theorem dX5_shortestFrom_69 : decode cX5_shortestFrom 69 = .ok (.iadd, 1) := by decide +kernel
theorem dX5_shortestFrom_70 : decode cX5_shortestFrom 70 = .ok (.invokestatic 112, 3) := by decide +kernel
theorem dX5_shortestFrom_73 : decode cX5_shortestFrom 73 = .ok (.istore 4, 2) := by decide +kernel
theorem dX5_shortestFrom_75 : decode cX5_shortestFrom 75 = .ok (.iinc 5 1, 3) := by decide +kernel
theorem dX5_shortestFrom_78 : decode cX5_shortestFrom 78 = .ok (.goto (-50), 3) := by decide +kernel
theorem dX5_shortestFrom_81 : decode cX5_shortestFrom 81 = .ok (.ldc 46, 2) := by decide +kernel
theorem dX5_shortestFrom_83 : decode cX5_shortestFrom 83 = .ok (.iconst 1, 1) := by decide +kernel
theorem dX5_shortestFrom_84 : decode cX5_shortestFrom 84 = .ok (.iload 4, 2) := by decide +kernel
theorem dX5_shortestFrom_86 : decode cX5_shortestFrom 86 = .ok (.iadd, 1) := by decide +kernel
theorem dX5_shortestFrom_87 : decode cX5_shortestFrom 87 = .ok (.invokestatic 112, 3) := by decide +kernel
theorem dX5_shortestFrom_90 : decode cX5_shortestFrom 90 = .ok (.ireturn, 1) := by decide +kernel
theorem dX5_part_0 : decode cX5_part 0 = .ok (.iload_n 1, 1) := by decide +kernel
theorem dX5_part_1 : decode cX5_part 1 = .ok (.iload_n 1, 1) := by decide +kernel
theorem dX5_part_2 : decode cX5_part 2 = .ok (.ineg, 1) := by decide +kernel
theorem dX5_part_3 : decode cX5_part 3 = .ok (.iand, 1) := by decide +kernel
theorem dX5_part_4 : decode cX5_part 4 = .ok (.istore_n 2, 1) := by decide +kernel
theorem dX5_part_5 : decode cX5_part 5 = .ok (.iload_n 1, 1) := by decide +kernel
theorem dX5_part_6 : decode cX5_part 6 = .ok (.iload_n 2, 1) := by decide +kernel
theorem dX5_part_7 : decode cX5_part 7 = .ok (.ixor, 1) := by decide +kernel
theorem dX5_part_8 : decode cX5_part 8 = .ok (.istore_n 3, 1) := by decide +kernel
theorem dX5_part_9 : decode cX5_part 9 = .ok (.aload_n 0, 1) := by decide +kernel
theorem dX5_part_10 : decode cX5_part 10 = .ok (.getfield 32, 3) := by decide +kernel
theorem dX5_part_13 : decode cX5_part 13 = .ok (.iload_n 1, 1) := by decide +kernel
theorem dX5_part_14 : decode cX5_part 14 = .ok (.ldc 46, 2) := by decide +kernel
theorem dX5_part_16 : decode cX5_part 16 = .ok (.iastore, 1) := by decide +kernel
theorem dX5_part_17 : decode cX5_part 17 = .ok (.aload_n 0, 1) := by decide +kernel
theorem dX5_part_18 : decode cX5_part 18 = .ok (.getfield 35, 3) := by decide +kernel
theorem dX5_part_21 : decode cX5_part 21 = .ok (.iload_n 1, 1) := by decide +kernel
theorem dX5_part_22 : decode cX5_part 22 = .ok (.iconst 0, 1) := by decide +kernel
theorem dX5_part_23 : decode cX5_part 23 = .ok (.iastore, 1) := by decide +kernel
theorem dX5_part_24 : decode cX5_part 24 = .ok (.iload_n 3, 1) := by decide +kernel
theorem dX5_part_25 : decode cX5_part 25 = .ok (.istore 4, 2) := by decide +kernel
theorem dX5_part_27 : decode cX5_part 27 = .ok (.iload 4, 2) := by decide +kernel
theorem dX5_part_29 : decode cX5_part 29 = .ok (.ifCond .lt 91, 3) := by decide +kernel
theorem dX5_part_32 : decode cX5_part 32 = .ok (.iload_n 2, 1) := by decide +kernel
theorem dX5_part_33 : decode cX5_part 33 = .ok (.iload 4, 2) := by decide +kernel
theorem dX5_part_35 : decode cX5_part 35 = .ok (.ior, 1) := by decide +kernel
theorem dX5_part_36 : decode cX5_part 36 = .ok (.istore 5, 2) := by decide +kernel
theorem dX5_part_38 : decode cX5_part 38 = .ok (.aload_n 0, 1) := by decide +kernel
theorem dX5_part_39 : decode cX5_part 39 = .ok (.getfield 29, 3) := by decide +kernel
theorem dX5_part_42 : decode cX5_part 42 = .ok (.iload 5, 2) := by decide +kernel
theorem dX5_part_44 : decode cX5_part 44 = .ok (.iaload, 1) := by decide +kernel
theorem dX5_part_45 : decode cX5_part 45 = .ok (.ldc 46, 2) := by decide +kernel
theorem dX5_part_47 : decode cX5_part 47 = .ok (.if_icmp .ge 53, 3) := by decide +kernel
theorem dX5_part_50 : decode cX5_part 50 = .ok (.sipush 10000, 3) := by decide +kernel
theorem dX5_part_53 : decode cX5_part 53 = .ok (.aload_n 0, 1) := by decide +kernel
theorem dX5_part_54 : decode cX5_part 54 = .ok (.getfield 29, 3) := by decide +kernel
theorem dX5_part_57 : decode cX5_part 57 = .ok (.iload 5, 2) := by decide +kernel
theorem dX5_part_59 : decode cX5_part 59 = .ok (.iaload, 1) := by decide +kernel
theorem dX5_part_60 : decode cX5_part 60 = .ok (.iadd, 1) := by decide +kernel
theorem dX5_part_61 : decode cX5_part 61 = .ok (.aload_n 0, 1) := by decide +kernel
theorem dX5_part_62 : decode cX5_part 62 = .ok (.getfield 32, 3) := by decide +kernel
theorem dX5_part_65 : decode cX5_part 65 = .ok (.iload_n 1, 1) := by decide +kernel
theorem dX5_part_66 : decode cX5_part 66 = .ok (.iload 5, 2) := by decide +kernel
theorem dX5_part_68 : decode cX5_part 68 = .ok (.ixor, 1) := by decide +kernel
theorem dX5_part_69 : decode cX5_part 69 = .ok (.iaload, 1) := by decide +kernel
theorem dX5_part_70 : decode cX5_part 70 = .ok (.iadd, 1) := by decide +kernel
theorem dX5_part_71 : decode cX5_part 71 = .ok (.istore 6, 2) := by decide +kernel
theorem dX5_part_73 : decode cX5_part 73 = .ok (.iload 6, 2) := by decide +kernel
theorem dX5_part_75 : decode cX5_part 75 = .ok (.aload_n 0, 1) := by decide +kernel
theorem dX5_part_76 : decode cX5_part 76 = .ok (.getfield 32, 3) := by decide +kernel
theorem dX5_part_79 : decode cX5_part 79 = .ok (.iload_n 1, 1) := by decide +kernel
theorem dX5_part_80 : decode cX5_part 80 = .ok (.iaload, 1) := by decide +kernel
theorem dX5_part_81 : decode cX5_part 81 = .ok (.if_icmp .gt 19, 3) := by decide +kernel
theorem dX5_part_84 : decode cX5_part 84 = .ok (.aload_n 0, 1) := by decide +kernel
theorem dX5_part_85 : decode cX5_part 85 = .ok (.getfield 32, 3) := by decide +kernel
theorem dX5_part_88 : decode cX5_part 88 = .ok (.iload_n 1, 1) := by decide +kernel
theorem dX5_part_89 : decode cX5_part 89 = .ok (.iload 6, 2) := by decide +kernel
theorem dX5_part_91 : decode cX5_part 91 = .ok (.iastore, 1) := by decide +kernel
theorem dX5_part_92 : decode cX5_part 92 = .ok (.aload_n 0, 1) := by decide +kernel
theorem dX5_part_93 : decode cX5_part 93 = .ok (.getfield 35, 3) := by decide +kernel
theorem dX5_part_96 : decode cX5_part 96 = .ok (.iload_n 1, 1) := by decide +kernel
theorem dX5_part_97 : decode cX5_part 97 = .ok (.iload 5, 2) := by decide +kernel
theorem dX5_part_99 : decode cX5_part 99 = .ok (.iastore, 1) := by decide +kernel
theorem dX5_part_100 : decode cX5_part 100 = .ok (.iload 4, 2) := by decide +kernel
theorem dX5_part_102 : decode cX5_part 102 = .ok (.ifCond .ne 7, 3) := by decide +kernel
theorem dX5_part_105 : decode cX5_part 105 = .ok (.iconst (-1), 1) := by decide +kernel
theorem dX5_part_106 : decode cX5_part 106 = .ok (.goto 9, 3) := by decide +kernel
theorem dX5_part_109 : decode cX5_part 109 = .ok (.iload 4, 2) := by decide +kernel
theorem dX5_part_111 : decode cX5_part 111 = .ok (.iconst 1, 1) := by decide +kernel
theorem dX5_part_112 : decode cX5_part 112 = .ok (.isub, 1) := by decide +kernel
theorem dX5_part_113 : decode cX5_part 113 = .ok (.iload_n 3, 1) := by decide +kernel
theorem dX5_part_114 : decode cX5_part 114 = .ok (.iand, 1) := by decide +kernel
theorem dX5_part_115 : decode cX5_part 115 = .ok (.istore 4, 2) := by decide +kernel
theorem dX5_part_117 : decode cX5_part 117 = .ok (.goto (-90), 3) := by decide +kernel
theorem dX5_part_120 : decode cX5_part 120 = .ok (.return_, 1) := by decide +kernel
theorem dX5_record_0 : decode cX5_record 0 = .ok (.aload_n 1, 1) := by decide +kernel
theorem dX5_record_1 : decode cX5_record 1 = .ok (.aload_n 0, 1) := by decide +kernel
theorem dX5_record_2 : decode cX5_record 2 = .ok (.getfield 32, 3) := by decide +kernel
theorem dX5_record_5 : decode cX5_record 5 = .ok (.iload_n 2, 1) := by decide +kernel
theorem dX5_record_6 : decode cX5_record 6 = .ok (.iaload, 1) := by decide +kernel
theorem dX5_record_7 : decode cX5_record 7 = .ok (.ldc 46, 2) := by decide +kernel
theorem dX5_record_9 : decode cX5_record 9 = .ok (.if_icmp .ge 7, 3) := by decide +kernel
theorem dX5_record_12 : decode cX5_record 12 = .ok (.iconst 1, 1) := by decide +kernel
theorem dX5_record_13 : decode cX5_record 13 = .ok (.goto 4, 3) := by decide +kernel
theorem dX5_record_16 : decode cX5_record 16 = .ok (.iconst 0, 1) := by decide +kernel
theorem dX5_record_17 : decode cX5_record 17 = .ok (.putfield 117, 3) := by decide +kernel
theorem dX5_record_20 : decode cX5_record 20 = .ok (.aload_n 1, 1) := by decide +kernel
theorem dX5_record_21 : decode cX5_record 21 = .ok (.iconst 0, 1) := by decide +kernel
theorem dX5_record_22 : decode cX5_record 22 = .ok (.putfield 121, 3) := by decide +kernel
theorem dX5_record_25 : decode cX5_record 25 = .ok (.aload_n 1, 1) := by decide +kernel
theorem dX5_record_26 : decode cX5_record 26 = .ok (.getfield 124, 3) := by decide +kernel
theorem dX5_record_29 : decode cX5_record 29 = .ok (.iconst 0, 1) := by decide +kernel
theorem dX5_record_30 : decode cX5_record 30 = .ok (.iconst 0, 1) := by decide +kernel
theorem dX5_record_31 : decode cX5_record 31 = .ok (.iastore, 1) := by decide +kernel
theorem dX5_record_32 : decode cX5_record 32 = .ok (.aload_n 1, 1) := by decide +kernel
theorem dX5_record_33 : decode cX5_record 33 = .ok (.getfield 117, 3) := by decide +kernel
theorem dX5_record_36 : decode cX5_record 36 = .ok (.ifCond .eq 7, 3) := by decide +kernel
theorem dX5_record_39 : decode cX5_record 39 = .ok (.iload_n 2, 1) := by decide +kernel
theorem dX5_record_40 : decode cX5_record 40 = .ok (.goto 4, 3) := by decide +kernel
theorem dX5_record_43 : decode cX5_record 43 = .ok (.iconst 0, 1) := by decide +kernel
theorem dX5_record_44 : decode cX5_record 44 = .ok (.istore_n 3, 1) := by decide +kernel
theorem dX5_record_45 : decode cX5_record 45 = .ok (.iconst 0, 1) := by decide +kernel
theorem dX5_record_46 : decode cX5_record 46 = .ok (.istore 4, 2) := by decide +kernel
theorem dX5_record_48 : decode cX5_record 48 = .ok (.iload 4, 2) := by decide +kernel
theorem dX5_record_50 : decode cX5_record 50 = .ok (.bipush 10, 2) := by decide +kernel
theorem dX5_record_52 : decode cX5_record 52 = .ok (.if_icmp .ge 33, 3) := by decide +kernel
theorem dX5_record_55 : decode cX5_record 55 = .ok (.iload_n 3, 1) := by decide +kernel
theorem dX5_record_56 : decode cX5_record 56 = .ok (.ifCond .eq 29, 3) := by decide +kernel
theorem dX5_record_59 : decode cX5_record 59 = .ok (.aload_n 0, 1) := by decide +kernel
theorem dX5_record_60 : decode cX5_record 60 = .ok (.aload_n 1, 1) := by decide +kernel
theorem dX5_record_61 : decode cX5_record 61 = .ok (.aload_n 0, 1) := by decide +kernel
theorem dX5_record_62 : decode cX5_record 62 = .ok (.getfield 35, 3) := by decide +kernel
theorem dX5_record_65 : decode cX5_record 65 = .ok (.iload_n 3, 1) := by decide +kernel
theorem dX5_record_66 : decode cX5_record 66 = .ok (.iaload, 1) := by decide +kernel
theorem dX5_record_67 : decode cX5_record 67 = .ok (.invokevirtual 127, 3) := by decide +kernel
theorem dX5_record_70 : decode cX5_record 70 = .ok (.iload_n 3, 1) := by decide +kernel
theorem dX5_record_71 : decode cX5_record 71 = .ok (.aload_n 0, 1) := by decide +kernel
theorem dX5_record_72 : decode cX5_record 72 = .ok (.getfield 35, 3) := by decide +kernel
theorem dX5_record_75 : decode cX5_record 75 = .ok (.iload_n 3, 1) := by decide +kernel
theorem dX5_record_76 : decode cX5_record 76 = .ok (.iaload, 1) := by decide +kernel
theorem dX5_record_77 : decode cX5_record 77 = .ok (.ixor, 1) := by decide +kernel
theorem dX5_record_78 : decode cX5_record 78 = .ok (.istore_n 3, 1) := by decide +kernel
theorem dX5_record_79 : decode cX5_record 79 = .ok (.iinc 4 1, 3) := by decide +kernel
theorem dX5_record_82 : decode cX5_record 82 = .ok (.goto (-34), 3) := by decide +kernel
theorem dX5_record_85 : decode cX5_record 85 = .ok (.return_, 1) := by decide +kernel
theorem dX5_recordRoute_0 : decode cX5_recordRoute 0 = .ok (.aload_n 1, 1) := by decide +kernel
theorem dX5_recordRoute_1 : decode cX5_recordRoute 1 = .ok (.getfield 124, 3) := by decide +kernel
theorem dX5_recordRoute_4 : decode cX5_recordRoute 4 = .ok (.aload_n 1, 1) := by decide +kernel
theorem dX5_recordRoute_5 : decode cX5_recordRoute 5 = .ok (.getfield 121, 3) := by decide +kernel
theorem dX5_recordRoute_8 : decode cX5_recordRoute 8 = .ok (.iaload, 1) := by decide +kernel
theorem dX5_recordRoute_9 : decode cX5_recordRoute 9 = .ok (.istore_n 3, 1) := by decide +kernel
theorem dX5_recordRoute_10 : decode cX5_recordRoute 10 = .ok (.iload_n 2, 1) := by decide +kernel
theorem dX5_recordRoute_11 : decode cX5_recordRoute 11 = .ok (.istore 4, 2) := by decide +kernel
theorem dX5_recordRoute_13 : decode cX5_recordRoute 13 = .ok (.aload_n 0, 1) := by decide +kernel
theorem dX5_recordRoute_14 : decode cX5_recordRoute 14 = .ok (.iload 4, 2) := by decide +kernel
theorem dX5_recordRoute_16 : decode cX5_recordRoute 16 = .ok (.iconst (-1), 1) := by decide +kernel
theorem dX5_recordRoute_17 : decode cX5_recordRoute 17 = .ok (.aload_n 0, 1) := by decide +kernel
theorem dX5_recordRoute_18 : decode cX5_recordRoute 18 = .ok (.getfield 29, 3) := by decide +kernel
theorem dX5_recordRoute_21 : decode cX5_recordRoute 21 = .ok (.iload_n 2, 1) := by decide +kernel
theorem dX5_recordRoute_22 : decode cX5_recordRoute 22 = .ok (.iaload, 1) := by decide +kernel
theorem dX5_recordRoute_23 : decode cX5_recordRoute 23 = .ok (.invokevirtual 130, 3) := by decide +kernel
theorem dX5_recordRoute_26 : decode cX5_recordRoute 26 = .ok (.istore 5, 2) := by decide +kernel
theorem dX5_recordRoute_28 : decode cX5_recordRoute 28 = .ok (.iload 4, 2) := by decide +kernel
theorem dX5_recordRoute_30 : decode cX5_recordRoute 30 = .ok (.ifCond .eq 73, 3) := by decide +kernel
theorem dX5_recordRoute_33 : decode cX5_recordRoute 33 = .ok (.iload 5, 2) := by decide +kernel
theorem dX5_recordRoute_35 : decode cX5_recordRoute 35 = .ok (.ifCond .lt 68, 3) := by decide +kernel
theorem dX5_recordRoute_38 : decode cX5_recordRoute 38 = .ok (.iload_n 3, 1) := by decide +kernel
theorem dX5_recordRoute_39 : decode cX5_recordRoute 39 = .ok (.bipush 10, 2) := by decide +kernel
theorem dX5_recordRoute_41 : decode cX5_recordRoute 41 = .ok (.if_icmp .ge 62, 3) := by decide +kernel
theorem dX5_recordRoute_44 : decode cX5_recordRoute 44 = .ok (.aload_n 1, 1) := by decide +kernel
theorem dX5_recordRoute_45 : decode cX5_recordRoute 45 = .ok (.getfield 134, 3) := by decide +kernel
theorem dX5_recordRoute_48 : decode cX5_recordRoute 48 = .ok (.iload_n 3, 1) := by decide +kernel
theorem dX5_recordRoute_49 : decode cX5_recordRoute 49 = .ok (.aload_n 0, 1) := by decide +kernel
theorem dX5_recordRoute_50 : decode cX5_recordRoute 50 = .ok (.getfield 9, 3) := by decide +kernel
theorem dX5_recordRoute_53 : decode cX5_recordRoute 53 = .ok (.iload 5, 2) := by decide +kernel
theorem dX5_recordRoute_55 : decode cX5_recordRoute 55 = .ok (.iaload, 1) := by decide +kernel
theorem dX5_recordRoute_56 : decode cX5_recordRoute 56 = .ok (.iastore, 1) := by decide +kernel
theorem dX5_recordRoute_57 : decode cX5_recordRoute 57 = .ok (.iinc 3 1, 3) := by decide +kernel
theorem dX5_recordRoute_60 : decode cX5_recordRoute 60 = .ok (.iload 4, 2) := by decide +kernel
theorem dX5_recordRoute_62 : decode cX5_recordRoute 62 = .ok (.iconst 1, 1) := by decide +kernel
theorem dX5_recordRoute_63 : decode cX5_recordRoute 63 = .ok (.iload 5, 2) := by decide +kernel
theorem dX5_recordRoute_65 : decode cX5_recordRoute 65 = .ok (.ishl, 1) := by decide +kernel
theorem dX5_recordRoute_66 : decode cX5_recordRoute 66 = .ok (.iconst (-1), 1) := by decide +kernel
theorem dX5_recordRoute_67 : decode cX5_recordRoute 67 = .ok (.ixor, 1) := by decide +kernel
theorem dX5_recordRoute_68 : decode cX5_recordRoute 68 = .ok (.iand, 1) := by decide +kernel
theorem dX5_recordRoute_69 : decode cX5_recordRoute 69 = .ok (.istore 6, 2) := by decide +kernel
theorem dX5_recordRoute_71 : decode cX5_recordRoute 71 = .ok (.aload_n 0, 1) := by decide +kernel
theorem dX5_recordRoute_72 : decode cX5_recordRoute 72 = .ok (.iload 6, 2) := by decide +kernel
theorem dX5_recordRoute_74 : decode cX5_recordRoute 74 = .ok (.iload 5, 2) := by decide +kernel
theorem dX5_recordRoute_76 : decode cX5_recordRoute 76 = .ok (.aload_n 0, 1) := by decide +kernel
theorem dX5_recordRoute_77 : decode cX5_recordRoute 77 = .ok (.getfield 26, 3) := by decide +kernel
theorem dX5_recordRoute_80 : decode cX5_recordRoute 80 = .ok (.iload 4, 2) := by decide +kernel
theorem dX5_recordRoute_82 : decode cX5_recordRoute 82 = .ok (.bipush 10, 2) := by decide +kernel
theorem dX5_recordRoute_84 : decode cX5_recordRoute 84 = .ok (.imul, 1) := by decide +kernel
theorem dX5_recordRoute_85 : decode cX5_recordRoute 85 = .ok (.iload 5, 2) := by decide +kernel
theorem dX5_recordRoute_87 : decode cX5_recordRoute 87 = .ok (.iadd, 1) := by decide +kernel
theorem dX5_recordRoute_88 : decode cX5_recordRoute 88 = .ok (.iaload, 1) := by decide +kernel
theorem dX5_recordRoute_89 : decode cX5_recordRoute 89 = .ok (.iconst 1, 1) := by decide +kernel
theorem dX5_recordRoute_90 : decode cX5_recordRoute 90 = .ok (.isub, 1) := by decide +kernel
theorem dX5_recordRoute_91 : decode cX5_recordRoute 91 = .ok (.invokevirtual 130, 3) := by decide +kernel
theorem dX5_recordRoute_94 : decode cX5_recordRoute 94 = .ok (.istore 5, 2) := by decide +kernel
theorem dX5_recordRoute_96 : decode cX5_recordRoute 96 = .ok (.iload 6, 2) := by decide +kernel
theorem dX5_recordRoute_98 : decode cX5_recordRoute 98 = .ok (.istore 4, 2) := by decide +kernel
theorem dX5_recordRoute_100 : decode cX5_recordRoute 100 = .ok (.goto (-72), 3) := by decide +kernel
theorem dX5_recordRoute_103 : decode cX5_recordRoute 103 = .ok (.aload_n 1, 1) := by decide +kernel
theorem dX5_recordRoute_104 : decode cX5_recordRoute 104 = .ok (.getfield 137, 3) := by decide +kernel
theorem dX5_recordRoute_107 : decode cX5_recordRoute 107 = .ok (.aload_n 1, 1) := by decide +kernel
theorem dX5_recordRoute_108 : decode cX5_recordRoute 108 = .ok (.getfield 121, 3) := by decide +kernel
theorem dX5_recordRoute_111 : decode cX5_recordRoute 111 = .ok (.aload_n 0, 1) := by decide +kernel
theorem dX5_recordRoute_112 : decode cX5_recordRoute 112 = .ok (.getfield 29, 3) := by decide +kernel
theorem dX5_recordRoute_115 : decode cX5_recordRoute 115 = .ok (.iload_n 2, 1) := by decide +kernel
theorem dX5_recordRoute_116 : decode cX5_recordRoute 116 = .ok (.iaload, 1) := by decide +kernel
theorem dX5_recordRoute_117 : decode cX5_recordRoute 117 = .ok (.iastore, 1) := by decide +kernel
theorem dX5_recordRoute_118 : decode cX5_recordRoute 118 = .ok (.aload_n 1, 1) := by decide +kernel
theorem dX5_recordRoute_119 : decode cX5_recordRoute 119 = .ok (.dup, 1) := by decide +kernel
theorem dX5_recordRoute_120 : decode cX5_recordRoute 120 = .ok (.getfield 121, 3) := by decide +kernel
theorem dX5_recordRoute_123 : decode cX5_recordRoute 123 = .ok (.iconst 1, 1) := by decide +kernel
theorem dX5_recordRoute_124 : decode cX5_recordRoute 124 = .ok (.iadd, 1) := by decide +kernel
theorem dX5_recordRoute_125 : decode cX5_recordRoute 125 = .ok (.putfield 121, 3) := by decide +kernel
theorem dX5_recordRoute_128 : decode cX5_recordRoute 128 = .ok (.aload_n 1, 1) := by decide +kernel
theorem dX5_recordRoute_129 : decode cX5_recordRoute 129 = .ok (.getfield 124, 3) := by decide +kernel
theorem dX5_recordRoute_132 : decode cX5_recordRoute 132 = .ok (.aload_n 1, 1) := by decide +kernel
theorem dX5_recordRoute_133 : decode cX5_recordRoute 133 = .ok (.getfield 121, 3) := by decide +kernel
theorem dX5_recordRoute_136 : decode cX5_recordRoute 136 = .ok (.iload_n 3, 1) := by decide +kernel
theorem dX5_recordRoute_137 : decode cX5_recordRoute 137 = .ok (.iastore, 1) := by decide +kernel
theorem dX5_recordRoute_138 : decode cX5_recordRoute 138 = .ok (.return_, 1) := by decide +kernel
theorem dX5_firstWith_0 : decode cX5_firstWith 0 = .ok (.iconst 0, 1) := by decide +kernel
theorem dX5_firstWith_1 : decode cX5_firstWith 1 = .ok (.istore 4, 2) := by decide +kernel
theorem dX5_firstWith_3 : decode cX5_firstWith 3 = .ok (.iload 4, 2) := by decide +kernel
theorem dX5_firstWith_5 : decode cX5_firstWith 5 = .ok (.aload_n 0, 1) := by decide +kernel
theorem dX5_firstWith_6 : decode cX5_firstWith 6 = .ok (.getfield 42, 3) := by decide +kernel
theorem dX5_firstWith_9 : decode cX5_firstWith 9 = .ok (.if_icmp .ge 59, 3) := by decide +kernel
theorem dX5_firstWith_12 : decode cX5_firstWith 12 = .ok (.iload_n 1, 1) := by decide +kernel
theorem dX5_firstWith_13 : decode cX5_firstWith 13 = .ok (.iload 4, 2) := by decide +kernel
theorem dX5_firstWith_15 : decode cX5_firstWith 15 = .ok (.invokestatic 104, 3) := by decide +kernel
theorem dX5_firstWith_18 : decode cX5_firstWith 18 = .ok (.ifCond .eq 44, 3) := by decide +kernel
theorem dX5_firstWith_21 : decode cX5_firstWith 21 = .ok (.iload_n 2, 1) := by decide +kernel
theorem dX5_firstWith_22 : decode cX5_firstWith 22 = .ok (.ifCond .ge 7, 3) := by decide +kernel
theorem dX5_firstWith_25 : decode cX5_firstWith 25 = .ok (.iconst 0, 1) := by decide +kernel
theorem dX5_firstWith_26 : decode cX5_firstWith 26 = .ok (.goto 12, 3) := by decide +kernel
theorem dX5_firstWith_29 : decode cX5_firstWith 29 = .ok (.aload_n 0, 1) := by decide +kernel
theorem dX5_firstWith_30 : decode cX5_firstWith 30 = .ok (.getfield 23, 3) := by decide +kernel
theorem dX5_firstWith_33 : decode cX5_firstWith 33 = .ok (.iload_n 2, 1) := by decide +kernel
theorem dX5_firstWith_34 : decode cX5_firstWith 34 = .ok (.aaload, 1) := by decide +kernel
theorem dX5_firstWith_35 : decode cX5_firstWith 35 = .ok (.iload 4, 2) := by decide +kernel
theorem dX5_firstWith_37 : decode cX5_firstWith 37 = .ok (.iaload, 1) := by decide +kernel
theorem dX5_firstWith_38 : decode cX5_firstWith 38 = .ok (.istore 5, 2) := by decide +kernel
theorem dX5_firstWith_40 : decode cX5_firstWith 40 = .ok (.iload 5, 2) := by decide +kernel
theorem dX5_firstWith_42 : decode cX5_firstWith 42 = .ok (.aload_n 0, 1) := by decide +kernel
theorem dX5_firstWith_43 : decode cX5_firstWith 43 = .ok (.getfield 26, 3) := by decide +kernel
theorem dX5_firstWith_46 : decode cX5_firstWith 46 = .ok (.iload_n 1, 1) := by decide +kernel
theorem dX5_firstWith_47 : decode cX5_firstWith 47 = .ok (.bipush 10, 2) := by decide +kernel
theorem dX5_firstWith_49 : decode cX5_firstWith 49 = .ok (.imul, 1) := by decide +kernel
theorem dX5_firstWith_50 : decode cX5_firstWith 50 = .ok (.iload 4, 2) := by decide +kernel
theorem dX5_firstWith_52 : decode cX5_firstWith 52 = .ok (.iadd, 1) := by decide +kernel
theorem dX5_firstWith_53 : decode cX5_firstWith 53 = .ok (.iaload, 1) := by decide +kernel
theorem dX5_firstWith_54 : decode cX5_firstWith 54 = .ok (.iadd, 1) := by decide +kernel
theorem dX5_firstWith_55 : decode cX5_firstWith 55 = .ok (.iload_n 3, 1) := by decide +kernel
theorem dX5_firstWith_56 : decode cX5_firstWith 56 = .ok (.if_icmp .ne 6, 3) := by decide +kernel
theorem dX5_firstWith_59 : decode cX5_firstWith 59 = .ok (.iload 4, 2) := by decide +kernel
theorem dX5_firstWith_61 : decode cX5_firstWith 61 = .ok (.ireturn, 1) := by decide +kernel
theorem dX5_firstWith_62 : decode cX5_firstWith 62 = .ok (.iinc 4 1, 3) := by decide +kernel
theorem dX5_firstWith_65 : decode cX5_firstWith 65 = .ok (.goto (-62), 3) := by decide +kernel
theorem dX5_firstWith_68 : decode cX5_firstWith 68 = .ok (.iconst (-1), 1) := by decide +kernel
theorem dX5_firstWith_69 : decode cX5_firstWith 69 = .ok (.ireturn, 1) := by decide +kernel
theorem dX5_has_0 : decode cX5_has 0 = .ok (.iload_n 0, 1) := by decide +kernel
theorem dX5_has_1 : decode cX5_has 1 = .ok (.iload_n 1, 1) := by decide +kernel
theorem dX5_has_2 : decode cX5_has 2 = .ok (.ishr, 1) := by decide +kernel
theorem dX5_has_3 : decode cX5_has 3 = .ok (.iconst 1, 1) := by decide +kernel
theorem dX5_has_4 : decode cX5_has 4 = .ok (.iand, 1) := by decide +kernel
theorem dX5_has_5 : decode cX5_has 5 = .ok (.ifCond .eq 7, 3) := by decide +kernel
theorem dX5_has_8 : decode cX5_has 8 = .ok (.iconst 1, 1) := by decide +kernel
theorem dX5_has_9 : decode cX5_has 9 = .ok (.goto 4, 3) := by decide +kernel
theorem dX5_has_12 : decode cX5_has 12 = .ok (.iconst 0, 1) := by decide +kernel
theorem dX5_has_13 : decode cX5_has 13 = .ok (.ireturn, 1) := by decide +kernel
theorem dX6_init_0 : decode cX6_init 0 = .ok (.aload_n 0, 1) := by decide +kernel
theorem dX6_init_1 : decode cX6_init 1 = .ok (.invokespecial 3, 3) := by decide +kernel
theorem dX6_init_4 : decode cX6_init 4 = .ok (.aload_n 0, 1) := by decide +kernel
theorem dX6_init_5 : decode cX6_init 5 = .ok (.bipush 60, 2) := by decide +kernel
theorem dX6_init_7 : decode cX6_init 7 = .ok (.newarray .int, 2) := by decide +kernel
theorem dX6_init_9 : decode cX6_init 9 = .ok (.putfield 9, 3) := by decide +kernel
theorem dX6_init_12 : decode cX6_init 12 = .ok (.aload_n 0, 1) := by decide +kernel
theorem dX6_init_13 : decode cX6_init 13 = .ok (.bipush 8, 2) := by decide +kernel
theorem dX6_init_15 : decode cX6_init 15 = .ok (.newarray .int, 2) := by decide +kernel
theorem dX6_init_17 : decode cX6_init 17 = .ok (.putfield 15, 3) := by decide +kernel
theorem dX6_init_20 : decode cX6_init 20 = .ok (.aload_n 0, 1) := by decide +kernel
theorem dX6_init_21 : decode cX6_init 21 = .ok (.bipush 8, 2) := by decide +kernel
theorem dX6_init_23 : decode cX6_init 23 = .ok (.newarray .int, 2) := by decide +kernel
theorem dX6_init_25 : decode cX6_init 25 = .ok (.putfield 18, 3) := by decide +kernel
theorem dX6_init_28 : decode cX6_init 28 = .ok (.aload_n 0, 1) := by decide +kernel
theorem dX6_init_29 : decode cX6_init 29 = .ok (.bipush 8, 2) := by decide +kernel
theorem dX6_init_31 : decode cX6_init 31 = .ok (.newarray .int, 2) := by decide +kernel
theorem dX6_init_33 : decode cX6_init 33 = .ok (.putfield 21, 3) := by decide +kernel
theorem dX6_init_36 : decode cX6_init 36 = .ok (.return_, 1) := by decide +kernel
theorem dX6_lengthen_0 : decode cX6_lengthen 0 = .ok (.iconst 0, 1) := by decide +kernel
theorem dX6_lengthen_1 : decode cX6_lengthen 1 = .ok (.istore 4, 2) := by decide +kernel
theorem dX6_lengthen_3 : decode cX6_lengthen 3 = .ok (.iload 4, 2) := by decide +kernel
theorem dX6_lengthen_5 : decode cX6_lengthen 5 = .ok (.iload_n 3, 1) := by decide +kernel
theorem dX6_lengthen_6 : decode cX6_lengthen 6 = .ok (.if_icmp .ge 40, 3) := by decide +kernel
theorem dX6_lengthen_9 : decode cX6_lengthen 9 = .ok (.aload_n 0, 1) := by decide +kernel
theorem dX6_lengthen_10 : decode cX6_lengthen 10 = .ok (.getfield 9, 3) := by decide +kernel
theorem dX6_lengthen_13 : decode cX6_lengthen 13 = .ok (.aload_n 0, 1) := by decide +kernel
theorem dX6_lengthen_14 : decode cX6_lengthen 14 = .ok (.getfield 24, 3) := by decide +kernel
theorem dX6_lengthen_17 : decode cX6_lengthen 17 = .ok (.lload_n 1, 1) := by decide +kernel
theorem dX6_lengthen_18 : decode cX6_lengthen 18 = .ok (.bipush 8, 2) := by decide +kernel
theorem dX6_lengthen_20 : decode cX6_lengthen 20 = .ok (.iload 4, 2) := by decide +kernel
theorem dX6_lengthen_22 : decode cX6_lengthen 22 = .ok (.imul, 1) := by decide +kernel
theorem dX6_lengthen_23 : decode cX6_lengthen 23 = .ok (.lshr, 1) := by decide +kernel
theorem dX6_lengthen_24 : decode cX6_lengthen 24 = .ok (.l2i, 1) := by decide +kernel
theorem dX6_lengthen_25 : decode cX6_lengthen 25 = .ok (.sipush 255, 3) := by decide +kernel
theorem dX6_lengthen_28 : decode cX6_lengthen 28 = .ok (.iand, 1) := by decide +kernel
theorem dX6_lengthen_29 : decode cX6_lengthen 29 = .ok (.iastore, 1) := by decide +kernel
theorem dX6_lengthen_30 : decode cX6_lengthen 30 = .ok (.aload_n 0, 1) := by decide +kernel
theorem dX6_lengthen_31 : decode cX6_lengthen 31 = .ok (.dup, 1) := by decide +kernel
theorem dX6_lengthen_32 : decode cX6_lengthen 32 = .ok (.getfield 24, 3) := by decide +kernel
theorem dX6_lengthen_35 : decode cX6_lengthen 35 = .ok (.iconst 1, 1) := by decide +kernel
theorem dX6_lengthen_36 : decode cX6_lengthen 36 = .ok (.iadd, 1) := by decide +kernel
theorem dX6_lengthen_37 : decode cX6_lengthen 37 = .ok (.putfield 24, 3) := by decide +kernel
theorem dX6_lengthen_40 : decode cX6_lengthen 40 = .ok (.iinc 4 1, 3) := by decide +kernel
theorem dX6_lengthen_43 : decode cX6_lengthen 43 = .ok (.goto (-40), 3) := by decide +kernel
theorem dX6_lengthen_46 : decode cX6_lengthen 46 = .ok (.aload_n 0, 1) := by decide +kernel
theorem dX6_lengthen_47 : decode cX6_lengthen 47 = .ok (.getfield 24, 3) := by decide +kernel
theorem dX6_lengthen_50 : decode cX6_lengthen 50 = .ok (.ireturn, 1) := by decide +kernel
theorem dX6_firstWrong_0 : decode cX6_firstWrong 0 = .ok (.iconst 0, 1) := by decide +kernel
theorem dX6_firstWrong_1 : decode cX6_firstWrong 1 = .ok (.istore_n 1, 1) := by decide +kernel
theorem dX6_firstWrong_2 : decode cX6_firstWrong 2 = .ok (.iload_n 1, 1) := by decide +kernel
theorem dX6_firstWrong_3 : decode cX6_firstWrong 3 = .ok (.aload_n 0, 1) := by decide +kernel
theorem dX6_firstWrong_4 : decode cX6_firstWrong 4 = .ok (.getfield 24, 3) := by decide +kernel
theorem dX6_firstWrong_7 : decode cX6_firstWrong 7 = .ok (.if_icmp .ge 19, 3) := by decide +kernel
theorem dX6_firstWrong_10 : decode cX6_firstWrong 10 = .ok (.aload_n 0, 1) := by decide +kernel
theorem dX6_firstWrong_11 : decode cX6_firstWrong 11 = .ok (.iload_n 1, 1) := by decide +kernel
theorem dX6_firstWrong_12 : decode cX6_firstWrong 12 = .ok (.invokevirtual 28, 3) := by decide +kernel
theorem dX6_firstWrong_15 : decode cX6_firstWrong 15 = .ok (.ifCond .ne 5, 3) := by decide +kernel
theorem dX6_firstWrong_18 : decode cX6_firstWrong 18 = .ok (.iload_n 1, 1) := by decide +kernel
theorem dX6_firstWrong_19 : decode cX6_firstWrong 19 = .ok (.ireturn, 1) := by decide +kernel
theorem dX6_firstWrong_20 : decode cX6_firstWrong 20 = .ok (.iinc 1 1, 3) := by decide +kernel
theorem dX6_firstWrong_23 : decode cX6_firstWrong 23 = .ok (.goto (-21), 3) := by decide +kernel
theorem dX6_firstWrong_26 : decode cX6_firstWrong 26 = .ok (.aload_n 0, 1) := by decide +kernel
theorem dX6_firstWrong_27 : decode cX6_firstWrong 27 = .ok (.getfield 24, 3) := by decide +kernel
theorem dX6_firstWrong_30 : decode cX6_firstWrong 30 = .ok (.iconst 5, 1) := by decide +kernel
theorem dX6_firstWrong_31 : decode cX6_firstWrong 31 = .ok (.irem, 1) := by decide +kernel
theorem dX6_firstWrong_32 : decode cX6_firstWrong 32 = .ok (.ifCond .ne 7, 3) := by decide +kernel
theorem dX6_firstWrong_35 : decode cX6_firstWrong 35 = .ok (.iconst (-1), 1) := by decide +kernel
theorem dX6_firstWrong_36 : decode cX6_firstWrong 36 = .ok (.goto 7, 3) := by decide +kernel
theorem dX6_firstWrong_39 : decode cX6_firstWrong 39 = .ok (.aload_n 0, 1) := by decide +kernel
theorem dX6_firstWrong_40 : decode cX6_firstWrong 40 = .ok (.getfield 24, 3) := by decide +kernel
theorem dX6_firstWrong_43 : decode cX6_firstWrong 43 = .ok (.ireturn, 1) := by decide +kernel
theorem dX6_canStand_0 : decode cX6_canStand 0 = .ok (.iload_n 1, 1) := by decide +kernel
theorem dX6_canStand_1 : decode cX6_canStand 1 = .ok (.iconst 5, 1) := by decide +kernel
theorem dX6_canStand_2 : decode cX6_canStand 2 = .ok (.irem, 1) := by decide +kernel
theorem dX6_canStand_3 : decode cX6_canStand 3 = .ok (.tableswitch 104 0 3 #[29, 53, 67, 84], 29) := by decide +kernel
theorem dX6_canStand_32 : decode cX6_canStand 32 = .ok (.iload_n 1, 1) := by decide +kernel
theorem dX6_canStand_33 : decode cX6_canStand 33 = .ok (.bipush 40, 2) := by decide +kernel
theorem dX6_canStand_35 : decode cX6_canStand 35 = .ok (.if_icmp .ge 19, 3) := by decide +kernel
theorem dX6_canStand_38 : decode cX6_canStand 38 = .ok (.aload_n 0, 1) := by decide +kernel
theorem dX6_canStand_39 : decode cX6_canStand 39 = .ok (.getfield 9, 3) := by decide +kernel
theorem dX6_canStand_42 : decode cX6_canStand 42 = .ok (.iload_n 1, 1) := by decide +kernel
theorem dX6_canStand_43 : decode cX6_canStand 43 = .ok (.iaload, 1) := by decide +kernel
theorem dX6_canStand_44 : decode cX6_canStand 44 = .ok (.invokestatic 32, 3) := by decide +kernel
theorem dX6_canStand_47 : decode cX6_canStand 47 = .ok (.ifCond .lt 7, 3) := by decide +kernel
theorem dX6_canStand_50 : decode cX6_canStand 50 = .ok (.iconst 1, 1) := by decide +kernel
theorem dX6_canStand_51 : decode cX6_canStand 51 = .ok (.goto 4, 3) := by decide +kernel
theorem dX6_canStand_54 : decode cX6_canStand 54 = .ok (.iconst 0, 1) := by decide +kernel
theorem dX6_canStand_55 : decode cX6_canStand 55 = .ok (.ireturn, 1) := by decide +kernel
theorem dX6_canStand_56 : decode cX6_canStand 56 = .ok (.aload_n 0, 1) := by decide +kernel
theorem dX6_canStand_57 : decode cX6_canStand 57 = .ok (.getfield 9, 3) := by decide +kernel
theorem dX6_canStand_60 : decode cX6_canStand 60 = .ok (.iload_n 1, 1) := by decide +kernel
theorem dX6_canStand_61 : decode cX6_canStand 61 = .ok (.iaload, 1) := by decide +kernel
theorem dX6_canStand_62 : decode cX6_canStand 62 = .ok (.bipush 48, 2) := by decide +kernel
theorem dX6_canStand_64 : decode cX6_canStand 64 = .ok (.bipush 54, 2) := by decide +kernel
theorem dX6_canStand_66 : decode cX6_canStand 66 = .ok (.invokestatic 36, 3) := by decide +kernel
theorem dX6_canStand_69 : decode cX6_canStand 69 = .ok (.ireturn, 1) := by decide +kernel
theorem dX6_canStand_70 : decode cX6_canStand 70 = .ok (.aload_n 0, 1) := by decide +kernel
theorem dX6_canStand_71 : decode cX6_canStand 71 = .ok (.getfield 9, 3) := by decide +kernel
theorem dX6_canStand_74 : decode cX6_canStand 74 = .ok (.iload_n 1, 1) := by decide +kernel
theorem dX6_canStand_75 : decode cX6_canStand 75 = .ok (.iaload, 1) := by decide +kernel
theorem dX6_canStand_76 : decode cX6_canStand 76 = .ok (.bipush 45, 2) := by decide +kernel
theorem dX6_canStand_78 : decode cX6_canStand 78 = .ok (.if_icmp .ne 7, 3) := by decide +kernel
theorem dX6_canStand_81 : decode cX6_canStand 81 = .ok (.iconst 1, 1) := by decide +kernel
theorem dX6_canStand_82 : decode cX6_canStand 82 = .ok (.goto 4, 3) := by decide +kernel
theorem dX6_canStand_85 : decode cX6_canStand 85 = .ok (.iconst 0, 1) := by decide +kernel
theorem dX6_canStand_86 : decode cX6_canStand 86 = .ok (.ireturn, 1) := by decide +kernel
theorem dX6_canStand_87 : decode cX6_canStand 87 = .ok (.aload_n 0, 1) := by decide +kernel
theorem dX6_canStand_88 : decode cX6_canStand 88 = .ok (.getfield 9, 3) := by decide +kernel
theorem dX6_canStand_91 : decode cX6_canStand 91 = .ok (.iload_n 1, 1) := by decide +kernel
theorem dX6_canStand_92 : decode cX6_canStand 92 = .ok (.iaload, 1) := by decide +kernel
theorem dX6_canStand_93 : decode cX6_canStand 93 = .ok (.aload_n 0, 1) := by decide +kernel
theorem dX6_canStand_94 : decode cX6_canStand 94 = .ok (.getfield 9, 3) := by decide +kernel
theorem dX6_canStand_97 : decode cX6_canStand 97 = .ok (.iload_n 1, 1) := by decide +kernel
theorem dX6_canStand_98 : decode cX6_canStand 98 = .ok (.iconst 2, 1) := by decide +kernel
theorem dX6_canStand_99 : decode cX6_canStand 99 = .ok (.isub, 1) := by decide +kernel
theorem dX6_canStand_100 : decode cX6_canStand 100 = .ok (.iaload, 1) := by decide +kernel
theorem dX6_canStand_101 : decode cX6_canStand 101 = .ok (.bipush 54, 2) := by decide +kernel
theorem dX6_canStand_103 : decode cX6_canStand 103 = .ok (.invokestatic 36, 3) := by decide +kernel
theorem dX6_canStand_106 : decode cX6_canStand 106 = .ok (.ireturn, 1) := by decide +kernel
theorem dX6_canStand_107 : decode cX6_canStand 107 = .ok (.aload_n 0, 1) := by decide +kernel
theorem dX6_canStand_108 : decode cX6_canStand 108 = .ok (.getfield 9, 3) := by decide +kernel
theorem dX6_canStand_111 : decode cX6_canStand 111 = .ok (.iload_n 1, 1) := by decide +kernel
theorem dX6_canStand_112 : decode cX6_canStand 112 = .ok (.iaload, 1) := by decide +kernel
theorem dX6_canStand_113 : decode cX6_canStand 113 = .ok (.bipush 59, 2) := by decide +kernel
theorem dX6_canStand_115 : decode cX6_canStand 115 = .ok (.if_icmp .ne 7, 3) := by decide +kernel
theorem dX6_canStand_118 : decode cX6_canStand 118 = .ok (.iconst 1, 1) := by decide +kernel
theorem dX6_canStand_119 : decode cX6_canStand 119 = .ok (.goto 4, 3) := by decide +kernel
theorem dX6_canStand_122 : decode cX6_canStand 122 = .ok (.iconst 0, 1) := by decide +kernel
theorem dX6_canStand_123 : decode cX6_canStand 123 = .ok (.ireturn, 1) := by decide +kernel
theorem dX6_kindOf_0 : decode cX6_kindOf 0 = .ok (.iload_n 0, 1) := by decide +kernel
theorem dX6_kindOf_1 : decode cX6_kindOf 1 = .ok (.lookupswitch 51 #[(108, 45), (115, 43), (117, 47), (120, 49)], 43) := by decide +kernel
theorem dX6_kindOf_44 : decode cX6_kindOf 44 = .ok (.iconst 0, 1) := by decide +kernel
theorem dX6_kindOf_45 : decode cX6_kindOf 45 = .ok (.ireturn, 1) := by decide +kernel
theorem dX6_kindOf_46 : decode cX6_kindOf 46 = .ok (.iconst 1, 1) := by decide +kernel
theorem dX6_kindOf_47 : decode cX6_kindOf 47 = .ok (.ireturn, 1) := by decide +kernel
theorem dX6_kindOf_48 : decode cX6_kindOf 48 = .ok (.iconst 2, 1) := by decide +kernel
theorem dX6_kindOf_49 : decode cX6_kindOf 49 = .ok (.ireturn, 1) := by decide +kernel
theorem dX6_kindOf_50 : decode cX6_kindOf 50 = .ok (.iconst 3, 1) := by decide +kernel
theorem dX6_kindOf_51 : decode cX6_kindOf 51 = .ok (.ireturn, 1) := by decide +kernel
theorem dX6_kindOf_52 : decode cX6_kindOf 52 = .ok (.iconst (-1), 1) := by decide +kernel
theorem dX6_kindOf_53 : decode cX6_kindOf 53 = .ok (.ireturn, 1) := by decide +kernel
theorem dX6_adopt_0 : decode cX6_adopt 0 = .ok (.aload_n 0, 1) := by decide +kernel
theorem dX6_adopt_1 : decode cX6_adopt 1 = .ok (.aload_n 0, 1) := by decide +kernel
theorem dX6_adopt_2 : decode cX6_adopt 2 = .ok (.getfield 24, 3) := by decide +kernel
theorem dX6_adopt_5 : decode cX6_adopt 5 = .ok (.iconst 5, 1) := by decide +kernel
theorem dX6_adopt_6 : decode cX6_adopt 6 = .ok (.idiv, 1) := by decide +kernel
theorem dX6_adopt_7 : decode cX6_adopt 7 = .ok (.putfield 40, 3) := by decide +kernel
theorem dX6_adopt_10 : decode cX6_adopt 10 = .ok (.iconst 0, 1) := by decide +kernel
theorem dX6_adopt_11 : decode cX6_adopt 11 = .ok (.istore_n 1, 1) := by decide +kernel
theorem dX6_adopt_12 : decode cX6_adopt 12 = .ok (.iload_n 1, 1) := by decide +kernel
theorem dX6_adopt_13 : decode cX6_adopt 13 = .ok (.aload_n 0, 1) := by decide +kernel
theorem dX6_adopt_14 : decode cX6_adopt 14 = .ok (.getfield 40, 3) := by decide +kernel
theorem dX6_adopt_17 : decode cX6_adopt 17 = .ok (.if_icmp .ge 64, 3) := by decide +kernel
theorem dX6_adopt_20 : decode cX6_adopt 20 = .ok (.aload_n 0, 1) := by decide +kernel
theorem dX6_adopt_21 : decode cX6_adopt 21 = .ok (.getfield 15, 3) := by decide +kernel
theorem dX6_adopt_24 : decode cX6_adopt 24 = .ok (.iload_n 1, 1) := by decide +kernel
theorem dX6_adopt_25 : decode cX6_adopt 25 = .ok (.aload_n 0, 1) := by decide +kernel
theorem dX6_adopt_26 : decode cX6_adopt 26 = .ok (.getfield 9, 3) := by decide +kernel
theorem dX6_adopt_29 : decode cX6_adopt 29 = .ok (.iload_n 1, 1) := by decide +kernel
theorem dX6_adopt_30 : decode cX6_adopt 30 = .ok (.iconst 5, 1) := by decide +kernel
theorem dX6_adopt_31 : decode cX6_adopt 31 = .ok (.imul, 1) := by decide +kernel
theorem dX6_adopt_32 : decode cX6_adopt 32 = .ok (.iaload, 1) := by decide +kernel
theorem dX6_adopt_33 : decode cX6_adopt 33 = .ok (.invokestatic 32, 3) := by decide +kernel
theorem dX6_adopt_36 : decode cX6_adopt 36 = .ok (.iastore, 1) := by decide +kernel
theorem dX6_adopt_37 : decode cX6_adopt 37 = .ok (.aload_n 0, 1) := by decide +kernel
theorem dX6_adopt_38 : decode cX6_adopt 38 = .ok (.getfield 18, 3) := by decide +kernel
theorem dX6_adopt_41 : decode cX6_adopt 41 = .ok (.iload_n 1, 1) := by decide +kernel
theorem dX6_adopt_42 : decode cX6_adopt 42 = .ok (.aload_n 0, 1) := by decide +kernel
theorem dX6_adopt_43 : decode cX6_adopt 43 = .ok (.getfield 9, 3) := by decide +kernel
theorem dX6_adopt_46 : decode cX6_adopt 46 = .ok (.iload_n 1, 1) := by decide +kernel
theorem dX6_adopt_47 : decode cX6_adopt 47 = .ok (.iconst 5, 1) := by decide +kernel
theorem dX6_adopt_48 : decode cX6_adopt 48 = .ok (.imul, 1) := by decide +kernel
theorem dX6_adopt_49 : decode cX6_adopt 49 = .ok (.iconst 1, 1) := by decide +kernel
theorem dX6_adopt_50 : decode cX6_adopt 50 = .ok (.iadd, 1) := by decide +kernel
theorem dX6_adopt_51 : decode cX6_adopt 51 = .ok (.iaload, 1) := by decide +kernel
theorem dX6_adopt_52 : decode cX6_adopt 52 = .ok (.bipush 48, 2) := by decide +kernel
theorem dX6_adopt_54 : decode cX6_adopt 54 = .ok (.isub, 1) := by decide +kernel
theorem dX6_adopt_55 : decode cX6_adopt 55 = .ok (.iastore, 1) := by decide +kernel
theorem dX6_adopt_56 : decode cX6_adopt 56 = .ok (.aload_n 0, 1) := by decide +kernel
theorem dX6_adopt_57 : decode cX6_adopt 57 = .ok (.getfield 21, 3) := by decide +kernel
theorem dX6_adopt_60 : decode cX6_adopt 60 = .ok (.iload_n 1, 1) := by decide +kernel
theorem dX6_adopt_61 : decode cX6_adopt 61 = .ok (.aload_n 0, 1) := by decide +kernel
theorem dX6_adopt_62 : decode cX6_adopt 62 = .ok (.getfield 9, 3) := by decide +kernel
theorem dX6_adopt_65 : decode cX6_adopt 65 = .ok (.iload_n 1, 1) := by decide +kernel
theorem dX6_adopt_66 : decode cX6_adopt 66 = .ok (.iconst 5, 1) := by decide +kernel
theorem dX6_adopt_67 : decode cX6_adopt 67 = .ok (.imul, 1) := by decide +kernel
theorem dX6_adopt_68 : decode cX6_adopt 68 = .ok (.iconst 3, 1) := by decide +kernel
theorem dX6_adopt_69 : decode cX6_adopt 69 = .ok (.iadd, 1) := by decide +kernel
theorem dX6_adopt_70 : decode cX6_adopt 70 = .ok (.iaload, 1) := by decide +kernel
theorem dX6_adopt_71 : decode cX6_adopt 71 = .ok (.bipush 48, 2) := by decide +kernel
theorem dX6_adopt_73 : decode cX6_adopt 73 = .ok (.isub, 1) := by decide +kernel
theorem dX6_adopt_74 : decode cX6_adopt 74 = .ok (.iastore, 1) := by decide +kernel
theorem dX6_adopt_75 : decode cX6_adopt 75 = .ok (.iinc 1 1, 3) := by decide +kernel
theorem dX6_adopt_78 : decode cX6_adopt 78 = .ok (.goto (-66), 3) := by decide +kernel
theorem dX6_adopt_81 : decode cX6_adopt 81 = .ok (.return_, 1) := by decide +kernel
theorem dX6_permit_0 : decode cX6_permit 0 = .ok (.iconst 0, 1) := by decide +kernel
theorem dX6_permit_1 : decode cX6_permit 1 = .ok (.istore_n 3, 1) := by decide +kernel
theorem dX6_permit_2 : decode cX6_permit 2 = .ok (.iload_n 3, 1) := by decide +kernel
theorem dX6_permit_3 : decode cX6_permit 3 = .ok (.aload_n 0, 1) := by decide +kernel
theorem dX6_permit_4 : decode cX6_permit 4 = .ok (.getfield 40, 3) := by decide +kernel
theorem dX6_permit_7 : decode cX6_permit 7 = .ok (.if_icmp .ge 43, 3) := by decide +kernel
theorem dX6_permit_10 : decode cX6_permit 10 = .ok (.iload_n 1, 1) := by decide +kernel
theorem dX6_permit_11 : decode cX6_permit 11 = .ok (.aload_n 0, 1) := by decide +kernel
theorem dX6_permit_12 : decode cX6_permit 12 = .ok (.getfield 15, 3) := by decide +kernel
theorem dX6_permit_15 : decode cX6_permit 15 = .ok (.iload_n 3, 1) := by decide +kernel
theorem dX6_permit_16 : decode cX6_permit 16 = .ok (.iaload, 1) := by decide +kernel
theorem dX6_permit_17 : decode cX6_permit 17 = .ok (.invokestatic 43, 3) := by decide +kernel
theorem dX6_permit_20 : decode cX6_permit 20 = .ok (.ifCond .eq 24, 3) := by decide +kernel
theorem dX6_permit_23 : decode cX6_permit 23 = .ok (.iload_n 2, 1) := by decide +kernel
theorem dX6_permit_24 : decode cX6_permit 24 = .ok (.aload_n 0, 1) := by decide +kernel
theorem dX6_permit_25 : decode cX6_permit 25 = .ok (.getfield 18, 3) := by decide +kernel
theorem dX6_permit_28 : decode cX6_permit 28 = .ok (.iload_n 3, 1) := by decide +kernel
theorem dX6_permit_29 : decode cX6_permit 29 = .ok (.iaload, 1) := by decide +kernel
theorem dX6_permit_30 : decode cX6_permit 30 = .ok (.aload_n 0, 1) := by decide +kernel
theorem dX6_permit_31 : decode cX6_permit 31 = .ok (.getfield 21, 3) := by decide +kernel
theorem dX6_permit_34 : decode cX6_permit 34 = .ok (.iload_n 3, 1) := by decide +kernel
theorem dX6_permit_35 : decode cX6_permit 35 = .ok (.iaload, 1) := by decide +kernel
theorem dX6_permit_36 : decode cX6_permit 36 = .ok (.invokestatic 36, 3) := by decide +kernel
theorem dX6_permit_39 : decode cX6_permit 39 = .ok (.ifCond .ne 5, 3) := by decide +kernel
theorem dX6_permit_42 : decode cX6_permit 42 = .ok (.iconst 0, 1) := by decide +kernel
theorem dX6_permit_43 : decode cX6_permit 43 = .ok (.ireturn, 1) := by decide +kernel
theorem dX6_permit_44 : decode cX6_permit 44 = .ok (.iinc 3 1, 3) := by decide +kernel
theorem dX6_permit_47 : decode cX6_permit 47 = .ok (.goto (-45), 3) := by decide +kernel
theorem dX6_permit_50 : decode cX6_permit 50 = .ok (.iconst 1, 1) := by decide +kernel
theorem dX6_permit_51 : decode cX6_permit 51 = .ok (.ireturn, 1) := by decide +kernel
theorem dX7_init_0 : decode cX7_init 0 = .ok (.aload_n 0, 1) := by decide +kernel
theorem dX7_init_1 : decode cX7_init 1 = .ok (.invokespecial 3, 3) := by decide +kernel
theorem dX7_init_4 : decode cX7_init 4 = .ok (.aload_n 0, 1) := by decide +kernel
theorem dX7_init_5 : decode cX7_init 5 = .ok (.bipush 11, 2) := by decide +kernel
theorem dX7_init_7 : decode cX7_init 7 = .ok (.newarray .int, 2) := by decide +kernel
theorem dX7_init_9 : decode cX7_init 9 = .ok (.putfield 9, 3) := by decide +kernel
theorem dX7_init_12 : decode cX7_init 12 = .ok (.aload_n 0, 1) := by decide +kernel
theorem dX7_init_13 : decode cX7_init 13 = .ok (.bipush 10, 2) := by decide +kernel
theorem dX7_init_15 : decode cX7_init 15 = .ok (.newarray .int, 2) := by decide +kernel
theorem dX7_init_17 : decode cX7_init 17 = .ok (.putfield 15, 3) := by decide +kernel
theorem dX7_init_20 : decode cX7_init 20 = .ok (.aload_n 0, 1) := by decide +kernel
theorem dX7_init_21 : decode cX7_init 21 = .ok (.bipush 10, 2) := by decide +kernel
theorem dX7_init_23 : decode cX7_init 23 = .ok (.newarray .int, 2) := by decide +kernel
theorem dX7_init_25 : decode cX7_init 25 = .ok (.putfield 18, 3) := by decide +kernel
theorem dX7_init_28 : decode cX7_init 28 = .ok (.return_, 1) := by decide +kernel
theorem dX7_stopsIn_0 : decode cX7_stopsIn 0 = .ok (.aload_n 0, 1) := by decide +kernel
theorem dX7_stopsIn_1 : decode cX7_stopsIn 1 = .ok (.getfield 9, 3) := by decide +kernel
theorem dX7_stopsIn_4 : decode cX7_stopsIn 4 = .ok (.iload_n 1, 1) := by decide +kernel
theorem dX7_stopsIn_5 : decode cX7_stopsIn 5 = .ok (.iconst 1, 1) := by decide +kernel
theorem dX7_stopsIn_6 : decode cX7_stopsIn 6 = .ok (.iadd, 1) := by decide +kernel
theorem dX7_stopsIn_7 : decode cX7_stopsIn 7 = .ok (.iaload, 1) := by decide +kernel
theorem dX7_stopsIn_8 : decode cX7_stopsIn 8 = .ok (.aload_n 0, 1) := by decide +kernel
theorem dX7_stopsIn_9 : decode cX7_stopsIn 9 = .ok (.getfield 9, 3) := by decide +kernel
theorem dX7_stopsIn_12 : decode cX7_stopsIn 12 = .ok (.iload_n 1, 1) := by decide +kernel
theorem dX7_stopsIn_13 : decode cX7_stopsIn 13 = .ok (.iaload, 1) := by decide +kernel
theorem dX7_stopsIn_14 : decode cX7_stopsIn 14 = .ok (.isub, 1) := by decide +kernel
theorem dX7_stopsIn_15 : decode cX7_stopsIn 15 = .ok (.ireturn, 1) := by decide +kernel
theorem dX8_init_0 : decode cX8_init 0 = .ok (.aload_n 0, 1) := by decide +kernel
theorem dX8_init_1 : decode cX8_init 1 = .ok (.invokespecial 3, 3) := by decide +kernel
theorem dX8_init_4 : decode cX8_init 4 = .ok (.aload_n 0, 1) := by decide +kernel
theorem dX8_init_5 : decode cX8_init 5 = .ok (.bipush 10, 2) := by decide +kernel
theorem dX8_init_7 : decode cX8_init 7 = .ok (.newarray .int, 2) := by decide +kernel
theorem dX8_init_9 : decode cX8_init 9 = .ok (.putfield 9, 3) := by decide +kernel
theorem dX8_init_12 : decode cX8_init 12 = .ok (.return_, 1) := by decide +kernel
theorem dX8_isMissing_0 : decode cX8_isMissing 0 = .ok (.aload_n 0, 1) := by decide +kernel
theorem dX8_isMissing_1 : decode cX8_isMissing 1 = .ok (.getfield 15, 3) := by decide +kernel
theorem dX8_isMissing_4 : decode cX8_isMissing 4 = .ok (.ifCond .ne 7, 3) := by decide +kernel
theorem dX8_isMissing_7 : decode cX8_isMissing 7 = .ok (.iconst 1, 1) := by decide +kernel
theorem dX8_isMissing_8 : decode cX8_isMissing 8 = .ok (.goto 4, 3) := by decide +kernel
theorem dX8_isMissing_11 : decode cX8_isMissing 11 = .ok (.iconst 0, 1) := by decide +kernel
theorem dX8_isMissing_12 : decode cX8_isMissing 12 = .ok (.ireturn, 1) := by decide +kernel
theorem dX8_lay_0 : decode cX8_lay 0 = .ok (.aload_n 0, 1) := by decide +kernel
theorem dX8_lay_1 : decode cX8_lay 1 = .ok (.iload_n 1, 1) := by decide +kernel
theorem dX8_lay_2 : decode cX8_lay 2 = .ok (.putfield 15, 3) := by decide +kernel
theorem dX8_lay_5 : decode cX8_lay 5 = .ok (.aload_n 0, 1) := by decide +kernel
theorem dX8_lay_6 : decode cX8_lay 6 = .ok (.iload_n 1, 1) := by decide +kernel
theorem dX8_lay_7 : decode cX8_lay 7 = .ok (.ifCond .ne 7, 3) := by decide +kernel
theorem dX8_lay_10 : decode cX8_lay 10 = .ok (.iconst 0, 1) := by decide +kernel
theorem dX8_lay_11 : decode cX8_lay 11 = .ok (.goto 4, 3) := by decide +kernel
theorem dX8_lay_14 : decode cX8_lay 14 = .ok (.iload_n 2, 1) := by decide +kernel
theorem dX8_lay_15 : decode cX8_lay 15 = .ok (.putfield 19, 3) := by decide +kernel
theorem dX8_lay_18 : decode cX8_lay 18 = .ok (.aload_n 0, 1) := by decide +kernel
theorem dX8_lay_19 : decode cX8_lay 19 = .ok (.getfield 9, 3) := by decide +kernel
theorem dX8_lay_22 : decode cX8_lay 22 = .ok (.iconst 0, 1) := by decide +kernel
theorem dX8_lay_23 : decode cX8_lay 23 = .ok (.invokestatic 22, 3) := by decide +kernel
theorem dX8_lay_26 : decode cX8_lay 26 = .ok (.aload_n 0, 1) := by decide +kernel
theorem dX8_lay_27 : decode cX8_lay 27 = .ok (.getfield 19, 3) := by decide +kernel
theorem dX8_lay_30 : decode cX8_lay 30 = .ok (.ireturn, 1) := by decide +kernel
theorem dX8_put_0 : decode cX8_put 0 = .ok (.aload_n 0, 1) := by decide +kernel
theorem dX8_put_1 : decode cX8_put 1 = .ok (.getfield 9, 3) := by decide +kernel
theorem dX8_put_4 : decode cX8_put 4 = .ok (.iload_n 1, 1) := by decide +kernel
theorem dX8_put_5 : decode cX8_put 5 = .ok (.iaload, 1) := by decide +kernel
theorem dX8_put_6 : decode cX8_put 6 = .ok (.istore_n 3, 1) := by decide +kernel
theorem dX8_put_7 : decode cX8_put 7 = .ok (.aload_n 0, 1) := by decide +kernel
theorem dX8_put_8 : decode cX8_put 8 = .ok (.getfield 9, 3) := by decide +kernel
theorem dX8_put_11 : decode cX8_put 11 = .ok (.iload_n 1, 1) := by decide +kernel
theorem dX8_put_12 : decode cX8_put 12 = .ok (.aload_n 0, 1) := by decide +kernel
theorem dX8_put_13 : decode cX8_put 13 = .ok (.getfield 15, 3) := by decide +kernel
theorem dX8_put_16 : decode cX8_put 16 = .ok (.bipush 8, 2) := by decide +kernel
theorem dX8_put_18 : decode cX8_put 18 = .ok (.if_icmp .ne 8, 3) := by decide +kernel
theorem dX8_put_21 : decode cX8_put 21 = .ok (.iload_n 2, 1) := by decide +kernel
theorem dX8_put_22 : decode cX8_put 22 = .ok (.i2b, 1) := by decide +kernel
theorem dX8_put_23 : decode cX8_put 23 = .ok (.goto 18, 3) := by decide +kernel
theorem dX8_put_26 : decode cX8_put 26 = .ok (.aload_n 0, 1) := by decide +kernel
theorem dX8_put_27 : decode cX8_put 27 = .ok (.getfield 15, 3) := by decide +kernel
theorem dX8_put_30 : decode cX8_put 30 = .ok (.bipush 16, 2) := by decide +kernel
theorem dX8_put_32 : decode cX8_put 32 = .ok (.if_icmp .ne 8, 3) := by decide +kernel
theorem dX8_put_35 : decode cX8_put 35 = .ok (.iload_n 2, 1) := by decide +kernel
theorem dX8_put_36 : decode cX8_put 36 = .ok (.i2s, 1) := by decide +kernel
theorem dX8_put_37 : decode cX8_put 37 = .ok (.goto 4, 3) := by decide +kernel
theorem dX8_put_40 : decode cX8_put 40 = .ok (.iload_n 2, 1) := by decide +kernel
theorem dX8_put_41 : decode cX8_put 41 = .ok (.iastore, 1) := by decide +kernel
theorem dX8_put_42 : decode cX8_put 42 = .ok (.iload_n 3, 1) := by decide +kernel
theorem dX8_put_43 : decode cX8_put 43 = .ok (.ireturn, 1) := by decide +kernel
theorem dX8_holds_0 : decode cX8_holds 0 = .ok (.iload_n 1, 1) := by decide +kernel
theorem dX8_holds_1 : decode cX8_holds 1 = .ok (.ifCond .lt 29, 3) := by decide +kernel
theorem dX8_holds_4 : decode cX8_holds 4 = .ok (.iload_n 2, 1) := by decide +kernel
theorem dX8_holds_5 : decode cX8_holds 5 = .ok (.ifCond .lt 25, 3) := by decide +kernel
theorem dX8_holds_8 : decode cX8_holds 8 = .ok (.iload_n 2, 1) := by decide +kernel
theorem dX8_holds_9 : decode cX8_holds 9 = .ok (.aload_n 0, 1) := by decide +kernel
theorem dX8_holds_10 : decode cX8_holds 10 = .ok (.getfield 19, 3) := by decide +kernel
theorem dX8_holds_13 : decode cX8_holds 13 = .ok (.if_icmp .gt 17, 3) := by decide +kernel
theorem dX8_holds_16 : decode cX8_holds 16 = .ok (.iload_n 1, 1) := by decide +kernel
theorem dX8_holds_17 : decode cX8_holds 17 = .ok (.aload_n 0, 1) := by decide +kernel
theorem dX8_holds_18 : decode cX8_holds 18 = .ok (.getfield 19, 3) := by decide +kernel
theorem dX8_holds_21 : decode cX8_holds 21 = .ok (.iload_n 2, 1) := by decide +kernel
theorem dX8_holds_22 : decode cX8_holds 22 = .ok (.isub, 1) := by decide +kernel
theorem dX8_holds_23 : decode cX8_holds 23 = .ok (.if_icmp .gt 7, 3) := by decide +kernel
theorem dX8_holds_26 : decode cX8_holds 26 = .ok (.iconst 1, 1) := by decide +kernel
theorem dX8_holds_27 : decode cX8_holds 27 = .ok (.goto 4, 3) := by decide +kernel
theorem dX8_holds_30 : decode cX8_holds 30 = .ok (.iconst 0, 1) := by decide +kernel
theorem dX8_holds_31 : decode cX8_holds 31 = .ok (.ireturn, 1) := by decide +kernel
theorem dX8_allWithin_0 : decode cX8_allWithin 0 = .ok (.iconst 0, 1) := by decide +kernel
theorem dX8_allWithin_1 : decode cX8_allWithin 1 = .ok (.istore_n 3, 1) := by decide +kernel
theorem dX8_allWithin_2 : decode cX8_allWithin 2 = .ok (.iload_n 3, 1) := by decide +kernel
theorem dX8_allWithin_3 : decode cX8_allWithin 3 = .ok (.aload_n 0, 1) := by decide +kernel
theorem dX8_allWithin_4 : decode cX8_allWithin 4 = .ok (.getfield 19, 3) := by decide +kernel
theorem dX8_allWithin_7 : decode cX8_allWithin 7 = .ok (.if_icmp .ge 25, 3) := by decide +kernel
theorem dX8_allWithin_10 : decode cX8_allWithin 10 = .ok (.aload_n 0, 1) := by decide +kernel
theorem dX8_allWithin_11 : decode cX8_allWithin 11 = .ok (.getfield 9, 3) := by decide +kernel
theorem dX8_allWithin_14 : decode cX8_allWithin 14 = .ok (.iload_n 3, 1) := by decide +kernel
theorem dX8_allWithin_15 : decode cX8_allWithin 15 = .ok (.iaload, 1) := by decide +kernel
theorem dX8_allWithin_16 : decode cX8_allWithin 16 = .ok (.iload_n 1, 1) := by decide +kernel
theorem dX8_allWithin_17 : decode cX8_allWithin 17 = .ok (.iload_n 2, 1) := by decide +kernel
theorem dX8_allWithin_18 : decode cX8_allWithin 18 = .ok (.invokestatic 28, 3) := by decide +kernel
theorem dX8_allWithin_21 : decode cX8_allWithin 21 = .ok (.ifCond .ne 5, 3) := by decide +kernel
theorem dX8_allWithin_24 : decode cX8_allWithin 24 = .ok (.iconst 0, 1) := by decide +kernel
theorem dX8_allWithin_25 : decode cX8_allWithin 25 = .ok (.ireturn, 1) := by decide +kernel
theorem dX8_allWithin_26 : decode cX8_allWithin 26 = .ok (.iinc 3 1, 3) := by decide +kernel
theorem dX8_allWithin_29 : decode cX8_allWithin 29 = .ok (.goto (-27), 3) := by decide +kernel
theorem dX8_allWithin_32 : decode cX8_allWithin 32 = .ok (.iconst 1, 1) := by decide +kernel
theorem dX8_allWithin_33 : decode cX8_allWithin 33 = .ok (.ireturn, 1) := by decide +kernel
theorem dX9_init_0 : decode cX9_init 0 = .ok (.aload_n 0, 1) := by decide +kernel
theorem dX9_init_1 : decode cX9_init 1 = .ok (.invokespecial 1, 3) := by decide +kernel
theorem dX9_init_4 : decode cX9_init 4 = .ok (.return_, 1) := by decide +kernel
theorem dX10_init_0 : decode cX10_init 0 = .ok (.aload_n 0, 1) := by decide +kernel
theorem dX10_init_1 : decode cX10_init 1 = .ok (.invokespecial 3, 3) := by decide +kernel
theorem dX10_init_4 : decode cX10_init 4 = .ok (.aload_n 0, 1) := by decide +kernel
theorem dX10_init_5 : decode cX10_init 5 = .ok (.bipush 14, 2) := by decide +kernel
theorem dX10_init_7 : decode cX10_init 7 = .ok (.newarray .int, 2) := by decide +kernel
theorem dX10_init_9 : decode cX10_init 9 = .ok (.putfield 9, 3) := by decide +kernel
theorem dX10_init_12 : decode cX10_init 12 = .ok (.aload_n 0, 1) := by decide +kernel
theorem dX10_init_13 : decode cX10_init 13 = .ok (.bipush 14, 2) := by decide +kernel
theorem dX10_init_15 : decode cX10_init 15 = .ok (.newarray .int, 2) := by decide +kernel
theorem dX10_init_17 : decode cX10_init 17 = .ok (.putfield 15, 3) := by decide +kernel
theorem dX10_init_20 : decode cX10_init 20 = .ok (.aload_n 0, 1) := by decide +kernel
theorem dX10_init_21 : decode cX10_init 21 = .ok (.bipush 14, 2) := by decide +kernel
theorem dX10_init_23 : decode cX10_init 23 = .ok (.newarray .int, 2) := by decide +kernel
theorem dX10_init_25 : decode cX10_init 25 = .ok (.putfield 18, 3) := by decide +kernel
theorem dX10_init_28 : decode cX10_init 28 = .ok (.aload_n 0, 1) := by decide +kernel
theorem dX10_init_29 : decode cX10_init 29 = .ok (.bipush 14, 2) := by decide +kernel
theorem dX10_init_31 : decode cX10_init 31 = .ok (.newarray .boolean, 2) := by decide +kernel
theorem dX10_init_33 : decode cX10_init 33 = .ok (.putfield 21, 3) := by decide +kernel
theorem dX10_init_36 : decode cX10_init 36 = .ok (.aload_n 0, 1) := by decide +kernel
theorem dX10_init_37 : decode cX10_init 37 = .ok (.bipush 8, 2) := by decide +kernel
theorem dX10_init_39 : decode cX10_init 39 = .ok (.bipush 8, 2) := by decide +kernel
theorem dX10_init_41 : decode cX10_init 41 = .ok (.multianewarray 25 2, 4) := by decide +kernel
theorem dX10_init_45 : decode cX10_init 45 = .ok (.putfield 27, 3) := by decide +kernel
theorem dX10_init_48 : decode cX10_init 48 = .ok (.aload_n 0, 1) := by decide +kernel
theorem dX10_init_49 : decode cX10_init 49 = .ok (.bipush 8, 2) := by decide +kernel
theorem dX10_init_51 : decode cX10_init 51 = .ok (.bipush 8, 2) := by decide +kernel
theorem dX10_init_53 : decode cX10_init 53 = .ok (.multianewarray 25 2, 4) := by decide +kernel
theorem dX10_init_57 : decode cX10_init 57 = .ok (.putfield 30, 3) := by decide +kernel
theorem dX10_init_60 : decode cX10_init 60 = .ok (.return_, 1) := by decide +kernel
theorem dX10_hasCorner_0 : decode cX10_hasCorner 0 = .ok (.iload_n 1, 1) := by decide +kernel
theorem dX10_hasCorner_1 : decode cX10_hasCorner 1 = .ok (.iconst 0, 1) := by decide +kernel
theorem dX10_hasCorner_2 : decode cX10_hasCorner 2 = .ok (.aload_n 0, 1) := by decide +kernel
theorem dX10_hasCorner_3 : decode cX10_hasCorner 3 = .ok (.getfield 33, 3) := by decide +kernel
theorem dX10_hasCorner_6 : decode cX10_hasCorner 6 = .ok (.iconst 1, 1) := by decide +kernel
theorem dX10_hasCorner_7 : decode cX10_hasCorner 7 = .ok (.isub, 1) := by decide +kernel
theorem dX10_hasCorner_8 : decode cX10_hasCorner 8 = .ok (.invokestatic 37, 3) := by decide +kernel
theorem dX10_hasCorner_11 : decode cX10_hasCorner 11 = .ok (.ireturn, 1) := by decide +kernel
theorem dX10_addCorner_0 : decode cX10_addCorner 0 = .ok (.aload_n 0, 1) := by decide +kernel
theorem dX10_addCorner_1 : decode cX10_addCorner 1 = .ok (.iconst 0, 1) := by decide +kernel
theorem dX10_addCorner_2 : decode cX10_addCorner 2 = .ok (.putfield 41, 3) := by decide +kernel
theorem dX10_addCorner_5 : decode cX10_addCorner 5 = .ok (.aload_n 0, 1) := by decide +kernel
theorem dX10_addCorner_6 : decode cX10_addCorner 6 = .ok (.dup, 1) := by decide +kernel
theorem dX10_addCorner_7 : decode cX10_addCorner 7 = .ok (.getfield 33, 3) := by decide +kernel
theorem dX10_addCorner_10 : decode cX10_addCorner 10 = .ok (.iconst 1, 1) := by decide +kernel
theorem dX10_addCorner_11 : decode cX10_addCorner 11 = .ok (.iadd, 1) := by decide +kernel
theorem dX10_addCorner_12 : decode cX10_addCorner 12 = .ok (.putfield 33, 3) := by decide +kernel
theorem dX10_addCorner_15 : decode cX10_addCorner 15 = .ok (.aload_n 0, 1) := by decide +kernel
theorem dX10_addCorner_16 : decode cX10_addCorner 16 = .ok (.getfield 33, 3) := by decide +kernel
theorem dX10_addCorner_19 : decode cX10_addCorner 19 = .ok (.iconst 1, 1) := by decide +kernel
theorem dX10_addCorner_20 : decode cX10_addCorner 20 = .ok (.isub, 1) := by decide +kernel
theorem dX10_addCorner_21 : decode cX10_addCorner 21 = .ok (.ireturn, 1) := by decide +kernel
theorem dX10_addStreet_0 : decode cX10_addStreet 0 = .ok (.aload_n 0, 1) := by decide +kernel
theorem dX10_addStreet_1 : decode cX10_addStreet 1 = .ok (.iconst 0, 1) := by decide +kernel
theorem dX10_addStreet_2 : decode cX10_addStreet 2 = .ok (.putfield 41, 3) := by decide +kernel
theorem dX10_addStreet_5 : decode cX10_addStreet 5 = .ok (.aload_n 0, 1) := by decide +kernel
theorem dX10_addStreet_6 : decode cX10_addStreet 6 = .ok (.getfield 9, 3) := by decide +kernel
theorem dX10_addStreet_9 : decode cX10_addStreet 9 = .ok (.aload_n 0, 1) := by decide +kernel
theorem dX10_addStreet_10 : decode cX10_addStreet 10 = .ok (.getfield 45, 3) := by decide +kernel
theorem dX10_addStreet_13 : decode cX10_addStreet 13 = .ok (.iload_n 1, 1) := by decide +kernel
theorem dX10_addStreet_14 : decode cX10_addStreet 14 = .ok (.iastore, 1) := by decide +kernel
theorem dX10_addStreet_15 : decode cX10_addStreet 15 = .ok (.aload_n 0, 1) := by decide +kernel
theorem dX10_addStreet_16 : decode cX10_addStreet 16 = .ok (.getfield 15, 3) := by decide +kernel
theorem dX10_addStreet_19 : decode cX10_addStreet 19 = .ok (.aload_n 0, 1) := by decide +kernel
theorem dX10_addStreet_20 : decode cX10_addStreet 20 = .ok (.getfield 45, 3) := by decide +kernel
theorem dX10_addStreet_23 : decode cX10_addStreet 23 = .ok (.iload_n 2, 1) := by decide +kernel
theorem dX10_addStreet_24 : decode cX10_addStreet 24 = .ok (.iastore, 1) := by decide +kernel
theorem dX10_addStreet_25 : decode cX10_addStreet 25 = .ok (.aload_n 0, 1) := by decide +kernel
theorem dX10_addStreet_26 : decode cX10_addStreet 26 = .ok (.getfield 18, 3) := by decide +kernel
theorem dX10_addStreet_29 : decode cX10_addStreet 29 = .ok (.aload_n 0, 1) := by decide +kernel
theorem dX10_addStreet_30 : decode cX10_addStreet 30 = .ok (.getfield 45, 3) := by decide +kernel
theorem dX10_addStreet_33 : decode cX10_addStreet 33 = .ok (.iload_n 3, 1) := by decide +kernel
theorem dX10_addStreet_34 : decode cX10_addStreet 34 = .ok (.iastore, 1) := by decide +kernel
theorem dX10_addStreet_35 : decode cX10_addStreet 35 = .ok (.aload_n 0, 1) := by decide +kernel
theorem dX10_addStreet_36 : decode cX10_addStreet 36 = .ok (.getfield 21, 3) := by decide +kernel
theorem dX10_addStreet_39 : decode cX10_addStreet 39 = .ok (.aload_n 0, 1) := by decide +kernel
theorem dX10_addStreet_40 : decode cX10_addStreet 40 = .ok (.getfield 45, 3) := by decide +kernel
theorem dX10_addStreet_43 : decode cX10_addStreet 43 = .ok (.iconst 0, 1) := by decide +kernel
theorem dX10_addStreet_44 : decode cX10_addStreet 44 = .ok (.bastore, 1) := by decide +kernel
theorem dX10_addStreet_45 : decode cX10_addStreet 45 = .ok (.aload_n 0, 1) := by decide +kernel
theorem dX10_addStreet_46 : decode cX10_addStreet 46 = .ok (.dup, 1) := by decide +kernel
theorem dX10_addStreet_47 : decode cX10_addStreet 47 = .ok (.getfield 45, 3) := by decide +kernel
theorem dX10_addStreet_50 : decode cX10_addStreet 50 = .ok (.iconst 1, 1) := by decide +kernel
theorem dX10_addStreet_51 : decode cX10_addStreet 51 = .ok (.iadd, 1) := by decide +kernel
theorem dX10_addStreet_52 : decode cX10_addStreet 52 = .ok (.putfield 45, 3) := by decide +kernel
theorem dX10_addStreet_55 : decode cX10_addStreet 55 = .ok (.aload_n 0, 1) := by decide +kernel
theorem dX10_addStreet_56 : decode cX10_addStreet 56 = .ok (.getfield 45, 3) := by decide +kernel
theorem dX10_addStreet_59 : decode cX10_addStreet 59 = .ok (.iconst 1, 1) := by decide +kernel
theorem dX10_addStreet_60 : decode cX10_addStreet 60 = .ok (.isub, 1) := by decide +kernel
theorem dX10_addStreet_61 : decode cX10_addStreet 61 = .ok (.ireturn, 1) := by decide +kernel
theorem dX10_close_0 : decode cX10_close 0 = .ok (.aload_n 0, 1) := by decide +kernel
theorem dX10_close_1 : decode cX10_close 1 = .ok (.getfield 21, 3) := by decide +kernel
theorem dX10_close_4 : decode cX10_close 4 = .ok (.iload_n 1, 1) := by decide +kernel
theorem dX10_close_5 : decode cX10_close 5 = .ok (.baload, 1) := by decide +kernel
theorem dX10_close_6 : decode cX10_close 6 = .ok (.iload_n 2, 1) := by decide +kernel
theorem dX10_close_7 : decode cX10_close 7 = .ok (.if_icmp .ne 5, 3) := by decide +kernel
theorem dX10_close_10 : decode cX10_close 10 = .ok (.iconst 0, 1) := by decide +kernel
theorem dX10_close_11 : decode cX10_close 11 = .ok (.ireturn, 1) := by decide +kernel
theorem dX10_close_12 : decode cX10_close 12 = .ok (.aload_n 0, 1) := by decide +kernel
theorem dX10_close_13 : decode cX10_close 13 = .ok (.iconst 0, 1) := by decide +kernel
theorem dX10_close_14 : decode cX10_close 14 = .ok (.putfield 41, 3) := by decide +kernel
theorem dX10_close_17 : decode cX10_close 17 = .ok (.aload_n 0, 1) := by decide +kernel
theorem dX10_close_18 : decode cX10_close 18 = .ok (.getfield 21, 3) := by decide +kernel
theorem dX10_close_21 : decode cX10_close 21 = .ok (.iload_n 1, 1) := by decide +kernel
theorem dX10_close_22 : decode cX10_close 22 = .ok (.iload_n 2, 1) := by decide +kernel
theorem dX10_close_23 : decode cX10_close 23 = .ok (.bastore, 1) := by decide +kernel
theorem dX10_close_24 : decode cX10_close 24 = .ok (.iconst 1, 1) := by decide +kernel
theorem dX10_close_25 : decode cX10_close 25 = .ok (.ireturn, 1) := by decide +kernel
theorem dX10_table_0 : decode cX10_table 0 = .ok (.aload_n 0, 1) := by decide +kernel
theorem dX10_table_1 : decode cX10_table 1 = .ok (.getfield 41, 3) := by decide +kernel
theorem dX10_table_4 : decode cX10_table 4 = .ok (.ifCond .ne 17, 3) := by decide +kernel
theorem dX10_table_7 : decode cX10_table 7 = .ok (.aload_n 0, 1) := by decide +kernel
theorem dX10_table_8 : decode cX10_table 8 = .ok (.aload_n 0, 1) := by decide +kernel
theorem dX10_table_9 : decode cX10_table 9 = .ok (.getfield 27, 3) := by decide +kernel
theorem dX10_table_12 : decode cX10_table 12 = .ok (.iconst 0, 1) := by decide +kernel
theorem dX10_table_13 : decode cX10_table 13 = .ok (.invokevirtual 48, 3) := by decide +kernel
theorem dX10_table_16 : decode cX10_table 16 = .ok (.aload_n 0, 1) := by decide +kernel
theorem dX10_table_17 : decode cX10_table 17 = .ok (.iconst 1, 1) := by decide +kernel
theorem dX10_table_18 : decode cX10_table 18 = .ok (.putfield 41, 3) := by decide +kernel
theorem dX10_table_21 : decode cX10_table 21 = .ok (.aload_n 0, 1) := by decide +kernel
theorem dX10_table_22 : decode cX10_table 22 = .ok (.getfield 27, 3) := by decide +kernel
theorem dX10_table_25 : decode cX10_table 25 = .ok (.areturn, 1) := by decide +kernel
theorem dX10_tableWith_0 : decode cX10_tableWith 0 = .ok (.aload_n 0, 1) := by decide +kernel
theorem dX10_tableWith_1 : decode cX10_tableWith 1 = .ok (.aload_n 0, 1) := by decide +kernel
theorem dX10_tableWith_2 : decode cX10_tableWith 2 = .ok (.getfield 30, 3) := by decide +kernel
theorem dX10_tableWith_5 : decode cX10_tableWith 5 = .ok (.iload_n 1, 1) := by decide +kernel
theorem dX10_tableWith_6 : decode cX10_tableWith 6 = .ok (.invokevirtual 48, 3) := by decide +kernel
theorem dX10_tableWith_9 : decode cX10_tableWith 9 = .ok (.aload_n 0, 1) := by decide +kernel
theorem dX10_tableWith_10 : decode cX10_tableWith 10 = .ok (.getfield 30, 3) := by decide +kernel
theorem dX10_tableWith_13 : decode cX10_tableWith 13 = .ok (.areturn, 1) := by decide +kernel
theorem dX10_measure_0 : decode cX10_measure 0 = .ok (.iconst 0, 1) := by decide +kernel
theorem dX10_measure_1 : decode cX10_measure 1 = .ok (.istore_n 3, 1) := by decide +kernel
theorem dX10_measure_2 : decode cX10_measure 2 = .ok (.iload_n 3, 1) := by decide +kernel
theorem dX10_measure_3 : decode cX10_measure 3 = .ok (.aload_n 0, 1) := by decide +kernel
theorem dX10_measure_4 : decode cX10_measure 4 = .ok (.getfield 33, 3) := by decide +kernel
theorem dX10_measure_7 : decode cX10_measure 7 = .ok (.if_icmp .ge 23, 3) := by decide +kernel
theorem dX10_measure_10 : decode cX10_measure 10 = .ok (.aload_n 1, 1) := by decide +kernel
theorem dX10_measure_11 : decode cX10_measure 11 = .ok (.iload_n 3, 1) := by decide +kernel
theorem dX10_measure_12 : decode cX10_measure 12 = .ok (.aaload, 1) := by decide +kernel
theorem dX10_measure_13 : decode cX10_measure 13 = .ok (.ldc 52, 2) := by decide +kernel
theorem dX10_measure_15 : decode cX10_measure 15 = .ok (.invokestatic 53, 3) := by decide +kernel
theorem dX10_measure_18 : decode cX10_measure 18 = .ok (.aload_n 1, 1) := by decide +kernel
theorem dX10_measure_19 : decode cX10_measure 19 = .ok (.iload_n 3, 1) := by decide +kernel
theorem dX10_measure_20 : decode cX10_measure 20 = .ok (.aaload, 1) := by decide +kernel
theorem dX10_measure_21 : decode cX10_measure 21 = .ok (.iload_n 3, 1) := by decide +kernel
theorem dX10_measure_22 : decode cX10_measure 22 = .ok (.iconst 0, 1) := by decide +kernel
theorem dX10_measure_23 : decode cX10_measure 23 = .ok (.iastore, 1) := by decide +kernel
theorem dX10_measure_24 : decode cX10_measure 24 = .ok (.iinc 3 1, 3) := by decide +kernel
theorem dX10_measure_27 : decode cX10_measure 27 = .ok (.goto (-25), 3) := by decide +kernel
theorem dX10_measure_30 : decode cX10_measure 30 = .ok (.iconst 0, 1) := by decide +kernel
theorem dX10_measure_31 : decode cX10_measure 31 = .ok (.istore_n 3, 1) := by decide +kernel
theorem dX10_measure_32 : decode cX10_measure 32 = .ok (.iload_n 3, 1) := by decide +kernel
theorem dX10_measure_33 : decode cX10_measure 33 = .ok (.aload_n 0, 1) := by decide +kernel
theorem dX10_measure_34 : decode cX10_measure 34 = .ok (.getfield 45, 3) := by decide +kernel
theorem dX10_measure_37 : decode cX10_measure 37 = .ok (.if_icmp .ge 80, 3) := by decide +kernel
theorem dX10_measure_40 : decode cX10_measure 40 = .ok (.aload_n 0, 1) := by decide +kernel
theorem dX10_measure_41 : decode cX10_measure 41 = .ok (.getfield 21, 3) := by decide +kernel
theorem dX10_measure_44 : decode cX10_measure 44 = .ok (.iload_n 3, 1) := by decide +kernel
theorem dX10_measure_45 : decode cX10_measure 45 = .ok (.baload, 1) := by decide +kernel
theorem dX10_measure_46 : decode cX10_measure 46 = .ok (.ifCond .ne 65, 3) := by decide +kernel
theorem dX10_measure_49 : decode cX10_measure 49 = .ok (.aload_n 1, 1) := by decide +kernel
theorem dX10_measure_50 : decode cX10_measure 50 = .ok (.aload_n 0, 1) := by decide +kernel
theorem dX10_measure_51 : decode cX10_measure 51 = .ok (.getfield 9, 3) := by decide +kernel
theorem dX10_measure_54 : decode cX10_measure 54 = .ok (.iload_n 3, 1) := by decide +kernel
theorem dX10_measure_55 : decode cX10_measure 55 = .ok (.iaload, 1) := by decide +kernel
theorem dX10_measure_56 : decode cX10_measure 56 = .ok (.aaload, 1) := by decide +kernel
theorem dX10_measure_57 : decode cX10_measure 57 = .ok (.aload_n 0, 1) := by decide +kernel
theorem dX10_measure_58 : decode cX10_measure 58 = .ok (.getfield 15, 3) := by decide +kernel
theorem dX10_measure_61 : decode cX10_measure 61 = .ok (.iload_n 3, 1) := by decide +kernel
theorem dX10_measure_62 : decode cX10_measure 62 = .ok (.iaload, 1) := by decide +kernel
theorem dX10_measure_63 : decode cX10_measure 63 = .ok (.iaload, 1) := by decide +kernel
theorem dX10_measure_64 : decode cX10_measure 64 = .ok (.aload_n 0, 1) := by decide +kernel
theorem dX10_measure_65 : decode cX10_measure 65 = .ok (.getfield 18, 3) := by decide +kernel
theorem dX10_measure_68 : decode cX10_measure 68 = .ok (.iload_n 3, 1) := by decide +kernel
theorem dX10_measure_69 : decode cX10_measure 69 = .ok (.iaload, 1) := by decide +kernel
end
section
theorem dX10_measure_70 : decode cX10_measure 70 = .ok (.iload_n 2, 1) := by decide +kernel
theorem dX10_measure_71 : decode cX10_measure 71 = .ok (.iadd, 1) := by decide +kernel
theorem dX10_measure_72 : decode cX10_measure 72 = .ok (.invokestatic 59, 3) := by decide +kernel
theorem dX10_measure_75 : decode cX10_measure 75 = .ok (.istore 4, 2) := by decide +kernel
theorem dX10_measure_77 : decode cX10_measure 77 = .ok (.aload_n 1, 1) := by decide +kernel
theorem dX10_measure_78 : decode cX10_measure 78 = .ok (.aload_n 0, 1) := by decide +kernel
theorem dX10_measure_79 : decode cX10_measure 79 = .ok (.getfield 9, 3) := by decide +kernel
theorem dX10_measure_82 : decode cX10_measure 82 = .ok (.iload_n 3, 1) := by decide +kernel
theorem dX10_measure_83 : decode cX10_measure 83 = .ok (.iaload, 1) := by decide +kernel
theorem dX10_measure_84 : decode cX10_measure 84 = .ok (.aaload, 1) := by decide +kernel
theorem dX10_measure_85 : decode cX10_measure 85 = .ok (.aload_n 0, 1) := by decide +kernel
theorem dX10_measure_86 : decode cX10_measure 86 = .ok (.getfield 15, 3) := by decide +kernel
theorem dX10_measure_89 : decode cX10_measure 89 = .ok (.iload_n 3, 1) := by decide +kernel
theorem dX10_measure_90 : decode cX10_measure 90 = .ok (.iaload, 1) := by decide +kernel
theorem dX10_measure_91 : decode cX10_measure 91 = .ok (.iload 4, 2) := by decide +kernel
theorem dX10_measure_93 : decode cX10_measure 93 = .ok (.iastore, 1) := by decide +kernel
theorem dX10_measure_94 : decode cX10_measure 94 = .ok (.aload_n 1, 1) := by decide +kernel
theorem dX10_measure_95 : decode cX10_measure 95 = .ok (.aload_n 0, 1) := by decide +kernel
theorem dX10_measure_96 : decode cX10_measure 96 = .ok (.getfield 15, 3) := by decide +kernel
theorem dX10_measure_99 : decode cX10_measure 99 = .ok (.iload_n 3, 1) := by decide +kernel
theorem dX10_measure_100 : decode cX10_measure 100 = .ok (.iaload, 1) := by decide +kernel
theorem dX10_measure_101 : decode cX10_measure 101 = .ok (.aaload, 1) := by decide +kernel
theorem dX10_measure_102 : decode cX10_measure 102 = .ok (.aload_n 0, 1) := by decide +kernel
theorem dX10_measure_103 : decode cX10_measure 103 = .ok (.getfield 9, 3) := by decide +kernel
theorem dX10_measure_106 : decode cX10_measure 106 = .ok (.iload_n 3, 1) := by decide +kernel
theorem dX10_measure_107 : decode cX10_measure 107 = .ok (.iaload, 1) := by decide +kernel
theorem dX10_measure_108 : decode cX10_measure 108 = .ok (.iload 4, 2) := by decide +kernel
theorem dX10_measure_110 : decode cX10_measure 110 = .ok (.iastore, 1) := by decide +kernel
theorem dX10_measure_111 : decode cX10_measure 111 = .ok (.iinc 3 1, 3) := by decide +kernel
theorem dX10_measure_114 : decode cX10_measure 114 = .ok (.goto (-82), 3) := by decide +kernel
theorem dX10_measure_117 : decode cX10_measure 117 = .ok (.iconst 0, 1) := by decide +kernel
theorem dX10_measure_118 : decode cX10_measure 118 = .ok (.istore_n 3, 1) := by decide +kernel
theorem dX10_measure_119 : decode cX10_measure 119 = .ok (.iload_n 3, 1) := by decide +kernel
theorem dX10_measure_120 : decode cX10_measure 120 = .ok (.aload_n 0, 1) := by decide +kernel
theorem dX10_measure_121 : decode cX10_measure 121 = .ok (.getfield 33, 3) := by decide +kernel
theorem dX10_measure_124 : decode cX10_measure 124 = .ok (.if_icmp .ge 75, 3) := by decide +kernel
theorem dX10_measure_127 : decode cX10_measure 127 = .ok (.iconst 0, 1) := by decide +kernel
theorem dX10_measure_128 : decode cX10_measure 128 = .ok (.istore 4, 2) := by decide +kernel
theorem dX10_measure_130 : decode cX10_measure 130 = .ok (.iload 4, 2) := by decide +kernel
theorem dX10_measure_132 : decode cX10_measure 132 = .ok (.aload_n 0, 1) := by decide +kernel
theorem dX10_measure_133 : decode cX10_measure 133 = .ok (.getfield 33, 3) := by decide +kernel
theorem dX10_measure_136 : decode cX10_measure 136 = .ok (.if_icmp .ge 57, 3) := by decide +kernel
theorem dX10_measure_139 : decode cX10_measure 139 = .ok (.iconst 0, 1) := by decide +kernel
theorem dX10_measure_140 : decode cX10_measure 140 = .ok (.istore 5, 2) := by decide +kernel
theorem dX10_measure_142 : decode cX10_measure 142 = .ok (.iload 5, 2) := by decide +kernel
theorem dX10_measure_144 : decode cX10_measure 144 = .ok (.aload_n 0, 1) := by decide +kernel
theorem dX10_measure_145 : decode cX10_measure 145 = .ok (.getfield 33, 3) := by decide +kernel
theorem dX10_measure_148 : decode cX10_measure 148 = .ok (.if_icmp .ge 39, 3) := by decide +kernel
theorem dX10_measure_151 : decode cX10_measure 151 = .ok (.aload_n 1, 1) := by decide +kernel
theorem dX10_measure_152 : decode cX10_measure 152 = .ok (.iload 4, 2) := by decide +kernel
theorem dX10_measure_154 : decode cX10_measure 154 = .ok (.aaload, 1) := by decide +kernel
theorem dX10_measure_155 : decode cX10_measure 155 = .ok (.iload 5, 2) := by decide +kernel
theorem dX10_measure_157 : decode cX10_measure 157 = .ok (.aload_n 1, 1) := by decide +kernel
theorem dX10_measure_158 : decode cX10_measure 158 = .ok (.iload 4, 2) := by decide +kernel
theorem dX10_measure_160 : decode cX10_measure 160 = .ok (.aaload, 1) := by decide +kernel
theorem dX10_measure_161 : decode cX10_measure 161 = .ok (.iload 5, 2) := by decide +kernel
theorem dX10_measure_163 : decode cX10_measure 163 = .ok (.iaload, 1) := by decide +kernel
theorem dX10_measure_164 : decode cX10_measure 164 = .ok (.aload_n 1, 1) := by decide +kernel
theorem dX10_measure_165 : decode cX10_measure 165 = .ok (.iload 4, 2) := by decide +kernel
theorem dX10_measure_167 : decode cX10_measure 167 = .ok (.aaload, 1) := by decide +kernel
theorem dX10_measure_168 : decode cX10_measure 168 = .ok (.iload_n 3, 1) := by decide +kernel
theorem dX10_measure_169 : decode cX10_measure 169 = .ok (.iaload, 1) := by decide +kernel
theorem dX10_measure_170 : decode cX10_measure 170 = .ok (.aload_n 1, 1) := by decide +kernel
theorem dX10_measure_171 : decode cX10_measure 171 = .ok (.iload_n 3, 1) := by decide +kernel
theorem dX10_measure_172 : decode cX10_measure 172 = .ok (.aaload, 1) := by decide +kernel
theorem dX10_measure_173 : decode cX10_measure 173 = .ok (.iload 5, 2) := by decide +kernel
theorem dX10_measure_175 : decode cX10_measure 175 = .ok (.iaload, 1) := by decide +kernel
theorem dX10_measure_176 : decode cX10_measure 176 = .ok (.iadd, 1) := by decide +kernel
theorem dX10_measure_177 : decode cX10_measure 177 = .ok (.invokestatic 59, 3) := by decide +kernel
theorem dX10_measure_180 : decode cX10_measure 180 = .ok (.iastore, 1) := by decide +kernel
theorem dX10_measure_181 : decode cX10_measure 181 = .ok (.iinc 5 1, 3) := by decide +kernel
theorem dX10_measure_184 : decode cX10_measure 184 = .ok (.goto (-42), 3) := by decide +kernel
theorem dX10_measure_187 : decode cX10_measure 187 = .ok (.iinc 4 1, 3) := by decide +kernel
theorem dX10_measure_190 : decode cX10_measure 190 = .ok (.goto (-60), 3) := by decide +kernel
theorem dX10_measure_193 : decode cX10_measure 193 = .ok (.iinc 3 1, 3) := by decide +kernel
theorem dX10_measure_196 : decode cX10_measure 196 = .ok (.goto (-77), 3) := by decide +kernel
theorem dX10_measure_199 : decode cX10_measure 199 = .ok (.return_, 1) := by decide +kernel
theorem dX11_init_0 : decode cX11_init 0 = .ok (.aload_n 0, 1) := by decide +kernel
theorem dX11_init_1 : decode cX11_init 1 = .ok (.invokespecial 1, 3) := by decide +kernel
theorem dX11_init_4 : decode cX11_init 4 = .ok (.aload_n 0, 1) := by decide +kernel
theorem dX11_init_5 : decode cX11_init 5 = .ok (.new 7, 3) := by decide +kernel
theorem dX11_init_8 : decode cX11_init 8 = .ok (.dup, 1) := by decide +kernel
theorem dX11_init_9 : decode cX11_init 9 = .ok (.invokespecial 9, 3) := by decide +kernel
theorem dX11_init_12 : decode cX11_init 12 = .ok (.putfield 10, 3) := by decide +kernel
theorem dX11_init_15 : decode cX11_init 15 = .ok (.aload_n 0, 1) := by decide +kernel
theorem dX11_init_16 : decode cX11_init 16 = .ok (.new 16, 3) := by decide +kernel
theorem dX11_init_19 : decode cX11_init 19 = .ok (.dup, 1) := by decide +kernel
theorem dX11_init_20 : decode cX11_init 20 = .ok (.invokespecial 18, 3) := by decide +kernel
theorem dX11_init_23 : decode cX11_init 23 = .ok (.putfield 19, 3) := by decide +kernel
theorem dX11_init_26 : decode cX11_init 26 = .ok (.aload_n 0, 1) := by decide +kernel
theorem dX11_init_27 : decode cX11_init 27 = .ok (.new 23, 3) := by decide +kernel
theorem dX11_init_30 : decode cX11_init 30 = .ok (.dup, 1) := by decide +kernel
theorem dX11_init_31 : decode cX11_init 31 = .ok (.invokespecial 25, 3) := by decide +kernel
theorem dX11_init_34 : decode cX11_init 34 = .ok (.putfield 26, 3) := by decide +kernel
theorem dX11_init_37 : decode cX11_init 37 = .ok (.aload_n 0, 1) := by decide +kernel
theorem dX11_init_38 : decode cX11_init 38 = .ok (.new 30, 3) := by decide +kernel
theorem dX11_init_41 : decode cX11_init 41 = .ok (.dup, 1) := by decide +kernel
theorem dX11_init_42 : decode cX11_init 42 = .ok (.invokespecial 32, 3) := by decide +kernel
theorem dX11_init_45 : decode cX11_init 45 = .ok (.putfield 33, 3) := by decide +kernel
theorem dX11_init_48 : decode cX11_init 48 = .ok (.aload_n 0, 1) := by decide +kernel
theorem dX11_init_49 : decode cX11_init 49 = .ok (.new 37, 3) := by decide +kernel
theorem dX11_init_52 : decode cX11_init 52 = .ok (.dup, 1) := by decide +kernel
theorem dX11_init_53 : decode cX11_init 53 = .ok (.invokespecial 39, 3) := by decide +kernel
theorem dX11_init_56 : decode cX11_init 56 = .ok (.putfield 40, 3) := by decide +kernel
theorem dX11_init_59 : decode cX11_init 59 = .ok (.aload_n 0, 1) := by decide +kernel
theorem dX11_init_60 : decode cX11_init 60 = .ok (.iconst 4, 1) := by decide +kernel
theorem dX11_init_61 : decode cX11_init 61 = .ok (.anewarray 44, 3) := by decide +kernel
theorem dX11_init_64 : decode cX11_init 64 = .ok (.putfield 46, 3) := by decide +kernel
theorem dX11_init_67 : decode cX11_init 67 = .ok (.iconst 0, 1) := by decide +kernel
theorem dX11_init_68 : decode cX11_init 68 = .ok (.istore_n 1, 1) := by decide +kernel
theorem dX11_init_69 : decode cX11_init 69 = .ok (.iload_n 1, 1) := by decide +kernel
theorem dX11_init_70 : decode cX11_init 70 = .ok (.iconst 4, 1) := by decide +kernel
theorem dX11_init_71 : decode cX11_init 71 = .ok (.if_icmp .ge 22, 3) := by decide +kernel
theorem dX11_init_74 : decode cX11_init 74 = .ok (.aload_n 0, 1) := by decide +kernel
theorem dX11_init_75 : decode cX11_init 75 = .ok (.getfield 46, 3) := by decide +kernel
theorem dX11_init_78 : decode cX11_init 78 = .ok (.iload_n 1, 1) := by decide +kernel
theorem dX11_init_79 : decode cX11_init 79 = .ok (.new 44, 3) := by decide +kernel
theorem dX11_init_82 : decode cX11_init 82 = .ok (.dup, 1) := by decide +kernel
theorem dX11_init_83 : decode cX11_init 83 = .ok (.invokespecial 50, 3) := by decide +kernel
theorem dX11_init_86 : decode cX11_init 86 = .ok (.aastore, 1) := by decide +kernel
theorem dX11_init_87 : decode cX11_init 87 = .ok (.iinc 1 1, 3) := by decide +kernel
theorem dX11_init_90 : decode cX11_init 90 = .ok (.goto (-21), 3) := by decide +kernel
theorem dX11_init_93 : decode cX11_init 93 = .ok (.return_, 1) := by decide +kernel
theorem dX11_corner_0 : decode cX11_corner 0 = .ok (.aload_n 0, 1) := by decide +kernel
theorem dX11_corner_1 : decode cX11_corner 1 = .ok (.getfield 10, 3) := by decide +kernel
theorem dX11_corner_4 : decode cX11_corner 4 = .ok (.getfield 51, 3) := by decide +kernel
theorem dX11_corner_7 : decode cX11_corner 7 = .ok (.getfield 55, 3) := by decide +kernel
theorem dX11_corner_10 : decode cX11_corner 10 = .ok (.bipush 8, 2) := by decide +kernel
theorem dX11_corner_12 : decode cX11_corner 12 = .ok (.if_icmp .lt 10, 3) := by decide +kernel
theorem dX11_corner_15 : decode cX11_corner 15 = .ok (.aload_n 0, 1) := by decide +kernel
theorem dX11_corner_16 : decode cX11_corner 16 = .ok (.ldc 61, 2) := by decide +kernel
theorem dX11_corner_18 : decode cX11_corner 18 = .ok (.invokevirtual 62, 3) := by decide +kernel
theorem dX11_corner_21 : decode cX11_corner 21 = .ok (.ireturn, 1) := by decide +kernel
theorem dX11_corner_22 : decode cX11_corner 22 = .ok (.aload_n 0, 1) := by decide +kernel
theorem dX11_corner_23 : decode cX11_corner 23 = .ok (.getfield 10, 3) := by decide +kernel
theorem dX11_corner_26 : decode cX11_corner 26 = .ok (.getfield 51, 3) := by decide +kernel
theorem dX11_corner_29 : decode cX11_corner 29 = .ok (.invokevirtual 66, 3) := by decide +kernel
theorem dX11_corner_32 : decode cX11_corner 32 = .ok (.ireturn, 1) := by decide +kernel
theorem dX11_street_0 : decode cX11_street 0 = .ok (.aload_n 0, 1) := by decide +kernel
theorem dX11_street_1 : decode cX11_street 1 = .ok (.getfield 10, 3) := by decide +kernel
theorem dX11_street_4 : decode cX11_street 4 = .ok (.getfield 51, 3) := by decide +kernel
theorem dX11_street_7 : decode cX11_street 7 = .ok (.iload_n 1, 1) := by decide +kernel
theorem dX11_street_8 : decode cX11_street 8 = .ok (.invokevirtual 70, 3) := by decide +kernel
theorem dX11_street_11 : decode cX11_street 11 = .ok (.ifCond .eq 32, 3) := by decide +kernel
theorem dX11_street_14 : decode cX11_street 14 = .ok (.aload_n 0, 1) := by decide +kernel
theorem dX11_street_15 : decode cX11_street 15 = .ok (.getfield 10, 3) := by decide +kernel
theorem dX11_street_18 : decode cX11_street 18 = .ok (.getfield 51, 3) := by decide +kernel
theorem dX11_street_21 : decode cX11_street 21 = .ok (.iload_n 2, 1) := by decide +kernel
theorem dX11_street_22 : decode cX11_street 22 = .ok (.invokevirtual 70, 3) := by decide +kernel
theorem dX11_street_25 : decode cX11_street 25 = .ok (.ifCond .eq 18, 3) := by decide +kernel
theorem dX11_street_28 : decode cX11_street 28 = .ok (.iload_n 1, 1) := by decide +kernel
theorem dX11_street_29 : decode cX11_street 29 = .ok (.iload_n 2, 1) := by decide +kernel
theorem dX11_street_30 : decode cX11_street 30 = .ok (.if_icmp .eq 13, 3) := by decide +kernel
theorem dX11_street_33 : decode cX11_street 33 = .ok (.iload_n 3, 1) := by decide +kernel
theorem dX11_street_34 : decode cX11_street 34 = .ok (.iconst 1, 1) := by decide +kernel
theorem dX11_street_35 : decode cX11_street 35 = .ok (.bipush 20, 2) := by decide +kernel
theorem dX11_street_37 : decode cX11_street 37 = .ok (.invokestatic 74, 3) := by decide +kernel
theorem dX11_street_40 : decode cX11_street 40 = .ok (.ifCond .ne 10, 3) := by decide +kernel
theorem dX11_street_43 : decode cX11_street 43 = .ok (.aload_n 0, 1) := by decide +kernel
theorem dX11_street_44 : decode cX11_street 44 = .ok (.ldc 78, 2) := by decide +kernel
theorem dX11_street_46 : decode cX11_street 46 = .ok (.invokevirtual 62, 3) := by decide +kernel
theorem dX11_street_49 : decode cX11_street 49 = .ok (.ireturn, 1) := by decide +kernel
theorem dX11_street_50 : decode cX11_street 50 = .ok (.aload_n 0, 1) := by decide +kernel
theorem dX11_street_51 : decode cX11_street 51 = .ok (.getfield 10, 3) := by decide +kernel
theorem dX11_street_54 : decode cX11_street 54 = .ok (.getfield 51, 3) := by decide +kernel
theorem dX11_street_57 : decode cX11_street 57 = .ok (.getfield 79, 3) := by decide +kernel
theorem dX11_street_60 : decode cX11_street 60 = .ok (.bipush 14, 2) := by decide +kernel
theorem dX11_street_62 : decode cX11_street 62 = .ok (.if_icmp .lt 10, 3) := by decide +kernel
theorem dX11_street_65 : decode cX11_street 65 = .ok (.aload_n 0, 1) := by decide +kernel
theorem dX11_street_66 : decode cX11_street 66 = .ok (.ldc 61, 2) := by decide +kernel
theorem dX11_street_68 : decode cX11_street 68 = .ok (.invokevirtual 62, 3) := by decide +kernel
theorem dX11_street_71 : decode cX11_street 71 = .ok (.ireturn, 1) := by decide +kernel
theorem dX11_street_72 : decode cX11_street 72 = .ok (.aload_n 0, 1) := by decide +kernel
theorem dX11_street_73 : decode cX11_street 73 = .ok (.invokevirtual 82, 3) := by decide +kernel
theorem dX11_street_76 : decode cX11_street 76 = .ok (.aload_n 0, 1) := by decide +kernel
theorem dX11_street_77 : decode cX11_street 77 = .ok (.getfield 10, 3) := by decide +kernel
theorem dX11_street_80 : decode cX11_street 80 = .ok (.getfield 51, 3) := by decide +kernel
theorem dX11_street_83 : decode cX11_street 83 = .ok (.iload_n 1, 1) := by decide +kernel
theorem dX11_street_84 : decode cX11_street 84 = .ok (.iload_n 2, 1) := by decide +kernel
theorem dX11_street_85 : decode cX11_street 85 = .ok (.iload_n 3, 1) := by decide +kernel
theorem dX11_street_86 : decode cX11_street 86 = .ok (.invokevirtual 85, 3) := by decide +kernel
theorem dX11_street_89 : decode cX11_street 89 = .ok (.ireturn, 1) := by decide +kernel
theorem dX11_shut_0 : decode cX11_shut 0 = .ok (.iload_n 1, 1) := by decide +kernel
theorem dX11_shut_1 : decode cX11_shut 1 = .ok (.iconst 0, 1) := by decide +kernel
theorem dX11_shut_2 : decode cX11_shut 2 = .ok (.aload_n 0, 1) := by decide +kernel
theorem dX11_shut_3 : decode cX11_shut 3 = .ok (.getfield 10, 3) := by decide +kernel
theorem dX11_shut_6 : decode cX11_shut 6 = .ok (.getfield 51, 3) := by decide +kernel
theorem dX11_shut_9 : decode cX11_shut 9 = .ok (.getfield 79, 3) := by decide +kernel
theorem dX11_shut_12 : decode cX11_shut 12 = .ok (.iconst 1, 1) := by decide +kernel
theorem dX11_shut_13 : decode cX11_shut 13 = .ok (.isub, 1) := by decide +kernel
theorem dX11_shut_14 : decode cX11_shut 14 = .ok (.invokestatic 74, 3) := by decide +kernel
theorem dX11_shut_17 : decode cX11_shut 17 = .ok (.ifCond .ne 10, 3) := by decide +kernel
theorem dX11_shut_20 : decode cX11_shut 20 = .ok (.aload_n 0, 1) := by decide +kernel
theorem dX11_shut_21 : decode cX11_shut 21 = .ok (.ldc 78, 2) := by decide +kernel
theorem dX11_shut_23 : decode cX11_shut 23 = .ok (.invokevirtual 62, 3) := by decide +kernel
theorem dX11_shut_26 : decode cX11_shut 26 = .ok (.ireturn, 1) := by decide +kernel
theorem dX11_shut_27 : decode cX11_shut 27 = .ok (.aload_n 0, 1) := by decide +kernel
theorem dX11_shut_28 : decode cX11_shut 28 = .ok (.getfield 10, 3) := by decide +kernel
theorem dX11_shut_31 : decode cX11_shut 31 = .ok (.getfield 51, 3) := by decide +kernel
theorem dX11_shut_34 : decode cX11_shut 34 = .ok (.iload_n 1, 1) := by decide +kernel
theorem dX11_shut_35 : decode cX11_shut 35 = .ok (.iload_n 2, 1) := by decide +kernel
theorem dX11_shut_36 : decode cX11_shut 36 = .ok (.invokevirtual 89, 3) := by decide +kernel
theorem dX11_shut_39 : decode cX11_shut 39 = .ok (.ifCond .ne 5, 3) := by decide +kernel
theorem dX11_shut_42 : decode cX11_shut 42 = .ok (.iconst 0, 1) := by decide +kernel
theorem dX11_shut_43 : decode cX11_shut 43 = .ok (.ireturn, 1) := by decide +kernel
theorem dX11_shut_44 : decode cX11_shut 44 = .ok (.aload_n 0, 1) := by decide +kernel
theorem dX11_shut_45 : decode cX11_shut 45 = .ok (.invokevirtual 82, 3) := by decide +kernel
theorem dX11_shut_48 : decode cX11_shut 48 = .ok (.iconst 1, 1) := by decide +kernel
theorem dX11_shut_49 : decode cX11_shut 49 = .ok (.ireturn, 1) := by decide +kernel
theorem dX11_far_0 : decode cX11_far 0 = .ok (.aload_n 0, 1) := by decide +kernel
theorem dX11_far_1 : decode cX11_far 1 = .ok (.getfield 10, 3) := by decide +kernel
theorem dX11_far_4 : decode cX11_far 4 = .ok (.getfield 51, 3) := by decide +kernel
theorem dX11_far_7 : decode cX11_far 7 = .ok (.iload_n 1, 1) := by decide +kernel
theorem dX11_far_8 : decode cX11_far 8 = .ok (.invokevirtual 70, 3) := by decide +kernel
theorem dX11_far_11 : decode cX11_far 11 = .ok (.ifCond .eq 17, 3) := by decide +kernel
theorem dX11_far_14 : decode cX11_far 14 = .ok (.aload_n 0, 1) := by decide +kernel
theorem dX11_far_15 : decode cX11_far 15 = .ok (.getfield 10, 3) := by decide +kernel
theorem dX11_far_18 : decode cX11_far 18 = .ok (.getfield 51, 3) := by decide +kernel
theorem dX11_far_21 : decode cX11_far 21 = .ok (.iload_n 2, 1) := by decide +kernel
theorem dX11_far_22 : decode cX11_far 22 = .ok (.invokevirtual 70, 3) := by decide +kernel
theorem dX11_far_25 : decode cX11_far 25 = .ok (.ifCond .ne 10, 3) := by decide +kernel
theorem dX11_far_28 : decode cX11_far 28 = .ok (.aload_n 0, 1) := by decide +kernel
theorem dX11_far_29 : decode cX11_far 29 = .ok (.ldc 78, 2) := by decide +kernel
theorem dX11_far_31 : decode cX11_far 31 = .ok (.invokevirtual 62, 3) := by decide +kernel
theorem dX11_far_34 : decode cX11_far 34 = .ok (.ireturn, 1) := by decide +kernel
theorem dX11_far_35 : decode cX11_far 35 = .ok (.aload_n 0, 1) := by decide +kernel
theorem dX11_far_36 : decode cX11_far 36 = .ok (.getfield 10, 3) := by decide +kernel
theorem dX11_far_39 : decode cX11_far 39 = .ok (.getfield 51, 3) := by decide +kernel
theorem dX11_far_42 : decode cX11_far 42 = .ok (.invokevirtual 93, 3) := by decide +kernel
theorem dX11_far_45 : decode cX11_far 45 = .ok (.iload_n 1, 1) := by decide +kernel
theorem dX11_far_46 : decode cX11_far 46 = .ok (.aaload, 1) := by decide +kernel
theorem dX11_far_47 : decode cX11_far 47 = .ok (.iload_n 2, 1) := by decide +kernel
theorem dX11_far_48 : decode cX11_far 48 = .ok (.iaload, 1) := by decide +kernel
theorem dX11_far_49 : decode cX11_far 49 = .ok (.istore_n 3, 1) := by decide +kernel
theorem dX11_far_50 : decode cX11_far 50 = .ok (.iload_n 3, 1) := by decide +kernel
theorem dX11_far_51 : decode cX11_far 51 = .ok (.ldc 97, 2) := by decide +kernel
theorem dX11_far_53 : decode cX11_far 53 = .ok (.if_icmp .lt 12, 3) := by decide +kernel
theorem dX11_far_56 : decode cX11_far 56 = .ok (.aload_n 0, 1) := by decide +kernel
theorem dX11_far_57 : decode cX11_far 57 = .ok (.ldc 98, 2) := by decide +kernel
theorem dX11_far_59 : decode cX11_far 59 = .ok (.invokevirtual 62, 3) := by decide +kernel
theorem dX11_far_62 : decode cX11_far 62 = .ok (.goto 4, 3) := by decide +kernel
theorem dX11_far_65 : decode cX11_far 65 = .ok (.iload_n 3, 1) := by decide +kernel
theorem dX11_far_66 : decode cX11_far 66 = .ok (.ireturn, 1) := by decide +kernel
theorem dX11_school_0 : decode cX11_school 0 = .ok (.iload_n 1, 1) := by decide +kernel
theorem dX11_school_1 : decode cX11_school 1 = .ok (.iconst 0, 1) := by decide +kernel
theorem dX11_school_2 : decode cX11_school 2 = .ok (.iconst 3, 1) := by decide +kernel
theorem dX11_school_3 : decode cX11_school 3 = .ok (.invokestatic 74, 3) := by decide +kernel
theorem dX11_school_6 : decode cX11_school 6 = .ok (.ifCond .eq 17, 3) := by decide +kernel
theorem dX11_school_9 : decode cX11_school 9 = .ok (.aload_n 0, 1) := by decide +kernel
theorem dX11_school_10 : decode cX11_school 10 = .ok (.getfield 10, 3) := by decide +kernel
theorem dX11_school_13 : decode cX11_school 13 = .ok (.getfield 51, 3) := by decide +kernel
theorem dX11_school_16 : decode cX11_school 16 = .ok (.iload_n 2, 1) := by decide +kernel
theorem dX11_school_17 : decode cX11_school 17 = .ok (.invokevirtual 70, 3) := by decide +kernel
theorem dX11_school_20 : decode cX11_school 20 = .ok (.ifCond .ne 10, 3) := by decide +kernel
theorem dX11_school_23 : decode cX11_school 23 = .ok (.aload_n 0, 1) := by decide +kernel
theorem dX11_school_24 : decode cX11_school 24 = .ok (.ldc 78, 2) := by decide +kernel
theorem dX11_school_26 : decode cX11_school 26 = .ok (.invokevirtual 62, 3) := by decide +kernel
theorem dX11_school_29 : decode cX11_school 29 = .ok (.ireturn, 1) := by decide +kernel
theorem dX11_school_30 : decode cX11_school 30 = .ok (.aload_n 0, 1) := by decide +kernel
theorem dX11_school_31 : decode cX11_school 31 = .ok (.getfield 10, 3) := by decide +kernel
theorem dX11_school_34 : decode cX11_school 34 = .ok (.getfield 99, 3) := by decide +kernel
theorem dX11_school_37 : decode cX11_school 37 = .ok (.iconst 4, 1) := by decide +kernel
theorem dX11_school_38 : decode cX11_school 38 = .ok (.if_icmp .lt 10, 3) := by decide +kernel
theorem dX11_school_41 : decode cX11_school 41 = .ok (.aload_n 0, 1) := by decide +kernel
theorem dX11_school_42 : decode cX11_school 42 = .ok (.ldc 61, 2) := by decide +kernel
theorem dX11_school_44 : decode cX11_school 44 = .ok (.invokevirtual 62, 3) := by decide +kernel
theorem dX11_school_47 : decode cX11_school 47 = .ok (.ireturn, 1) := by decide +kernel
theorem dX11_school_48 : decode cX11_school 48 = .ok (.aload_n 0, 1) := by decide +kernel
theorem dX11_school_49 : decode cX11_school 49 = .ok (.invokevirtual 82, 3) := by decide +kernel
theorem dX11_school_52 : decode cX11_school 52 = .ok (.aload_n 0, 1) := by decide +kernel
theorem dX11_school_53 : decode cX11_school 53 = .ok (.getfield 10, 3) := by decide +kernel
theorem dX11_school_56 : decode cX11_school 56 = .ok (.iload_n 1, 1) := by decide +kernel
theorem dX11_school_57 : decode cX11_school 57 = .ok (.iload_n 2, 1) := by decide +kernel
theorem dX11_school_58 : decode cX11_school 58 = .ok (.invokevirtual 102, 3) := by decide +kernel
theorem dX11_school_61 : decode cX11_school 61 = .ok (.ireturn, 1) := by decide +kernel
theorem dX11_as_0 : decode cX11_as 0 = .ok (.aload_n 0, 1) := by decide +kernel
theorem dX11_as_1 : decode cX11_as 1 = .ok (.getfield 10, 3) := by decide +kernel
theorem dX11_as_4 : decode cX11_as 4 = .ok (.iload_n 1, 1) := by decide +kernel
theorem dX11_as_5 : decode cX11_as 5 = .ok (.invokevirtual 106, 3) := by decide +kernel
theorem dX11_as_8 : decode cX11_as 8 = .ok (.ifCond .eq 12, 3) := by decide +kernel
theorem dX11_as_11 : decode cX11_as 11 = .ok (.iload_n 2, 1) := by decide +kernel
theorem dX11_as_12 : decode cX11_as 12 = .ok (.iconst 0, 1) := by decide +kernel
theorem dX11_as_13 : decode cX11_as 13 = .ok (.iconst 3, 1) := by decide +kernel
theorem dX11_as_14 : decode cX11_as 14 = .ok (.invokestatic 74, 3) := by decide +kernel
theorem dX11_as_17 : decode cX11_as 17 = .ok (.ifCond .ne 10, 3) := by decide +kernel
theorem dX11_as_20 : decode cX11_as 20 = .ok (.aload_n 0, 1) := by decide +kernel
theorem dX11_as_21 : decode cX11_as 21 = .ok (.ldc 78, 2) := by decide +kernel
theorem dX11_as_23 : decode cX11_as 23 = .ok (.invokevirtual 62, 3) := by decide +kernel
theorem dX11_as_26 : decode cX11_as 26 = .ok (.ireturn, 1) := by decide +kernel
theorem dX11_as_27 : decode cX11_as 27 = .ok (.aload_n 0, 1) := by decide +kernel
theorem dX11_as_28 : decode cX11_as 28 = .ok (.getfield 10, 3) := by decide +kernel
theorem dX11_as_31 : decode cX11_as 31 = .ok (.getfield 109, 3) := by decide +kernel
theorem dX11_as_34 : decode cX11_as 34 = .ok (.iload_n 1, 1) := by decide +kernel
theorem dX11_as_35 : decode cX11_as 35 = .ok (.aaload, 1) := by decide +kernel
theorem dX11_as_36 : decode cX11_as 36 = .ok (.getfield 113, 3) := by decide +kernel
theorem dX11_as_39 : decode cX11_as 39 = .ok (.iload_n 2, 1) := by decide +kernel
theorem dX11_as_40 : decode cX11_as 40 = .ok (.invokestatic 118, 3) := by decide +kernel
theorem dX11_as_43 : decode cX11_as 43 = .ok (.ifCond .eq 7, 3) := by decide +kernel
theorem dX11_as_46 : decode cX11_as 46 = .ok (.iload_n 1, 1) := by decide +kernel
theorem dX11_as_47 : decode cX11_as 47 = .ok (.goto 9, 3) := by decide +kernel
theorem dX11_as_50 : decode cX11_as 50 = .ok (.aload_n 0, 1) := by decide +kernel
theorem dX11_as_51 : decode cX11_as 51 = .ok (.ldc 122, 2) := by decide +kernel
theorem dX11_as_53 : decode cX11_as 53 = .ok (.invokevirtual 62, 3) := by decide +kernel
theorem dX11_as_56 : decode cX11_as 56 = .ok (.ireturn, 1) := by decide +kernel
theorem dX11_of_0 : decode cX11_of 0 = .ok (.aload_n 0, 1) := by decide +kernel
theorem dX11_of_1 : decode cX11_of 1 = .ok (.getfield 10, 3) := by decide +kernel
theorem dX11_of_4 : decode cX11_of 4 = .ok (.iload_n 1, 1) := by decide +kernel
theorem dX11_of_5 : decode cX11_of 5 = .ok (.invokevirtual 106, 3) := by decide +kernel
theorem dX11_of_8 : decode cX11_of 8 = .ok (.ifCond .ne 10, 3) := by decide +kernel
theorem dX11_of_11 : decode cX11_of 11 = .ok (.aload_n 0, 1) := by decide +kernel
theorem dX11_of_12 : decode cX11_of 12 = .ok (.ldc 78, 2) := by decide +kernel
theorem dX11_of_14 : decode cX11_of 14 = .ok (.invokevirtual 62, 3) := by decide +kernel
theorem dX11_of_17 : decode cX11_of 17 = .ok (.ireturn, 1) := by decide +kernel
theorem dX11_of_18 : decode cX11_of 18 = .ok (.iload_n 2, 1) := by decide +kernel
theorem dX11_of_19 : decode cX11_of 19 = .ok (.tableswitch 117 0 6 #[41, 54, 67, 77, 90, 99, 108], 41) := by decide +kernel
theorem dX11_of_60 : decode cX11_of 60 = .ok (.aload_n 0, 1) := by decide +kernel
theorem dX11_of_61 : decode cX11_of 61 = .ok (.getfield 10, 3) := by decide +kernel
theorem dX11_of_64 : decode cX11_of 64 = .ok (.getfield 109, 3) := by decide +kernel
theorem dX11_of_67 : decode cX11_of 67 = .ok (.iload_n 1, 1) := by decide +kernel
theorem dX11_of_68 : decode cX11_of 68 = .ok (.aaload, 1) := by decide +kernel
theorem dX11_of_69 : decode cX11_of 69 = .ok (.getfield 113, 3) := by decide +kernel
theorem dX11_of_72 : decode cX11_of 72 = .ok (.ireturn, 1) := by decide +kernel
theorem dX11_of_73 : decode cX11_of 73 = .ok (.aload_n 0, 1) := by decide +kernel
theorem dX11_of_74 : decode cX11_of 74 = .ok (.getfield 10, 3) := by decide +kernel
theorem dX11_of_77 : decode cX11_of 77 = .ok (.getfield 109, 3) := by decide +kernel
theorem dX11_of_80 : decode cX11_of 80 = .ok (.iload_n 1, 1) := by decide +kernel
theorem dX11_of_81 : decode cX11_of 81 = .ok (.aaload, 1) := by decide +kernel
theorem dX11_of_82 : decode cX11_of 82 = .ok (.getfield 123, 3) := by decide +kernel
theorem dX11_of_85 : decode cX11_of 85 = .ok (.ireturn, 1) := by decide +kernel
theorem dX11_of_86 : decode cX11_of 86 = .ok (.aload_n 0, 1) := by decide +kernel
theorem dX11_of_87 : decode cX11_of 87 = .ok (.getfield 10, 3) := by decide +kernel
theorem dX11_of_90 : decode cX11_of 90 = .ok (.getfield 126, 3) := by decide +kernel
theorem dX11_of_93 : decode cX11_of 93 = .ok (.iload_n 1, 1) := by decide +kernel
theorem dX11_of_94 : decode cX11_of 94 = .ok (.iaload, 1) := by decide +kernel
theorem dX11_of_95 : decode cX11_of 95 = .ok (.ireturn, 1) := by decide +kernel
theorem dX11_of_96 : decode cX11_of 96 = .ok (.aload_n 0, 1) := by decide +kernel
theorem dX11_of_97 : decode cX11_of 97 = .ok (.getfield 10, 3) := by decide +kernel
theorem dX11_of_100 : decode cX11_of 100 = .ok (.getfield 109, 3) := by decide +kernel
theorem dX11_of_103 : decode cX11_of 103 = .ok (.iload_n 1, 1) := by decide +kernel
theorem dX11_of_104 : decode cX11_of 104 = .ok (.aaload, 1) := by decide +kernel
theorem dX11_of_105 : decode cX11_of 105 = .ok (.getfield 130, 3) := by decide +kernel
theorem dX11_of_108 : decode cX11_of 108 = .ok (.ireturn, 1) := by decide +kernel
theorem dX11_of_109 : decode cX11_of 109 = .ok (.aload_n 0, 1) := by decide +kernel
theorem dX11_of_110 : decode cX11_of 110 = .ok (.getfield 10, 3) := by decide +kernel
theorem dX11_of_113 : decode cX11_of 113 = .ok (.iload_n 1, 1) := by decide +kernel
theorem dX11_of_114 : decode cX11_of 114 = .ok (.invokevirtual 133, 3) := by decide +kernel
theorem dX11_of_117 : decode cX11_of 117 = .ok (.ireturn, 1) := by decide +kernel
theorem dX11_of_118 : decode cX11_of 118 = .ok (.aload_n 0, 1) := by decide +kernel
theorem dX11_of_119 : decode cX11_of 119 = .ok (.getfield 10, 3) := by decide +kernel
theorem dX11_of_122 : decode cX11_of 122 = .ok (.iload_n 1, 1) := by decide +kernel
theorem dX11_of_123 : decode cX11_of 123 = .ok (.invokevirtual 136, 3) := by decide +kernel
theorem dX11_of_126 : decode cX11_of 126 = .ok (.ireturn, 1) := by decide +kernel
theorem dX11_of_127 : decode cX11_of 127 = .ok (.aload_n 0, 1) := by decide +kernel
theorem dX11_of_128 : decode cX11_of 128 = .ok (.getfield 10, 3) := by decide +kernel
theorem dX11_of_131 : decode cX11_of 131 = .ok (.iload_n 1, 1) := by decide +kernel
theorem dX11_of_132 : decode cX11_of 132 = .ok (.invokevirtual 139, 3) := by decide +kernel
theorem dX11_of_135 : decode cX11_of 135 = .ok (.ireturn, 1) := by decide +kernel
theorem dX11_of_136 : decode cX11_of 136 = .ok (.aload_n 0, 1) := by decide +kernel
theorem dX11_of_137 : decode cX11_of 137 = .ok (.ldc 78, 2) := by decide +kernel
theorem dX11_of_139 : decode cX11_of 139 = .ok (.invokevirtual 62, 3) := by decide +kernel
theorem dX11_of_142 : decode cX11_of 142 = .ok (.ireturn, 1) := by decide +kernel
theorem dX11_bell_0 : decode cX11_bell 0 = .ok (.aload_n 0, 1) := by decide +kernel
theorem dX11_bell_1 : decode cX11_bell 1 = .ok (.getfield 10, 3) := by decide +kernel
theorem dX11_bell_4 : decode cX11_bell 4 = .ok (.iload_n 1, 1) := by decide +kernel
theorem dX11_bell_5 : decode cX11_bell 5 = .ok (.invokevirtual 106, 3) := by decide +kernel
theorem dX11_bell_8 : decode cX11_bell 8 = .ok (.ifCond .eq 13, 3) := by decide +kernel
theorem dX11_bell_11 : decode cX11_bell 11 = .ok (.iload_n 2, 1) := by decide +kernel
theorem dX11_bell_12 : decode cX11_bell 12 = .ok (.iconst 0, 1) := by decide +kernel
theorem dX11_bell_13 : decode cX11_bell 13 = .ok (.bipush 6, 2) := by decide +kernel
theorem dX11_bell_15 : decode cX11_bell 15 = .ok (.invokestatic 74, 3) := by decide +kernel
theorem dX11_bell_18 : decode cX11_bell 18 = .ok (.ifCond .ne 10, 3) := by decide +kernel
theorem dX11_bell_21 : decode cX11_bell 21 = .ok (.aload_n 0, 1) := by decide +kernel
theorem dX11_bell_22 : decode cX11_bell 22 = .ok (.ldc 78, 2) := by decide +kernel
theorem dX11_bell_24 : decode cX11_bell 24 = .ok (.invokevirtual 62, 3) := by decide +kernel
theorem dX11_bell_27 : decode cX11_bell 27 = .ok (.ireturn, 1) := by decide +kernel
theorem dX11_bell_28 : decode cX11_bell 28 = .ok (.aload_n 0, 1) := by decide +kernel
theorem dX11_bell_29 : decode cX11_bell 29 = .ok (.getfield 10, 3) := by decide +kernel
theorem dX11_bell_32 : decode cX11_bell 32 = .ok (.getfield 126, 3) := by decide +kernel
theorem dX11_bell_35 : decode cX11_bell 35 = .ok (.iload_n 1, 1) := by decide +kernel
theorem dX11_bell_36 : decode cX11_bell 36 = .ok (.iaload, 1) := by decide +kernel
theorem dX11_bell_37 : decode cX11_bell 37 = .ok (.istore_n 3, 1) := by decide +kernel
theorem dX11_bell_38 : decode cX11_bell 38 = .ok (.aload_n 0, 1) := by decide +kernel
theorem dX11_bell_39 : decode cX11_bell 39 = .ok (.getfield 10, 3) := by decide +kernel
theorem dX11_bell_42 : decode cX11_bell 42 = .ok (.getfield 126, 3) := by decide +kernel
theorem dX11_bell_45 : decode cX11_bell 45 = .ok (.iload_n 1, 1) := by decide +kernel
theorem dX11_bell_46 : decode cX11_bell 46 = .ok (.iload_n 2, 1) := by decide +kernel
theorem dX11_bell_47 : decode cX11_bell 47 = .ok (.iastore, 1) := by decide +kernel
theorem dX11_bell_48 : decode cX11_bell 48 = .ok (.aload_n 0, 1) := by decide +kernel
theorem dX11_bell_49 : decode cX11_bell 49 = .ok (.iconst 0, 1) := by decide +kernel
theorem dX11_bell_50 : decode cX11_bell 50 = .ok (.putfield 142, 3) := by decide +kernel
theorem dX11_bell_53 : decode cX11_bell 53 = .ok (.iload_n 3, 1) := by decide +kernel
theorem dX11_bell_54 : decode cX11_bell 54 = .ok (.ireturn, 1) := by decide +kernel
theorem dX11_wish_0 : decode cX11_wish 0 = .ok (.aload_n 0, 1) := by decide +kernel
theorem dX11_wish_1 : decode cX11_wish 1 = .ok (.getfield 10, 3) := by decide +kernel
theorem dX11_wish_4 : decode cX11_wish 4 = .ok (.iload_n 1, 1) := by decide +kernel
theorem dX11_wish_5 : decode cX11_wish 5 = .ok (.invokevirtual 106, 3) := by decide +kernel
theorem dX11_wish_8 : decode cX11_wish 8 = .ok (.ifCond .eq 13, 3) := by decide +kernel
theorem dX11_wish_11 : decode cX11_wish 11 = .ok (.iload_n 2, 1) := by decide +kernel
theorem dX11_wish_12 : decode cX11_wish 12 = .ok (.iconst 0, 1) := by decide +kernel
theorem dX11_wish_13 : decode cX11_wish 13 = .ok (.bipush 6, 2) := by decide +kernel
theorem dX11_wish_15 : decode cX11_wish 15 = .ok (.invokestatic 74, 3) := by decide +kernel
theorem dX11_wish_18 : decode cX11_wish 18 = .ok (.ifCond .ne 10, 3) := by decide +kernel
theorem dX11_wish_21 : decode cX11_wish 21 = .ok (.aload_n 0, 1) := by decide +kernel
theorem dX11_wish_22 : decode cX11_wish 22 = .ok (.ldc 78, 2) := by decide +kernel
theorem dX11_wish_24 : decode cX11_wish 24 = .ok (.invokevirtual 62, 3) := by decide +kernel
theorem dX11_wish_27 : decode cX11_wish 27 = .ok (.ireturn, 1) := by decide +kernel
theorem dX11_wish_28 : decode cX11_wish 28 = .ok (.aload_n 0, 1) := by decide +kernel
theorem dX11_wish_29 : decode cX11_wish 29 = .ok (.getfield 10, 3) := by decide +kernel
theorem dX11_wish_32 : decode cX11_wish 32 = .ok (.getfield 109, 3) := by decide +kernel
theorem dX11_wish_35 : decode cX11_wish 35 = .ok (.iload_n 1, 1) := by decide +kernel
theorem dX11_wish_36 : decode cX11_wish 36 = .ok (.aaload, 1) := by decide +kernel
theorem dX11_wish_37 : decode cX11_wish 37 = .ok (.getfield 130, 3) := by decide +kernel
theorem dX11_wish_40 : decode cX11_wish 40 = .ok (.istore_n 3, 1) := by decide +kernel
theorem dX11_wish_41 : decode cX11_wish 41 = .ok (.aload_n 0, 1) := by decide +kernel
theorem dX11_wish_42 : decode cX11_wish 42 = .ok (.getfield 10, 3) := by decide +kernel
theorem dX11_wish_45 : decode cX11_wish 45 = .ok (.getfield 109, 3) := by decide +kernel
theorem dX11_wish_48 : decode cX11_wish 48 = .ok (.iload_n 1, 1) := by decide +kernel
theorem dX11_wish_49 : decode cX11_wish 49 = .ok (.aaload, 1) := by decide +kernel
theorem dX11_wish_50 : decode cX11_wish 50 = .ok (.iload_n 2, 1) := by decide +kernel
theorem dX11_wish_51 : decode cX11_wish 51 = .ok (.putfield 130, 3) := by decide +kernel
theorem dX11_wish_54 : decode cX11_wish 54 = .ok (.aload_n 0, 1) := by decide +kernel
theorem dX11_wish_55 : decode cX11_wish 55 = .ok (.iconst 0, 1) := by decide +kernel
theorem dX11_wish_56 : decode cX11_wish 56 = .ok (.putfield 146, 3) := by decide +kernel
theorem dX11_wish_59 : decode cX11_wish 59 = .ok (.iload_n 3, 1) := by decide +kernel
theorem dX11_wish_60 : decode cX11_wish 60 = .ok (.ireturn, 1) := by decide +kernel
theorem dX11_stop_0 : decode cX11_stop 0 = .ok (.aload_n 0, 1) := by decide +kernel
theorem dX11_stop_1 : decode cX11_stop 1 = .ok (.getfield 10, 3) := by decide +kernel
theorem dX11_stop_4 : decode cX11_stop 4 = .ok (.iload_n 1, 1) := by decide +kernel
theorem dX11_stop_5 : decode cX11_stop 5 = .ok (.invokevirtual 106, 3) := by decide +kernel
theorem dX11_stop_8 : decode cX11_stop 8 = .ok (.ifCond .eq 37, 3) := by decide +kernel
theorem dX11_stop_11 : decode cX11_stop 11 = .ok (.aload_n 0, 1) := by decide +kernel
theorem dX11_stop_12 : decode cX11_stop 12 = .ok (.getfield 10, 3) := by decide +kernel
theorem dX11_stop_15 : decode cX11_stop 15 = .ok (.getfield 51, 3) := by decide +kernel
theorem dX11_stop_18 : decode cX11_stop 18 = .ok (.iload_n 2, 1) := by decide +kernel
theorem dX11_stop_19 : decode cX11_stop 19 = .ok (.invokevirtual 70, 3) := by decide +kernel
theorem dX11_stop_22 : decode cX11_stop 22 = .ok (.ifCond .eq 23, 3) := by decide +kernel
theorem dX11_stop_25 : decode cX11_stop 25 = .ok (.iload_n 3, 1) := by decide +kernel
theorem dX11_stop_26 : decode cX11_stop 26 = .ok (.iconst 1, 1) := by decide +kernel
theorem dX11_stop_27 : decode cX11_stop 27 = .ok (.bipush 30, 2) := by decide +kernel
theorem dX11_stop_29 : decode cX11_stop 29 = .ok (.invokestatic 74, 3) := by decide +kernel
theorem dX11_stop_32 : decode cX11_stop 32 = .ok (.ifCond .eq 13, 3) := by decide +kernel
theorem dX11_stop_35 : decode cX11_stop 35 = .ok (.iload 4, 2) := by decide +kernel
theorem dX11_stop_37 : decode cX11_stop 37 = .ok (.iconst 0, 1) := by decide +kernel
theorem dX11_stop_38 : decode cX11_stop 38 = .ok (.iconst 3, 1) := by decide +kernel
theorem dX11_stop_39 : decode cX11_stop 39 = .ok (.invokestatic 74, 3) := by decide +kernel
theorem dX11_stop_42 : decode cX11_stop 42 = .ok (.ifCond .ne 10, 3) := by decide +kernel
theorem dX11_stop_45 : decode cX11_stop 45 = .ok (.aload_n 0, 1) := by decide +kernel
theorem dX11_stop_46 : decode cX11_stop 46 = .ok (.ldc 78, 2) := by decide +kernel
theorem dX11_stop_48 : decode cX11_stop 48 = .ok (.invokevirtual 62, 3) := by decide +kernel
theorem dX11_stop_51 : decode cX11_stop 51 = .ok (.ireturn, 1) := by decide +kernel
theorem dX11_stop_52 : decode cX11_stop 52 = .ok (.aload_n 0, 1) := by decide +kernel
theorem dX11_stop_53 : decode cX11_stop 53 = .ok (.getfield 10, 3) := by decide +kernel
theorem dX11_stop_56 : decode cX11_stop 56 = .ok (.getfield 149, 3) := by decide +kernel
theorem dX11_stop_59 : decode cX11_stop 59 = .ok (.bipush 10, 2) := by decide +kernel
theorem dX11_stop_61 : decode cX11_stop 61 = .ok (.if_icmp .lt 10, 3) := by decide +kernel
theorem dX11_stop_64 : decode cX11_stop 64 = .ok (.aload_n 0, 1) := by decide +kernel
theorem dX11_stop_65 : decode cX11_stop 65 = .ok (.ldc 61, 2) := by decide +kernel
theorem dX11_stop_67 : decode cX11_stop 67 = .ok (.invokevirtual 62, 3) := by decide +kernel
theorem dX11_stop_70 : decode cX11_stop 70 = .ok (.ireturn, 1) := by decide +kernel
theorem dX11_stop_71 : decode cX11_stop 71 = .ok (.aload_n 0, 1) := by decide +kernel
theorem dX11_stop_72 : decode cX11_stop 72 = .ok (.invokevirtual 82, 3) := by decide +kernel
theorem dX11_stop_75 : decode cX11_stop 75 = .ok (.aload_n 0, 1) := by decide +kernel
theorem dX11_stop_76 : decode cX11_stop 76 = .ok (.getfield 10, 3) := by decide +kernel
theorem dX11_stop_79 : decode cX11_stop 79 = .ok (.iload_n 1, 1) := by decide +kernel
theorem dX11_stop_80 : decode cX11_stop 80 = .ok (.iload_n 2, 1) := by decide +kernel
theorem dX11_stop_81 : decode cX11_stop 81 = .ok (.iload_n 3, 1) := by decide +kernel
theorem dX11_stop_82 : decode cX11_stop 82 = .ok (.iload 4, 2) := by decide +kernel
theorem dX11_stop_84 : decode cX11_stop 84 = .ok (.invokevirtual 152, 3) := by decide +kernel
theorem dX11_stop_87 : decode cX11_stop 87 = .ok (.ireturn, 1) := by decide +kernel
theorem dX11_pupils_0 : decode cX11_pupils 0 = .ok (.aload_n 0, 1) := by decide +kernel
theorem dX11_pupils_1 : decode cX11_pupils 1 = .ok (.getfield 10, 3) := by decide +kernel
theorem dX11_pupils_4 : decode cX11_pupils 4 = .ok (.iload_n 1, 1) := by decide +kernel
theorem dX11_pupils_5 : decode cX11_pupils 5 = .ok (.invokevirtual 156, 3) := by decide +kernel
theorem dX11_pupils_8 : decode cX11_pupils 8 = .ok (.ifCond .eq 13, 3) := by decide +kernel
theorem dX11_pupils_11 : decode cX11_pupils 11 = .ok (.iload_n 2, 1) := by decide +kernel
theorem dX11_pupils_12 : decode cX11_pupils 12 = .ok (.iconst 1, 1) := by decide +kernel
theorem dX11_pupils_13 : decode cX11_pupils 13 = .ok (.bipush 30, 2) := by decide +kernel
theorem dX11_pupils_15 : decode cX11_pupils 15 = .ok (.invokestatic 74, 3) := by decide +kernel
theorem dX11_pupils_18 : decode cX11_pupils 18 = .ok (.ifCond .ne 10, 3) := by decide +kernel
theorem dX11_pupils_21 : decode cX11_pupils 21 = .ok (.aload_n 0, 1) := by decide +kernel
theorem dX11_pupils_22 : decode cX11_pupils 22 = .ok (.ldc 78, 2) := by decide +kernel
theorem dX11_pupils_24 : decode cX11_pupils 24 = .ok (.invokevirtual 62, 3) := by decide +kernel
theorem dX11_pupils_27 : decode cX11_pupils 27 = .ok (.ireturn, 1) := by decide +kernel
theorem dX11_pupils_28 : decode cX11_pupils 28 = .ok (.aload_n 0, 1) := by decide +kernel
theorem dX11_pupils_29 : decode cX11_pupils 29 = .ok (.getfield 10, 3) := by decide +kernel
theorem dX11_pupils_32 : decode cX11_pupils 32 = .ok (.getfield 159, 3) := by decide +kernel
theorem dX11_pupils_35 : decode cX11_pupils 35 = .ok (.iload_n 1, 1) := by decide +kernel
theorem dX11_pupils_36 : decode cX11_pupils 36 = .ok (.aaload, 1) := by decide +kernel
theorem dX11_pupils_37 : decode cX11_pupils 37 = .ok (.getfield 163, 3) := by decide +kernel
theorem dX11_pupils_40 : decode cX11_pupils 40 = .ok (.istore_n 3, 1) := by decide +kernel
theorem dX11_pupils_41 : decode cX11_pupils 41 = .ok (.aload_n 0, 1) := by decide +kernel
theorem dX11_pupils_42 : decode cX11_pupils 42 = .ok (.getfield 10, 3) := by decide +kernel
theorem dX11_pupils_45 : decode cX11_pupils 45 = .ok (.getfield 159, 3) := by decide +kernel
theorem dX11_pupils_48 : decode cX11_pupils 48 = .ok (.iload_n 1, 1) := by decide +kernel
theorem dX11_pupils_49 : decode cX11_pupils 49 = .ok (.aaload, 1) := by decide +kernel
theorem dX11_pupils_50 : decode cX11_pupils 50 = .ok (.iload_n 2, 1) := by decide +kernel
theorem dX11_pupils_51 : decode cX11_pupils 51 = .ok (.putfield 163, 3) := by decide +kernel
theorem dX11_pupils_54 : decode cX11_pupils 54 = .ok (.aload_n 0, 1) := by decide +kernel
theorem dX11_pupils_55 : decode cX11_pupils 55 = .ok (.invokevirtual 82, 3) := by decide +kernel
theorem dX11_pupils_58 : decode cX11_pupils 58 = .ok (.iload_n 3, 1) := by decide +kernel
theorem dX11_pupils_59 : decode cX11_pupils 59 = .ok (.ireturn, 1) := by decide +kernel
theorem dX11_gone_0 : decode cX11_gone 0 = .ok (.aload_n 0, 1) := by decide +kernel
theorem dX11_gone_1 : decode cX11_gone 1 = .ok (.getfield 10, 3) := by decide +kernel
theorem dX11_gone_4 : decode cX11_gone 4 = .ok (.iload_n 1, 1) := by decide +kernel
theorem dX11_gone_5 : decode cX11_gone 5 = .ok (.invokevirtual 156, 3) := by decide +kernel
theorem dX11_gone_8 : decode cX11_gone 8 = .ok (.ifCond .ne 10, 3) := by decide +kernel
theorem dX11_gone_11 : decode cX11_gone 11 = .ok (.aload_n 0, 1) := by decide +kernel
theorem dX11_gone_12 : decode cX11_gone 12 = .ok (.ldc 78, 2) := by decide +kernel
theorem dX11_gone_14 : decode cX11_gone 14 = .ok (.invokevirtual 62, 3) := by decide +kernel
theorem dX11_gone_17 : decode cX11_gone 17 = .ok (.ireturn, 1) := by decide +kernel
theorem dX11_gone_18 : decode cX11_gone 18 = .ok (.aload_n 0, 1) := by decide +kernel
theorem dX11_gone_19 : decode cX11_gone 19 = .ok (.invokevirtual 82, 3) := by decide +kernel
theorem dX11_gone_22 : decode cX11_gone 22 = .ok (.aload_n 0, 1) := by decide +kernel
theorem dX11_gone_23 : decode cX11_gone 23 = .ok (.getfield 10, 3) := by decide +kernel
theorem dX11_gone_26 : decode cX11_gone 26 = .ok (.iload_n 1, 1) := by decide +kernel
theorem dX11_gone_27 : decode cX11_gone 27 = .ok (.invokevirtual 168, 3) := by decide +kernel
theorem dX11_gone_30 : decode cX11_gone 30 = .ok (.aload_n 0, 1) := by decide +kernel
theorem dX11_gone_31 : decode cX11_gone 31 = .ok (.getfield 10, 3) := by decide +kernel
theorem dX11_gone_34 : decode cX11_gone 34 = .ok (.getfield 149, 3) := by decide +kernel
theorem dX11_gone_37 : decode cX11_gone 37 = .ok (.ireturn, 1) := by decide +kernel
theorem dX11_terms_0 : decode cX11_terms 0 = .ok (.iload_n 1, 1) := by decide +kernel
theorem dX11_terms_1 : decode cX11_terms 1 = .ok (.iconst 1, 1) := by decide +kernel
theorem dX11_terms_2 : decode cX11_terms 2 = .ok (.bipush 60, 2) := by decide +kernel
theorem dX11_terms_4 : decode cX11_terms 4 = .ok (.invokestatic 74, 3) := by decide +kernel
theorem dX11_terms_7 : decode cX11_terms 7 = .ok (.ifCond .eq 23, 3) := by decide +kernel
theorem dX11_terms_10 : decode cX11_terms 10 = .ok (.iload_n 2, 1) := by decide +kernel
theorem dX11_terms_11 : decode cX11_terms 11 = .ok (.iconst 1, 1) := by decide +kernel
theorem dX11_terms_12 : decode cX11_terms 12 = .ok (.bipush 90, 2) := by decide +kernel
theorem dX11_terms_14 : decode cX11_terms 14 = .ok (.invokestatic 74, 3) := by decide +kernel
theorem dX11_terms_17 : decode cX11_terms 17 = .ok (.ifCond .eq 13, 3) := by decide +kernel
theorem dX11_terms_20 : decode cX11_terms 20 = .ok (.iload_n 3, 1) := by decide +kernel
theorem dX11_terms_21 : decode cX11_terms 21 = .ok (.iconst 0, 1) := by decide +kernel
theorem dX11_terms_22 : decode cX11_terms 22 = .ok (.bipush 30, 2) := by decide +kernel
theorem dX11_terms_24 : decode cX11_terms 24 = .ok (.invokestatic 74, 3) := by decide +kernel
theorem dX11_terms_27 : decode cX11_terms 27 = .ok (.ifCond .ne 10, 3) := by decide +kernel
theorem dX11_terms_30 : decode cX11_terms 30 = .ok (.aload_n 0, 1) := by decide +kernel
theorem dX11_terms_31 : decode cX11_terms 31 = .ok (.ldc 78, 2) := by decide +kernel
theorem dX11_terms_33 : decode cX11_terms 33 = .ok (.invokevirtual 62, 3) := by decide +kernel
theorem dX11_terms_36 : decode cX11_terms 36 = .ok (.ireturn, 1) := by decide +kernel
theorem dX11_terms_37 : decode cX11_terms 37 = .ok (.aload_n 0, 1) := by decide +kernel
theorem dX11_terms_38 : decode cX11_terms 38 = .ok (.invokevirtual 82, 3) := by decide +kernel
theorem dX11_terms_41 : decode cX11_terms 41 = .ok (.aload_n 0, 1) := by decide +kernel
theorem dX11_terms_42 : decode cX11_terms 42 = .ok (.getfield 10, 3) := by decide +kernel
theorem dX11_terms_45 : decode cX11_terms 45 = .ok (.iload_n 1, 1) := by decide +kernel
theorem dX11_terms_46 : decode cX11_terms 46 = .ok (.putfield 172, 3) := by decide +kernel
theorem dX11_terms_49 : decode cX11_terms 49 = .ok (.aload_n 0, 1) := by decide +kernel
theorem dX11_terms_50 : decode cX11_terms 50 = .ok (.getfield 10, 3) := by decide +kernel
theorem dX11_terms_53 : decode cX11_terms 53 = .ok (.iload_n 2, 1) := by decide +kernel
theorem dX11_terms_54 : decode cX11_terms 54 = .ok (.putfield 175, 3) := by decide +kernel
theorem dX11_terms_57 : decode cX11_terms 57 = .ok (.aload_n 0, 1) := by decide +kernel
theorem dX11_terms_58 : decode cX11_terms 58 = .ok (.getfield 10, 3) := by decide +kernel
theorem dX11_terms_61 : decode cX11_terms 61 = .ok (.iload_n 3, 1) := by decide +kernel
theorem dX11_terms_62 : decode cX11_terms 62 = .ok (.putfield 178, 3) := by decide +kernel
theorem dX11_terms_65 : decode cX11_terms 65 = .ok (.iconst 1, 1) := by decide +kernel
theorem dX11_terms_66 : decode cX11_terms 66 = .ok (.ireturn, 1) := by decide +kernel
theorem dX11_routes_0 : decode cX11_routes 0 = .ok (.aload_n 0, 1) := by decide +kernel
theorem dX11_routes_1 : decode cX11_routes 1 = .ok (.getfield 10, 3) := by decide +kernel
theorem dX11_routes_4 : decode cX11_routes 4 = .ok (.iload_n 1, 1) := by decide +kernel
theorem dX11_routes_5 : decode cX11_routes 5 = .ok (.invokevirtual 106, 3) := by decide +kernel
theorem dX11_routes_8 : decode cX11_routes 8 = .ok (.ifCond .ne 10, 3) := by decide +kernel
theorem dX11_routes_11 : decode cX11_routes 11 = .ok (.aload_n 0, 1) := by decide +kernel
theorem dX11_routes_12 : decode cX11_routes 12 = .ok (.ldc 78, 2) := by decide +kernel
theorem dX11_routes_14 : decode cX11_routes 14 = .ok (.invokevirtual 62, 3) := by decide +kernel
theorem dX11_routes_17 : decode cX11_routes 17 = .ok (.ireturn, 1) := by decide +kernel
theorem dX11_routes_18 : decode cX11_routes 18 = .ok (.aload_n 0, 1) := by decide +kernel
theorem dX11_routes_19 : decode cX11_routes 19 = .ok (.invokevirtual 181, 3) := by decide +kernel
theorem dX11_routes_22 : decode cX11_routes 22 = .ok (.aload_n 0, 1) := by decide +kernel
theorem dX11_routes_23 : decode cX11_routes 23 = .ok (.getfield 10, 3) := by decide +kernel
theorem dX11_routes_26 : decode cX11_routes 26 = .ok (.getfield 109, 3) := by decide +kernel
theorem dX11_routes_29 : decode cX11_routes 29 = .ok (.iload_n 1, 1) := by decide +kernel
theorem dX11_routes_30 : decode cX11_routes 30 = .ok (.aaload, 1) := by decide +kernel
theorem dX11_routes_31 : decode cX11_routes 31 = .ok (.astore_n 2, 1) := by decide +kernel
theorem dX11_routes_32 : decode cX11_routes 32 = .ok (.aload_n 2, 1) := by decide +kernel
theorem dX11_routes_33 : decode cX11_routes 33 = .ok (.getfield 184, 3) := by decide +kernel
theorem dX11_routes_36 : decode cX11_routes 36 = .ok (.ifCond .eq 10, 3) := by decide +kernel
theorem dX11_routes_39 : decode cX11_routes 39 = .ok (.aload_n 2, 1) := by decide +kernel
theorem dX11_routes_40 : decode cX11_routes 40 = .ok (.getfield 187, 3) := by decide +kernel
theorem dX11_routes_43 : decode cX11_routes 43 = .ok (.goto 9, 3) := by decide +kernel
theorem dX11_routes_46 : decode cX11_routes 46 = .ok (.aload_n 0, 1) := by decide +kernel
theorem dX11_routes_47 : decode cX11_routes 47 = .ok (.ldc 98, 2) := by decide +kernel
theorem dX11_routes_49 : decode cX11_routes 49 = .ok (.invokevirtual 62, 3) := by decide +kernel
theorem dX11_routes_52 : decode cX11_routes 52 = .ok (.ireturn, 1) := by decide +kernel
theorem dX11_route_0 : decode cX11_route 0 = .ok (.aload_n 0, 1) := by decide +kernel
theorem dX11_route_1 : decode cX11_route 1 = .ok (.getfield 10, 3) := by decide +kernel
theorem dX11_route_4 : decode cX11_route 4 = .ok (.iload_n 1, 1) := by decide +kernel
theorem dX11_route_5 : decode cX11_route 5 = .ok (.invokevirtual 106, 3) := by decide +kernel
theorem dX11_route_8 : decode cX11_route 8 = .ok (.ifCond .eq 12, 3) := by decide +kernel
theorem dX11_route_11 : decode cX11_route 11 = .ok (.iload_n 2, 1) := by decide +kernel
theorem dX11_route_12 : decode cX11_route 12 = .ok (.ifCond .lt 8, 3) := by decide +kernel
theorem dX11_route_15 : decode cX11_route 15 = .ok (.iload_n 3, 1) := by decide +kernel
theorem dX11_route_16 : decode cX11_route 16 = .ok (.iconst (-1), 1) := by decide +kernel
theorem dX11_route_17 : decode cX11_route 17 = .ok (.if_icmp .ge 10, 3) := by decide +kernel
theorem dX11_route_20 : decode cX11_route 20 = .ok (.aload_n 0, 1) := by decide +kernel
theorem dX11_route_21 : decode cX11_route 21 = .ok (.ldc 78, 2) := by decide +kernel
theorem dX11_route_23 : decode cX11_route 23 = .ok (.invokevirtual 62, 3) := by decide +kernel
theorem dX11_route_26 : decode cX11_route 26 = .ok (.ireturn, 1) := by decide +kernel
theorem dX11_route_27 : decode cX11_route 27 = .ok (.aload_n 0, 1) := by decide +kernel
theorem dX11_route_28 : decode cX11_route 28 = .ok (.invokevirtual 181, 3) := by decide +kernel
theorem dX11_route_31 : decode cX11_route 31 = .ok (.aload_n 0, 1) := by decide +kernel
theorem dX11_route_32 : decode cX11_route 32 = .ok (.getfield 10, 3) := by decide +kernel
theorem dX11_route_35 : decode cX11_route 35 = .ok (.getfield 109, 3) := by decide +kernel
theorem dX11_route_38 : decode cX11_route 38 = .ok (.iload_n 1, 1) := by decide +kernel
theorem dX11_route_39 : decode cX11_route 39 = .ok (.aaload, 1) := by decide +kernel
theorem dX11_route_40 : decode cX11_route 40 = .ok (.astore 4, 2) := by decide +kernel
theorem dX11_route_42 : decode cX11_route 42 = .ok (.aload 4, 2) := by decide +kernel
theorem dX11_route_44 : decode cX11_route 44 = .ok (.getfield 184, 3) := by decide +kernel
theorem dX11_route_47 : decode cX11_route 47 = .ok (.ifCond .eq 12, 3) := by decide +kernel
theorem dX11_route_50 : decode cX11_route 50 = .ok (.iload_n 2, 1) := by decide +kernel
theorem dX11_route_51 : decode cX11_route 51 = .ok (.aload 4, 2) := by decide +kernel
theorem dX11_route_53 : decode cX11_route 53 = .ok (.getfield 187, 3) := by decide +kernel
theorem dX11_route_56 : decode cX11_route 56 = .ok (.if_icmp .lt 10, 3) := by decide +kernel
theorem dX11_route_59 : decode cX11_route 59 = .ok (.aload_n 0, 1) := by decide +kernel
theorem dX11_route_60 : decode cX11_route 60 = .ok (.ldc 98, 2) := by decide +kernel
theorem dX11_route_62 : decode cX11_route 62 = .ok (.invokevirtual 62, 3) := by decide +kernel
theorem dX11_route_65 : decode cX11_route 65 = .ok (.ireturn, 1) := by decide +kernel
theorem dX11_route_66 : decode cX11_route 66 = .ok (.iload_n 3, 1) := by decide +kernel
theorem dX11_route_67 : decode cX11_route 67 = .ok (.iconst (-1), 1) := by decide +kernel
theorem dX11_route_68 : decode cX11_route 68 = .ok (.if_icmp .ne 11, 3) := by decide +kernel
theorem dX11_route_71 : decode cX11_route 71 = .ok (.aload 4, 2) := by decide +kernel
theorem dX11_route_73 : decode cX11_route 73 = .ok (.getfield 190, 3) := by decide +kernel
theorem dX11_route_76 : decode cX11_route 76 = .ok (.iload_n 2, 1) := by decide +kernel
theorem dX11_route_77 : decode cX11_route 77 = .ok (.iaload, 1) := by decide +kernel
theorem dX11_route_78 : decode cX11_route 78 = .ok (.ireturn, 1) := by decide +kernel
theorem dX11_route_79 : decode cX11_route 79 = .ok (.iload_n 3, 1) := by decide +kernel
theorem dX11_route_80 : decode cX11_route 80 = .ok (.aload 4, 2) := by decide +kernel
theorem dX11_route_82 : decode cX11_route 82 = .ok (.iload_n 2, 1) := by decide +kernel
theorem dX11_route_83 : decode cX11_route 83 = .ok (.invokevirtual 193, 3) := by decide +kernel
theorem dX11_route_86 : decode cX11_route 86 = .ok (.if_icmp .ge 21, 3) := by decide +kernel
theorem dX11_route_89 : decode cX11_route 89 = .ok (.aload 4, 2) := by decide +kernel
theorem dX11_route_91 : decode cX11_route 91 = .ok (.getfield 196, 3) := by decide +kernel
theorem dX11_route_94 : decode cX11_route 94 = .ok (.aload 4, 2) := by decide +kernel
theorem dX11_route_96 : decode cX11_route 96 = .ok (.getfield 199, 3) := by decide +kernel
theorem dX11_route_99 : decode cX11_route 99 = .ok (.iload_n 2, 1) := by decide +kernel
theorem dX11_route_100 : decode cX11_route 100 = .ok (.iaload, 1) := by decide +kernel
theorem dX11_route_101 : decode cX11_route 101 = .ok (.iload_n 3, 1) := by decide +kernel
theorem dX11_route_102 : decode cX11_route 102 = .ok (.iadd, 1) := by decide +kernel
theorem dX11_route_103 : decode cX11_route 103 = .ok (.iaload, 1) := by decide +kernel
theorem dX11_route_104 : decode cX11_route 104 = .ok (.goto 4, 3) := by decide +kernel
theorem dX11_route_107 : decode cX11_route 107 = .ok (.iconst (-1), 1) := by decide +kernel
theorem dX11_route_108 : decode cX11_route 108 = .ok (.ireturn, 1) := by decide +kernel
theorem dX11_ride_0 : decode cX11_ride 0 = .ok (.aload_n 0, 1) := by decide +kernel
theorem dX11_ride_1 : decode cX11_ride 1 = .ok (.getfield 10, 3) := by decide +kernel
theorem dX11_ride_4 : decode cX11_ride 4 = .ok (.iload_n 1, 1) := by decide +kernel
theorem dX11_ride_5 : decode cX11_ride 5 = .ok (.invokevirtual 156, 3) := by decide +kernel
theorem dX11_ride_8 : decode cX11_ride 8 = .ok (.ifCond .ne 10, 3) := by decide +kernel
theorem dX11_ride_11 : decode cX11_ride 11 = .ok (.aload_n 0, 1) := by decide +kernel
theorem dX11_ride_12 : decode cX11_ride 12 = .ok (.ldc 78, 2) := by decide +kernel
theorem dX11_ride_14 : decode cX11_ride 14 = .ok (.invokevirtual 62, 3) := by decide +kernel
theorem dX11_ride_17 : decode cX11_ride 17 = .ok (.ireturn, 1) := by decide +kernel
theorem dX11_ride_18 : decode cX11_ride 18 = .ok (.aload_n 0, 1) := by decide +kernel
theorem dX11_ride_19 : decode cX11_ride 19 = .ok (.invokevirtual 181, 3) := by decide +kernel
theorem dX11_ride_22 : decode cX11_ride 22 = .ok (.aload_n 0, 1) := by decide +kernel
theorem dX11_ride_23 : decode cX11_ride 23 = .ok (.getfield 10, 3) := by decide +kernel
theorem dX11_ride_26 : decode cX11_ride 26 = .ok (.getfield 109, 3) := by decide +kernel
theorem dX11_ride_29 : decode cX11_ride 29 = .ok (.aload_n 0, 1) := by decide +kernel
theorem dX11_ride_30 : decode cX11_ride 30 = .ok (.getfield 10, 3) := by decide +kernel
theorem dX11_ride_33 : decode cX11_ride 33 = .ok (.getfield 159, 3) := by decide +kernel
theorem dX11_ride_36 : decode cX11_ride 36 = .ok (.iload_n 1, 1) := by decide +kernel
theorem dX11_ride_37 : decode cX11_ride 37 = .ok (.aaload, 1) := by decide +kernel
theorem dX11_ride_38 : decode cX11_ride 38 = .ok (.getfield 202, 3) := by decide +kernel
theorem dX11_ride_41 : decode cX11_ride 41 = .ok (.aaload, 1) := by decide +kernel
theorem dX11_ride_42 : decode cX11_ride 42 = .ok (.getfield 184, 3) := by decide +kernel
theorem dX11_ride_45 : decode cX11_ride 45 = .ok (.ifCond .ne 10, 3) := by decide +kernel
theorem dX11_ride_48 : decode cX11_ride 48 = .ok (.aload_n 0, 1) := by decide +kernel
theorem dX11_ride_49 : decode cX11_ride 49 = .ok (.ldc 98, 2) := by decide +kernel
theorem dX11_ride_51 : decode cX11_ride 51 = .ok (.invokevirtual 62, 3) := by decide +kernel
theorem dX11_ride_54 : decode cX11_ride 54 = .ok (.ireturn, 1) := by decide +kernel
theorem dX11_ride_55 : decode cX11_ride 55 = .ok (.aload_n 0, 1) := by decide +kernel
theorem dX11_ride_56 : decode cX11_ride 56 = .ok (.getfield 10, 3) := by decide +kernel
theorem dX11_ride_59 : decode cX11_ride 59 = .ok (.iload_n 1, 1) := by decide +kernel
theorem dX11_ride_60 : decode cX11_ride 60 = .ok (.invokevirtual 205, 3) := by decide +kernel
theorem dX11_ride_63 : decode cX11_ride 63 = .ok (.ireturn, 1) := by decide +kernel
theorem dX11_all_0 : decode cX11_all 0 = .ok (.aload_n 0, 1) := by decide +kernel
theorem dX11_all_1 : decode cX11_all 1 = .ok (.invokevirtual 181, 3) := by decide +kernel
theorem dX11_all_4 : decode cX11_all 4 = .ok (.aload_n 0, 1) := by decide +kernel
theorem dX11_all_5 : decode cX11_all 5 = .ok (.getfield 19, 3) := by decide +kernel
theorem dX11_all_8 : decode cX11_all 8 = .ok (.getfield 208, 3) := by decide +kernel
theorem dX11_all_11 : decode cX11_all 11 = .ok (.ifCond .eq 13, 3) := by decide +kernel
theorem dX11_all_14 : decode cX11_all 14 = .ok (.aload_n 0, 1) := by decide +kernel
theorem dX11_all_15 : decode cX11_all 15 = .ok (.getfield 19, 3) := by decide +kernel
theorem dX11_all_18 : decode cX11_all 18 = .ok (.getfield 211, 3) := by decide +kernel
theorem dX11_all_21 : decode cX11_all 21 = .ok (.goto 9, 3) := by decide +kernel
theorem dX11_all_24 : decode cX11_all 24 = .ok (.aload_n 0, 1) := by decide +kernel
theorem dX11_all_25 : decode cX11_all 25 = .ok (.ldc 98, 2) := by decide +kernel
theorem dX11_all_27 : decode cX11_all 27 = .ok (.invokevirtual 62, 3) := by decide +kernel
theorem dX11_all_30 : decode cX11_all 30 = .ok (.ireturn, 1) := by decide +kernel
theorem dX11_start_0 : decode cX11_start 0 = .ok (.iload_n 1, 1) := by decide +kernel
theorem dX11_start_1 : decode cX11_start 1 = .ok (.ifCond .ge 10, 3) := by decide +kernel
theorem dX11_start_4 : decode cX11_start 4 = .ok (.aload_n 0, 1) := by decide +kernel
theorem dX11_start_5 : decode cX11_start 5 = .ok (.ldc 78, 2) := by decide +kernel
theorem dX11_start_7 : decode cX11_start 7 = .ok (.invokevirtual 62, 3) := by decide +kernel
theorem dX11_start_10 : decode cX11_start 10 = .ok (.ireturn, 1) := by decide +kernel
theorem dX11_start_11 : decode cX11_start 11 = .ok (.aload_n 0, 1) := by decide +kernel
theorem dX11_start_12 : decode cX11_start 12 = .ok (.invokevirtual 181, 3) := by decide +kernel
theorem dX11_start_15 : decode cX11_start 15 = .ok (.aload_n 0, 1) := by decide +kernel
theorem dX11_start_16 : decode cX11_start 16 = .ok (.getfield 19, 3) := by decide +kernel
theorem dX11_start_19 : decode cX11_start 19 = .ok (.iload_n 1, 1) := by decide +kernel
theorem dX11_start_20 : decode cX11_start 20 = .ok (.invokevirtual 214, 3) := by decide +kernel
theorem dX11_start_23 : decode cX11_start 23 = .ok (.ifCond .eq 18, 3) := by decide +kernel
theorem dX11_start_26 : decode cX11_start 26 = .ok (.aload_n 0, 1) := by decide +kernel
theorem dX11_start_27 : decode cX11_start 27 = .ok (.getfield 19, 3) := by decide +kernel
theorem dX11_start_30 : decode cX11_start 30 = .ok (.aload_n 0, 1) := by decide +kernel
theorem dX11_start_31 : decode cX11_start 31 = .ok (.getfield 10, 3) := by decide +kernel
theorem dX11_start_34 : decode cX11_start 34 = .ok (.iload_n 1, 1) := by decide +kernel
theorem dX11_start_35 : decode cX11_start 35 = .ok (.invokevirtual 217, 3) := by decide +kernel
theorem dX11_start_38 : decode cX11_start 38 = .ok (.goto 9, 3) := by decide +kernel
theorem dX11_start_41 : decode cX11_start 41 = .ok (.aload_n 0, 1) := by decide +kernel
theorem dX11_start_42 : decode cX11_start 42 = .ok (.ldc 98, 2) := by decide +kernel
theorem dX11_start_44 : decode cX11_start 44 = .ok (.invokevirtual 62, 3) := by decide +kernel
theorem dX11_start_47 : decode cX11_start 47 = .ok (.ireturn, 1) := by decide +kernel
theorem dX11_follows_0 : decode cX11_follows 0 = .ok (.iload_n 1, 1) := by decide +kernel
theorem dX11_follows_1 : decode cX11_follows 1 = .ok (.ifCond .lt 12, 3) := by decide +kernel
theorem dX11_follows_4 : decode cX11_follows 4 = .ok (.iload_n 2, 1) := by decide +kernel
theorem dX11_follows_5 : decode cX11_follows 5 = .ok (.ifCond .lt 8, 3) := by decide +kernel
theorem dX11_follows_8 : decode cX11_follows 8 = .ok (.iload_n 1, 1) := by decide +kernel
theorem dX11_follows_9 : decode cX11_follows 9 = .ok (.iload_n 2, 1) := by decide +kernel
theorem dX11_follows_10 : decode cX11_follows 10 = .ok (.if_icmp .ne 10, 3) := by decide +kernel
theorem dX11_follows_13 : decode cX11_follows 13 = .ok (.aload_n 0, 1) := by decide +kernel
theorem dX11_follows_14 : decode cX11_follows 14 = .ok (.ldc 78, 2) := by decide +kernel
theorem dX11_follows_16 : decode cX11_follows 16 = .ok (.invokevirtual 62, 3) := by decide +kernel
theorem dX11_follows_19 : decode cX11_follows 19 = .ok (.ireturn, 1) := by decide +kernel
theorem dX11_follows_20 : decode cX11_follows 20 = .ok (.aload_n 0, 1) := by decide +kernel
theorem dX11_follows_21 : decode cX11_follows 21 = .ok (.invokevirtual 181, 3) := by decide +kernel
theorem dX11_follows_24 : decode cX11_follows 24 = .ok (.aload_n 0, 1) := by decide +kernel
theorem dX11_follows_25 : decode cX11_follows 25 = .ok (.getfield 19, 3) := by decide +kernel
theorem dX11_follows_28 : decode cX11_follows 28 = .ok (.iload_n 1, 1) := by decide +kernel
theorem dX11_follows_29 : decode cX11_follows 29 = .ok (.invokevirtual 214, 3) := by decide +kernel
theorem dX11_follows_32 : decode cX11_follows 32 = .ok (.ifCond .eq 14, 3) := by decide +kernel
theorem dX11_follows_35 : decode cX11_follows 35 = .ok (.aload_n 0, 1) := by decide +kernel
theorem dX11_follows_36 : decode cX11_follows 36 = .ok (.getfield 19, 3) := by decide +kernel
theorem dX11_follows_39 : decode cX11_follows 39 = .ok (.iload_n 2, 1) := by decide +kernel
theorem dX11_follows_40 : decode cX11_follows 40 = .ok (.invokevirtual 214, 3) := by decide +kernel
theorem dX11_follows_43 : decode cX11_follows 43 = .ok (.ifCond .ne 10, 3) := by decide +kernel
theorem dX11_follows_46 : decode cX11_follows 46 = .ok (.aload_n 0, 1) := by decide +kernel
theorem dX11_follows_47 : decode cX11_follows 47 = .ok (.ldc 98, 2) := by decide +kernel
theorem dX11_follows_49 : decode cX11_follows 49 = .ok (.invokevirtual 62, 3) := by decide +kernel
theorem dX11_follows_52 : decode cX11_follows 52 = .ok (.ireturn, 1) := by decide +kernel
theorem dX11_follows_53 : decode cX11_follows 53 = .ok (.aload_n 0, 1) := by decide +kernel
theorem dX11_follows_54 : decode cX11_follows 54 = .ok (.getfield 19, 3) := by decide +kernel
theorem dX11_follows_57 : decode cX11_follows 57 = .ok (.aload_n 0, 1) := by decide +kernel
theorem dX11_follows_58 : decode cX11_follows 58 = .ok (.getfield 10, 3) := by decide +kernel
theorem dX11_follows_61 : decode cX11_follows 61 = .ok (.getfield 126, 3) := by decide +kernel
theorem dX11_follows_64 : decode cX11_follows 64 = .ok (.iload_n 1, 1) := by decide +kernel
theorem dX11_follows_65 : decode cX11_follows 65 = .ok (.iload_n 2, 1) := by decide +kernel
theorem dX11_follows_66 : decode cX11_follows 66 = .ok (.invokevirtual 221, 3) := by decide +kernel
theorem dX11_follows_69 : decode cX11_follows 69 = .ok (.ifCond .eq 7, 3) := by decide +kernel
theorem dX11_follows_72 : decode cX11_follows 72 = .ok (.iconst 1, 1) := by decide +kernel
theorem dX11_follows_73 : decode cX11_follows 73 = .ok (.goto 4, 3) := by decide +kernel
theorem dX11_follows_76 : decode cX11_follows 76 = .ok (.iconst 0, 1) := by decide +kernel
theorem dX11_follows_77 : decode cX11_follows 77 = .ok (.ireturn, 1) := by decide +kernel
theorem dX11_buses_0 : decode cX11_buses 0 = .ok (.aload_n 0, 1) := by decide +kernel
theorem dX11_buses_1 : decode cX11_buses 1 = .ok (.invokevirtual 225, 3) := by decide +kernel
theorem dX11_buses_4 : decode cX11_buses 4 = .ok (.ifCond .eq 13, 3) := by decide +kernel
theorem dX11_buses_7 : decode cX11_buses 7 = .ok (.aload_n 0, 1) := by decide +kernel
theorem dX11_buses_8 : decode cX11_buses 8 = .ok (.getfield 19, 3) := by decide +kernel
theorem dX11_buses_11 : decode cX11_buses 11 = .ok (.invokevirtual 229, 3) := by decide +kernel
theorem dX11_buses_14 : decode cX11_buses 14 = .ok (.goto 9, 3) := by decide +kernel
theorem dX11_buses_17 : decode cX11_buses 17 = .ok (.aload_n 0, 1) := by decide +kernel
theorem dX11_buses_18 : decode cX11_buses 18 = .ok (.ldc 98, 2) := by decide +kernel
theorem dX11_buses_20 : decode cX11_buses 20 = .ok (.invokevirtual 62, 3) := by decide +kernel
theorem dX11_buses_23 : decode cX11_buses 23 = .ok (.ireturn, 1) := by decide +kernel
theorem dX11_chain_0 : decode cX11_chain 0 = .ok (.iload_n 1, 1) := by decide +kernel
theorem dX11_chain_1 : decode cX11_chain 1 = .ok (.ifCond .lt 7, 3) := by decide +kernel
theorem dX11_chain_4 : decode cX11_chain 4 = .ok (.iload_n 2, 1) := by decide +kernel
theorem dX11_chain_5 : decode cX11_chain 5 = .ok (.ifCond .ge 10, 3) := by decide +kernel
theorem dX11_chain_8 : decode cX11_chain 8 = .ok (.aload_n 0, 1) := by decide +kernel
theorem dX11_chain_9 : decode cX11_chain 9 = .ok (.ldc 78, 2) := by decide +kernel
theorem dX11_chain_11 : decode cX11_chain 11 = .ok (.invokevirtual 62, 3) := by decide +kernel
theorem dX11_chain_14 : decode cX11_chain 14 = .ok (.ireturn, 1) := by decide +kernel
theorem dX11_chain_15 : decode cX11_chain 15 = .ok (.aload_n 0, 1) := by decide +kernel
theorem dX11_chain_16 : decode cX11_chain 16 = .ok (.invokevirtual 225, 3) := by decide +kernel
theorem dX11_chain_19 : decode cX11_chain 19 = .ok (.ifCond .eq 14, 3) := by decide +kernel
theorem dX11_chain_22 : decode cX11_chain 22 = .ok (.iload_n 1, 1) := by decide +kernel
theorem dX11_chain_23 : decode cX11_chain 23 = .ok (.aload_n 0, 1) := by decide +kernel
theorem dX11_chain_24 : decode cX11_chain 24 = .ok (.getfield 19, 3) := by decide +kernel
theorem dX11_chain_27 : decode cX11_chain 27 = .ok (.invokevirtual 229, 3) := by decide +kernel
theorem dX11_chain_30 : decode cX11_chain 30 = .ok (.if_icmp .lt 10, 3) := by decide +kernel
theorem dX11_chain_33 : decode cX11_chain 33 = .ok (.aload_n 0, 1) := by decide +kernel
theorem dX11_chain_34 : decode cX11_chain 34 = .ok (.ldc 98, 2) := by decide +kernel
theorem dX11_chain_36 : decode cX11_chain 36 = .ok (.invokevirtual 62, 3) := by decide +kernel
theorem dX11_chain_39 : decode cX11_chain 39 = .ok (.ireturn, 1) := by decide +kernel
theorem dX11_chain_40 : decode cX11_chain 40 = .ok (.aload_n 0, 1) := by decide +kernel
theorem dX11_chain_41 : decode cX11_chain 41 = .ok (.getfield 19, 3) := by decide +kernel
theorem dX11_chain_44 : decode cX11_chain 44 = .ok (.iload_n 1, 1) := by decide +kernel
theorem dX11_chain_45 : decode cX11_chain 45 = .ok (.iload_n 2, 1) := by decide +kernel
theorem dX11_chain_46 : decode cX11_chain 46 = .ok (.invokevirtual 232, 3) := by decide +kernel
theorem dX11_chain_49 : decode cX11_chain 49 = .ok (.ireturn, 1) := by decide +kernel
theorem dX11_aides_0 : decode cX11_aides 0 = .ok (.aload_n 0, 1) := by decide +kernel
theorem dX11_aides_1 : decode cX11_aides 1 = .ok (.invokevirtual 225, 3) := by decide +kernel
theorem dX11_aides_4 : decode cX11_aides 4 = .ok (.ifCond .eq 17, 3) := by decide +kernel
theorem dX11_aides_7 : decode cX11_aides 7 = .ok (.aload_n 0, 1) := by decide +kernel
theorem dX11_aides_8 : decode cX11_aides 8 = .ok (.getfield 19, 3) := by decide +kernel
theorem dX11_aides_11 : decode cX11_aides 11 = .ok (.aload_n 0, 1) := by decide +kernel
theorem dX11_aides_12 : decode cX11_aides 12 = .ok (.getfield 10, 3) := by decide +kernel
theorem dX11_aides_15 : decode cX11_aides 15 = .ok (.invokevirtual 235, 3) := by decide +kernel
theorem dX11_aides_18 : decode cX11_aides 18 = .ok (.goto 9, 3) := by decide +kernel
theorem dX11_aides_21 : decode cX11_aides 21 = .ok (.aload_n 0, 1) := by decide +kernel
theorem dX11_aides_22 : decode cX11_aides 22 = .ok (.ldc 98, 2) := by decide +kernel
theorem dX11_aides_24 : decode cX11_aides 24 = .ok (.invokevirtual 62, 3) := by decide +kernel
theorem dX11_aides_27 : decode cX11_aides 27 = .ok (.ireturn, 1) := by decide +kernel
theorem dX11_feed_0 : decode cX11_feed 0 = .ok (.iload_n 3, 1) := by decide +kernel
theorem dX11_feed_1 : decode cX11_feed 1 = .ok (.iconst 1, 1) := by decide +kernel
theorem dX11_feed_2 : decode cX11_feed 2 = .ok (.bipush 8, 2) := by decide +kernel
theorem dX11_feed_4 : decode cX11_feed 4 = .ok (.invokestatic 74, 3) := by decide +kernel
theorem dX11_feed_7 : decode cX11_feed 7 = .ok (.ifCond .ne 10, 3) := by decide +kernel
theorem dX11_feed_10 : decode cX11_feed 10 = .ok (.aload_n 0, 1) := by decide +kernel
theorem dX11_feed_11 : decode cX11_feed 11 = .ok (.ldc 78, 2) := by decide +kernel
theorem dX11_feed_13 : decode cX11_feed 13 = .ok (.invokevirtual 62, 3) := by decide +kernel
theorem dX11_feed_16 : decode cX11_feed 16 = .ok (.ireturn, 1) := by decide +kernel
theorem dX11_feed_17 : decode cX11_feed 17 = .ok (.aload_n 0, 1) := by decide +kernel
theorem dX11_feed_18 : decode cX11_feed 18 = .ok (.getfield 26, 3) := by decide +kernel
theorem dX11_feed_21 : decode cX11_feed 21 = .ok (.getfield 239, 3) := by decide +kernel
theorem dX11_feed_24 : decode cX11_feed 24 = .ok (.iload_n 3, 1) := by decide +kernel
theorem dX11_feed_25 : decode cX11_feed 25 = .ok (.iadd, 1) := by decide +kernel
theorem dX11_feed_26 : decode cX11_feed 26 = .ok (.bipush 60, 2) := by decide +kernel
theorem dX11_feed_28 : decode cX11_feed 28 = .ok (.if_icmp .le 10, 3) := by decide +kernel
theorem dX11_feed_31 : decode cX11_feed 31 = .ok (.aload_n 0, 1) := by decide +kernel
theorem dX11_feed_32 : decode cX11_feed 32 = .ok (.ldc 61, 2) := by decide +kernel
theorem dX11_feed_34 : decode cX11_feed 34 = .ok (.invokevirtual 62, 3) := by decide +kernel
theorem dX11_feed_37 : decode cX11_feed 37 = .ok (.ireturn, 1) := by decide +kernel
theorem dX11_feed_38 : decode cX11_feed 38 = .ok (.aload_n 0, 1) := by decide +kernel
theorem dX11_feed_39 : decode cX11_feed 39 = .ok (.getfield 26, 3) := by decide +kernel
theorem dX11_feed_42 : decode cX11_feed 42 = .ok (.lload_n 1, 1) := by decide +kernel
theorem dX11_feed_43 : decode cX11_feed 43 = .ok (.iload_n 3, 1) := by decide +kernel
theorem dX11_feed_44 : decode cX11_feed 44 = .ok (.invokevirtual 242, 3) := by decide +kernel
theorem dX11_feed_47 : decode cX11_feed 47 = .ok (.ireturn, 1) := by decide +kernel
theorem dX11_text_0 : decode cX11_text 0 = .ok (.aload_n 0, 1) := by decide +kernel
theorem dX11_text_1 : decode cX11_text 1 = .ok (.getfield 26, 3) := by decide +kernel
theorem dX11_text_4 : decode cX11_text 4 = .ok (.invokevirtual 246, 3) := by decide +kernel
theorem dX11_text_7 : decode cX11_text 7 = .ok (.istore_n 1, 1) := by decide +kernel
theorem dX11_text_8 : decode cX11_text 8 = .ok (.iload_n 1, 1) := by decide +kernel
theorem dX11_text_9 : decode cX11_text 9 = .ok (.ifCond .ge 15, 3) := by decide +kernel
theorem dX11_text_12 : decode cX11_text 12 = .ok (.aload_n 0, 1) := by decide +kernel
theorem dX11_text_13 : decode cX11_text 13 = .ok (.getfield 26, 3) := by decide +kernel
theorem dX11_text_16 : decode cX11_text 16 = .ok (.invokevirtual 249, 3) := by decide +kernel
theorem dX11_text_19 : decode cX11_text 19 = .ok (.aload_n 0, 1) := by decide +kernel
theorem dX11_text_20 : decode cX11_text 20 = .ok (.iconst 0, 1) := by decide +kernel
theorem dX11_text_21 : decode cX11_text 21 = .ok (.putfield 146, 3) := by decide +kernel
theorem dX11_text_24 : decode cX11_text 24 = .ok (.aload_n 0, 1) := by decide +kernel
theorem dX11_text_25 : decode cX11_text 25 = .ok (.getfield 26, 3) := by decide +kernel
theorem dX11_text_28 : decode cX11_text 28 = .ok (.iconst 0, 1) := by decide +kernel
theorem dX11_text_29 : decode cX11_text 29 = .ok (.putfield 239, 3) := by decide +kernel
theorem dX11_text_32 : decode cX11_text 32 = .ok (.iload_n 1, 1) := by decide +kernel
theorem dX11_text_33 : decode cX11_text 33 = .ok (.ifCond .ge 13, 3) := by decide +kernel
theorem dX11_text_36 : decode cX11_text 36 = .ok (.aload_n 0, 1) := by decide +kernel
theorem dX11_text_37 : decode cX11_text 37 = .ok (.getfield 26, 3) := by decide +kernel
theorem dX11_text_40 : decode cX11_text 40 = .ok (.getfield 252, 3) := by decide +kernel
theorem dX11_text_43 : decode cX11_text 43 = .ok (.goto 11, 3) := by decide +kernel
theorem dX11_text_46 : decode cX11_text 46 = .ok (.aload_n 0, 1) := by decide +kernel
theorem dX11_text_47 : decode cX11_text 47 = .ok (.ldc 253, 2) := by decide +kernel
theorem dX11_text_49 : decode cX11_text 49 = .ok (.iload_n 1, 1) := by decide +kernel
theorem dX11_text_50 : decode cX11_text 50 = .ok (.isub, 1) := by decide +kernel
theorem dX11_text_51 : decode cX11_text 51 = .ok (.invokevirtual 62, 3) := by decide +kernel
theorem dX11_text_54 : decode cX11_text 54 = .ok (.ireturn, 1) := by decide +kernel
theorem dX11_allowed_0 : decode cX11_allowed 0 = .ok (.aload_n 0, 1) := by decide +kernel
theorem dX11_allowed_1 : decode cX11_allowed 1 = .ok (.getfield 10, 3) := by decide +kernel
theorem dX11_allowed_4 : decode cX11_allowed 4 = .ok (.iload_n 1, 1) := by decide +kernel
theorem dX11_allowed_5 : decode cX11_allowed 5 = .ok (.invokevirtual 106, 3) := by decide +kernel
theorem dX11_allowed_8 : decode cX11_allowed 8 = .ok (.ifCond .eq 13, 3) := by decide +kernel
theorem dX11_allowed_11 : decode cX11_allowed 11 = .ok (.iload_n 2, 1) := by decide +kernel
theorem dX11_allowed_12 : decode cX11_allowed 12 = .ok (.iconst 0, 1) := by decide +kernel
theorem dX11_allowed_13 : decode cX11_allowed 13 = .ok (.bipush 6, 2) := by decide +kernel
theorem dX11_allowed_15 : decode cX11_allowed 15 = .ok (.invokestatic 74, 3) := by decide +kernel
theorem dX11_allowed_18 : decode cX11_allowed 18 = .ok (.ifCond .ne 10, 3) := by decide +kernel
theorem dX11_allowed_21 : decode cX11_allowed 21 = .ok (.aload_n 0, 1) := by decide +kernel
theorem dX11_allowed_22 : decode cX11_allowed 22 = .ok (.ldc 78, 2) := by decide +kernel
theorem dX11_allowed_24 : decode cX11_allowed 24 = .ok (.invokevirtual 62, 3) := by decide +kernel
theorem dX11_allowed_27 : decode cX11_allowed 27 = .ok (.ireturn, 1) := by decide +kernel
theorem dX11_allowed_28 : decode cX11_allowed 28 = .ok (.aload_n 0, 1) := by decide +kernel
theorem dX11_allowed_29 : decode cX11_allowed 29 = .ok (.getfield 26, 3) := by decide +kernel
theorem dX11_allowed_32 : decode cX11_allowed 32 = .ok (.aload_n 0, 1) := by decide +kernel
theorem dX11_allowed_33 : decode cX11_allowed 33 = .ok (.getfield 10, 3) := by decide +kernel
theorem dX11_allowed_36 : decode cX11_allowed 36 = .ok (.getfield 109, 3) := by decide +kernel
theorem dX11_allowed_39 : decode cX11_allowed 39 = .ok (.iload_n 1, 1) := by decide +kernel
theorem dX11_allowed_40 : decode cX11_allowed 40 = .ok (.aaload, 1) := by decide +kernel
theorem dX11_allowed_41 : decode cX11_allowed 41 = .ok (.getfield 113, 3) := by decide +kernel
theorem dX11_allowed_44 : decode cX11_allowed 44 = .ok (.iload_n 2, 1) := by decide +kernel
theorem dX11_allowed_45 : decode cX11_allowed 45 = .ok (.invokevirtual 254, 3) := by decide +kernel
theorem dX11_allowed_48 : decode cX11_allowed 48 = .ok (.ifCond .eq 7, 3) := by decide +kernel
theorem dX11_allowed_51 : decode cX11_allowed 51 = .ok (.iconst 1, 1) := by decide +kernel
theorem dX11_allowed_52 : decode cX11_allowed 52 = .ok (.goto 4, 3) := by decide +kernel
theorem dX11_allowed_55 : decode cX11_allowed 55 = .ok (.iconst 0, 1) := by decide +kernel
theorem dX11_allowed_56 : decode cX11_allowed 56 = .ok (.ireturn, 1) := by decide +kernel
theorem dX11_cost_0 : decode cX11_cost 0 = .ok (.iconst 0, 1) := by decide +kernel
theorem dX11_cost_1 : decode cX11_cost 1 = .ok (.istore_n 1, 1) := by decide +kernel
theorem dX11_cost_2 : decode cX11_cost 2 = .ok (.iconst 0, 1) := by decide +kernel
theorem dX11_cost_3 : decode cX11_cost 3 = .ok (.istore_n 2, 1) := by decide +kernel
theorem dX11_cost_4 : decode cX11_cost 4 = .ok (.iload_n 2, 1) := by decide +kernel
theorem dX11_cost_5 : decode cX11_cost 5 = .ok (.aload_n 0, 1) := by decide +kernel
theorem dX11_cost_6 : decode cX11_cost 6 = .ok (.getfield 10, 3) := by decide +kernel
theorem dX11_cost_9 : decode cX11_cost 9 = .ok (.getfield 99, 3) := by decide +kernel
theorem dX11_cost_12 : decode cX11_cost 12 = .ok (.if_icmp .ge 29, 3) := by decide +kernel
theorem dX11_cost_15 : decode cX11_cost 15 = .ok (.iload_n 1, 1) := by decide +kernel
theorem dX11_cost_16 : decode cX11_cost 16 = .ok (.aload_n 0, 1) := by decide +kernel
theorem dX11_cost_17 : decode cX11_cost 17 = .ok (.getfield 10, 3) := by decide +kernel
theorem dX11_cost_20 : decode cX11_cost 20 = .ok (.iload_n 2, 1) := by decide +kernel
theorem dX11_cost_21 : decode cX11_cost 21 = .ok (.aload_n 0, 1) := by decide +kernel
theorem dX11_cost_22 : decode cX11_cost 22 = .ok (.getfield 10, 3) := by decide +kernel
theorem dX11_cost_25 : decode cX11_cost 25 = .ok (.getfield 126, 3) := by decide +kernel
theorem dX11_cost_28 : decode cX11_cost 28 = .ok (.iload_n 2, 1) := by decide +kernel
end
section
theorem dX11_cost_29 : decode cX11_cost 29 = .ok (.iaload, 1) := by decide +kernel
theorem dX11_cost_30 : decode cX11_cost 30 = .ok (.invokevirtual 257, 3) := by decide +kernel
theorem dX11_cost_33 : decode cX11_cost 33 = .ok (.iadd, 1) := by decide +kernel
theorem dX11_cost_34 : decode cX11_cost 34 = .ok (.istore_n 1, 1) := by decide +kernel
theorem dX11_cost_35 : decode cX11_cost 35 = .ok (.iinc 2 1, 3) := by decide +kernel
theorem dX11_cost_38 : decode cX11_cost 38 = .ok (.goto (-34), 3) := by decide +kernel
theorem dX11_cost_41 : decode cX11_cost 41 = .ok (.iload_n 1, 1) := by decide +kernel
theorem dX11_cost_42 : decode cX11_cost 42 = .ok (.ireturn, 1) := by decide +kernel
theorem dX11_trades_0 : decode cX11_trades 0 = .ok (.aload_n 0, 1) := by decide +kernel
theorem dX11_trades_1 : decode cX11_trades 1 = .ok (.invokevirtual 260, 3) := by decide +kernel
theorem dX11_trades_4 : decode cX11_trades 4 = .ok (.ifCond .eq 13, 3) := by decide +kernel
theorem dX11_trades_7 : decode cX11_trades 7 = .ok (.aload_n 0, 1) := by decide +kernel
theorem dX11_trades_8 : decode cX11_trades 8 = .ok (.getfield 33, 3) := by decide +kernel
theorem dX11_trades_11 : decode cX11_trades 11 = .ok (.getfield 263, 3) := by decide +kernel
theorem dX11_trades_14 : decode cX11_trades 14 = .ok (.goto 9, 3) := by decide +kernel
theorem dX11_trades_17 : decode cX11_trades 17 = .ok (.aload_n 0, 1) := by decide +kernel
theorem dX11_trades_18 : decode cX11_trades 18 = .ok (.ldc 98, 2) := by decide +kernel
theorem dX11_trades_20 : decode cX11_trades 20 = .ok (.invokevirtual 62, 3) := by decide +kernel
theorem dX11_trades_23 : decode cX11_trades 23 = .ok (.ireturn, 1) := by decide +kernel
theorem dX11_trade_0 : decode cX11_trade 0 = .ok (.iload_n 1, 1) := by decide +kernel
theorem dX11_trade_1 : decode cX11_trade 1 = .ok (.ifCond .lt 20, 3) := by decide +kernel
theorem dX11_trade_4 : decode cX11_trade 4 = .ok (.iload_n 2, 1) := by decide +kernel
theorem dX11_trade_5 : decode cX11_trade 5 = .ok (.ifCond .lt 16, 3) := by decide +kernel
theorem dX11_trade_8 : decode cX11_trade 8 = .ok (.iload_n 2, 1) := by decide +kernel
theorem dX11_trade_9 : decode cX11_trade 9 = .ok (.iconst 2, 1) := by decide +kernel
theorem dX11_trade_10 : decode cX11_trade 10 = .ok (.aload_n 0, 1) := by decide +kernel
theorem dX11_trade_11 : decode cX11_trade 11 = .ok (.getfield 10, 3) := by decide +kernel
theorem dX11_trade_14 : decode cX11_trade 14 = .ok (.getfield 99, 3) := by decide +kernel
theorem dX11_trade_17 : decode cX11_trade 17 = .ok (.iadd, 1) := by decide +kernel
theorem dX11_trade_18 : decode cX11_trade 18 = .ok (.if_icmp .lt 10, 3) := by decide +kernel
theorem dX11_trade_21 : decode cX11_trade 21 = .ok (.aload_n 0, 1) := by decide +kernel
theorem dX11_trade_22 : decode cX11_trade 22 = .ok (.ldc 78, 2) := by decide +kernel
theorem dX11_trade_24 : decode cX11_trade 24 = .ok (.invokevirtual 62, 3) := by decide +kernel
theorem dX11_trade_27 : decode cX11_trade 27 = .ok (.ireturn, 1) := by decide +kernel
theorem dX11_trade_28 : decode cX11_trade 28 = .ok (.aload_n 0, 1) := by decide +kernel
theorem dX11_trade_29 : decode cX11_trade 29 = .ok (.invokevirtual 260, 3) := by decide +kernel
theorem dX11_trade_32 : decode cX11_trade 32 = .ok (.ifCond .eq 14, 3) := by decide +kernel
theorem dX11_trade_35 : decode cX11_trade 35 = .ok (.iload_n 1, 1) := by decide +kernel
theorem dX11_trade_36 : decode cX11_trade 36 = .ok (.aload_n 0, 1) := by decide +kernel
theorem dX11_trade_37 : decode cX11_trade 37 = .ok (.getfield 33, 3) := by decide +kernel
theorem dX11_trade_40 : decode cX11_trade 40 = .ok (.getfield 263, 3) := by decide +kernel
theorem dX11_trade_43 : decode cX11_trade 43 = .ok (.if_icmp .lt 10, 3) := by decide +kernel
theorem dX11_trade_46 : decode cX11_trade 46 = .ok (.aload_n 0, 1) := by decide +kernel
theorem dX11_trade_47 : decode cX11_trade 47 = .ok (.ldc 98, 2) := by decide +kernel
theorem dX11_trade_49 : decode cX11_trade 49 = .ok (.invokevirtual 62, 3) := by decide +kernel
theorem dX11_trade_52 : decode cX11_trade 52 = .ok (.ireturn, 1) := by decide +kernel
theorem dX11_trade_53 : decode cX11_trade 53 = .ok (.iload_n 2, 1) := by decide +kernel
theorem dX11_trade_54 : decode cX11_trade 54 = .ok (.lookupswitch 44 #[(0, 26), (1, 35)], 26) := by decide +kernel
theorem dX11_trade_80 : decode cX11_trade 80 = .ok (.aload_n 0, 1) := by decide +kernel
theorem dX11_trade_81 : decode cX11_trade 81 = .ok (.getfield 33, 3) := by decide +kernel
theorem dX11_trade_84 : decode cX11_trade 84 = .ok (.iload_n 1, 1) := by decide +kernel
theorem dX11_trade_85 : decode cX11_trade 85 = .ok (.invokevirtual 264, 3) := by decide +kernel
theorem dX11_trade_88 : decode cX11_trade 88 = .ok (.ireturn, 1) := by decide +kernel
theorem dX11_trade_89 : decode cX11_trade 89 = .ok (.aload_n 0, 1) := by decide +kernel
theorem dX11_trade_90 : decode cX11_trade 90 = .ok (.getfield 33, 3) := by decide +kernel
theorem dX11_trade_93 : decode cX11_trade 93 = .ok (.iload_n 1, 1) := by decide +kernel
theorem dX11_trade_94 : decode cX11_trade 94 = .ok (.invokevirtual 267, 3) := by decide +kernel
theorem dX11_trade_97 : decode cX11_trade 97 = .ok (.ireturn, 1) := by decide +kernel
theorem dX11_trade_98 : decode cX11_trade 98 = .ok (.aload_n 0, 1) := by decide +kernel
theorem dX11_trade_99 : decode cX11_trade 99 = .ok (.getfield 33, 3) := by decide +kernel
theorem dX11_trade_102 : decode cX11_trade 102 = .ok (.iload_n 1, 1) := by decide +kernel
theorem dX11_trade_103 : decode cX11_trade 103 = .ok (.invokevirtual 270, 3) := by decide +kernel
theorem dX11_trade_106 : decode cX11_trade 106 = .ok (.iload_n 2, 1) := by decide +kernel
theorem dX11_trade_107 : decode cX11_trade 107 = .ok (.iconst 2, 1) := by decide +kernel
theorem dX11_trade_108 : decode cX11_trade 108 = .ok (.isub, 1) := by decide +kernel
theorem dX11_trade_109 : decode cX11_trade 109 = .ok (.iaload, 1) := by decide +kernel
theorem dX11_trade_110 : decode cX11_trade 110 = .ok (.ireturn, 1) := by decide +kernel
theorem dX11_take_0 : decode cX11_take 0 = .ok (.iload_n 1, 1) := by decide +kernel
theorem dX11_take_1 : decode cX11_take 1 = .ok (.ifCond .ge 10, 3) := by decide +kernel
theorem dX11_take_4 : decode cX11_take 4 = .ok (.aload_n 0, 1) := by decide +kernel
theorem dX11_take_5 : decode cX11_take 5 = .ok (.ldc 78, 2) := by decide +kernel
theorem dX11_take_7 : decode cX11_take 7 = .ok (.invokevirtual 62, 3) := by decide +kernel
theorem dX11_take_10 : decode cX11_take 10 = .ok (.ireturn, 1) := by decide +kernel
theorem dX11_take_11 : decode cX11_take 11 = .ok (.aload_n 0, 1) := by decide +kernel
theorem dX11_take_12 : decode cX11_take 12 = .ok (.invokevirtual 260, 3) := by decide +kernel
theorem dX11_take_15 : decode cX11_take 15 = .ok (.ifCond .eq 14, 3) := by decide +kernel
theorem dX11_take_18 : decode cX11_take 18 = .ok (.iload_n 1, 1) := by decide +kernel
theorem dX11_take_19 : decode cX11_take 19 = .ok (.aload_n 0, 1) := by decide +kernel
theorem dX11_take_20 : decode cX11_take 20 = .ok (.getfield 33, 3) := by decide +kernel
theorem dX11_take_23 : decode cX11_take 23 = .ok (.getfield 263, 3) := by decide +kernel
theorem dX11_take_26 : decode cX11_take 26 = .ok (.if_icmp .lt 10, 3) := by decide +kernel
theorem dX11_take_29 : decode cX11_take 29 = .ok (.aload_n 0, 1) := by decide +kernel
theorem dX11_take_30 : decode cX11_take 30 = .ok (.ldc 98, 2) := by decide +kernel
theorem dX11_take_32 : decode cX11_take 32 = .ok (.invokevirtual 62, 3) := by decide +kernel
theorem dX11_take_35 : decode cX11_take 35 = .ok (.ireturn, 1) := by decide +kernel
theorem dX11_take_36 : decode cX11_take 36 = .ok (.aload_n 0, 1) := by decide +kernel
theorem dX11_take_37 : decode cX11_take 37 = .ok (.getfield 33, 3) := by decide +kernel
theorem dX11_take_40 : decode cX11_take 40 = .ok (.iload_n 1, 1) := by decide +kernel
theorem dX11_take_41 : decode cX11_take 41 = .ok (.invokevirtual 270, 3) := by decide +kernel
theorem dX11_take_44 : decode cX11_take 44 = .ok (.iconst 0, 1) := by decide +kernel
theorem dX11_take_45 : decode cX11_take 45 = .ok (.aload_n 0, 1) := by decide +kernel
theorem dX11_take_46 : decode cX11_take 46 = .ok (.getfield 10, 3) := by decide +kernel
theorem dX11_take_49 : decode cX11_take 49 = .ok (.getfield 126, 3) := by decide +kernel
theorem dX11_take_52 : decode cX11_take 52 = .ok (.iconst 0, 1) := by decide +kernel
theorem dX11_take_53 : decode cX11_take 53 = .ok (.aload_n 0, 1) := by decide +kernel
theorem dX11_take_54 : decode cX11_take 54 = .ok (.getfield 10, 3) := by decide +kernel
theorem dX11_take_57 : decode cX11_take 57 = .ok (.getfield 99, 3) := by decide +kernel
theorem dX11_take_60 : decode cX11_take 60 = .ok (.invokestatic 274, 3) := by decide +kernel
theorem dX11_take_63 : decode cX11_take 63 = .ok (.aload_n 0, 1) := by decide +kernel
theorem dX11_take_64 : decode cX11_take 64 = .ok (.iconst 0, 1) := by decide +kernel
theorem dX11_take_65 : decode cX11_take 65 = .ok (.putfield 142, 3) := by decide +kernel
theorem dX11_take_68 : decode cX11_take 68 = .ok (.aload_n 0, 1) := by decide +kernel
theorem dX11_take_69 : decode cX11_take 69 = .ok (.getfield 33, 3) := by decide +kernel
theorem dX11_take_72 : decode cX11_take 72 = .ok (.iload_n 1, 1) := by decide +kernel
theorem dX11_take_73 : decode cX11_take 73 = .ok (.invokevirtual 264, 3) := by decide +kernel
theorem dX11_take_76 : decode cX11_take 76 = .ok (.ireturn, 1) := by decide +kernel
theorem dX11_morning_0 : decode cX11_morning 0 = .ok (.iload_n 1, 1) := by decide +kernel
theorem dX11_morning_1 : decode cX11_morning 1 = .ok (.ifCond .lt 23, 3) := by decide +kernel
theorem dX11_morning_4 : decode cX11_morning 4 = .ok (.iload_n 2, 1) := by decide +kernel
theorem dX11_morning_5 : decode cX11_morning 5 = .ok (.iconst 0, 1) := by decide +kernel
theorem dX11_morning_6 : decode cX11_morning 6 = .ok (.bipush 60, 2) := by decide +kernel
theorem dX11_morning_8 : decode cX11_morning 8 = .ok (.invokestatic 74, 3) := by decide +kernel
theorem dX11_morning_11 : decode cX11_morning 11 = .ok (.ifCond .eq 13, 3) := by decide +kernel
theorem dX11_morning_14 : decode cX11_morning 14 = .ok (.iload_n 3, 1) := by decide +kernel
theorem dX11_morning_15 : decode cX11_morning 15 = .ok (.iconst 0, 1) := by decide +kernel
theorem dX11_morning_16 : decode cX11_morning 16 = .ok (.bipush 10, 2) := by decide +kernel
theorem dX11_morning_18 : decode cX11_morning 18 = .ok (.invokestatic 74, 3) := by decide +kernel
theorem dX11_morning_21 : decode cX11_morning 21 = .ok (.ifCond .ne 10, 3) := by decide +kernel
theorem dX11_morning_24 : decode cX11_morning 24 = .ok (.aload_n 0, 1) := by decide +kernel
theorem dX11_morning_25 : decode cX11_morning 25 = .ok (.ldc 78, 2) := by decide +kernel
theorem dX11_morning_27 : decode cX11_morning 27 = .ok (.invokevirtual 62, 3) := by decide +kernel
theorem dX11_morning_30 : decode cX11_morning 30 = .ok (.ireturn, 1) := by decide +kernel
theorem dX11_morning_31 : decode cX11_morning 31 = .ok (.aload_n 0, 1) := by decide +kernel
theorem dX11_morning_32 : decode cX11_morning 32 = .ok (.invokevirtual 225, 3) := by decide +kernel
theorem dX11_morning_35 : decode cX11_morning 35 = .ok (.ifCond .eq 14, 3) := by decide +kernel
theorem dX11_morning_38 : decode cX11_morning 38 = .ok (.aload_n 0, 1) := by decide +kernel
theorem dX11_morning_39 : decode cX11_morning 39 = .ok (.getfield 19, 3) := by decide +kernel
theorem dX11_morning_42 : decode cX11_morning 42 = .ok (.iload_n 1, 1) := by decide +kernel
theorem dX11_morning_43 : decode cX11_morning 43 = .ok (.invokevirtual 214, 3) := by decide +kernel
theorem dX11_morning_46 : decode cX11_morning 46 = .ok (.ifCond .ne 10, 3) := by decide +kernel
theorem dX11_morning_49 : decode cX11_morning 49 = .ok (.aload_n 0, 1) := by decide +kernel
theorem dX11_morning_50 : decode cX11_morning 50 = .ok (.ldc 98, 2) := by decide +kernel
theorem dX11_morning_52 : decode cX11_morning 52 = .ok (.invokevirtual 62, 3) := by decide +kernel
theorem dX11_morning_55 : decode cX11_morning 55 = .ok (.ireturn, 1) := by decide +kernel
theorem dX11_morning_56 : decode cX11_morning 56 = .ok (.aload_n 0, 1) := by decide +kernel
theorem dX11_morning_57 : decode cX11_morning 57 = .ok (.getfield 40, 3) := by decide +kernel
theorem dX11_morning_60 : decode cX11_morning 60 = .ok (.aload_n 0, 1) := by decide +kernel
theorem dX11_morning_61 : decode cX11_morning 61 = .ok (.getfield 10, 3) := by decide +kernel
theorem dX11_morning_64 : decode cX11_morning 64 = .ok (.aload_n 0, 1) := by decide +kernel
theorem dX11_morning_65 : decode cX11_morning 65 = .ok (.getfield 19, 3) := by decide +kernel
theorem dX11_morning_68 : decode cX11_morning 68 = .ok (.iload_n 1, 1) := by decide +kernel
theorem dX11_morning_69 : decode cX11_morning 69 = .ok (.iload_n 2, 1) := by decide +kernel
theorem dX11_morning_70 : decode cX11_morning 70 = .ok (.iload_n 3, 1) := by decide +kernel
theorem dX11_morning_71 : decode cX11_morning 71 = .ok (.invokevirtual 280, 3) := by decide +kernel
theorem dX11_morning_74 : decode cX11_morning 74 = .ok (.ireturn, 1) := by decide +kernel
theorem dX11_comes_0 : decode cX11_comes 0 = .ok (.iload_n 1, 1) := by decide +kernel
theorem dX11_comes_1 : decode cX11_comes 1 = .ok (.ifCond .ge 10, 3) := by decide +kernel
theorem dX11_comes_4 : decode cX11_comes 4 = .ok (.aload_n 0, 1) := by decide +kernel
theorem dX11_comes_5 : decode cX11_comes 5 = .ok (.ldc 78, 2) := by decide +kernel
theorem dX11_comes_7 : decode cX11_comes 7 = .ok (.invokevirtual 62, 3) := by decide +kernel
theorem dX11_comes_10 : decode cX11_comes 10 = .ok (.ireturn, 1) := by decide +kernel
theorem dX11_comes_11 : decode cX11_comes 11 = .ok (.iload_n 1, 1) := by decide +kernel
theorem dX11_comes_12 : decode cX11_comes 12 = .ok (.aload_n 0, 1) := by decide +kernel
theorem dX11_comes_13 : decode cX11_comes 13 = .ok (.getfield 40, 3) := by decide +kernel
theorem dX11_comes_16 : decode cX11_comes 16 = .ok (.getfield 284, 3) := by decide +kernel
theorem dX11_comes_19 : decode cX11_comes 19 = .ok (.if_icmp .ge 15, 3) := by decide +kernel
theorem dX11_comes_22 : decode cX11_comes 22 = .ok (.aload_n 0, 1) := by decide +kernel
theorem dX11_comes_23 : decode cX11_comes 23 = .ok (.getfield 40, 3) := by decide +kernel
theorem dX11_comes_26 : decode cX11_comes 26 = .ok (.getfield 285, 3) := by decide +kernel
theorem dX11_comes_29 : decode cX11_comes 29 = .ok (.iload_n 1, 1) := by decide +kernel
theorem dX11_comes_30 : decode cX11_comes 30 = .ok (.iaload, 1) := by decide +kernel
theorem dX11_comes_31 : decode cX11_comes 31 = .ok (.goto 9, 3) := by decide +kernel
theorem dX11_comes_34 : decode cX11_comes 34 = .ok (.aload_n 0, 1) := by decide +kernel
theorem dX11_comes_35 : decode cX11_comes 35 = .ok (.ldc 98, 2) := by decide +kernel
theorem dX11_comes_37 : decode cX11_comes 37 = .ok (.invokevirtual 62, 3) := by decide +kernel
theorem dX11_comes_40 : decode cX11_comes 40 = .ok (.ireturn, 1) := by decide +kernel
theorem dX11_fair_0 : decode cX11_fair 0 = .ok (.iload_n 1, 1) := by decide +kernel
theorem dX11_fair_1 : decode cX11_fair 1 = .ok (.iconst 0, 1) := by decide +kernel
theorem dX11_fair_2 : decode cX11_fair 2 = .ok (.iconst 3, 1) := by decide +kernel
theorem dX11_fair_3 : decode cX11_fair 3 = .ok (.invokestatic 74, 3) := by decide +kernel
theorem dX11_fair_6 : decode cX11_fair 6 = .ok (.ifCond .eq 12, 3) := by decide +kernel
theorem dX11_fair_9 : decode cX11_fair 9 = .ok (.iload_n 2, 1) := by decide +kernel
theorem dX11_fair_10 : decode cX11_fair 10 = .ok (.iconst 0, 1) := by decide +kernel
theorem dX11_fair_11 : decode cX11_fair 11 = .ok (.iconst 3, 1) := by decide +kernel
theorem dX11_fair_12 : decode cX11_fair 12 = .ok (.invokestatic 74, 3) := by decide +kernel
theorem dX11_fair_15 : decode cX11_fair 15 = .ok (.ifCond .ne 10, 3) := by decide +kernel
theorem dX11_fair_18 : decode cX11_fair 18 = .ok (.aload_n 0, 1) := by decide +kernel
theorem dX11_fair_19 : decode cX11_fair 19 = .ok (.ldc 78, 2) := by decide +kernel
theorem dX11_fair_21 : decode cX11_fair 21 = .ok (.invokevirtual 62, 3) := by decide +kernel
theorem dX11_fair_24 : decode cX11_fair 24 = .ok (.ireturn, 1) := by decide +kernel
theorem dX11_fair_25 : decode cX11_fair 25 = .ok (.iload_n 2, 1) := by decide +kernel
theorem dX11_fair_26 : decode cX11_fair 26 = .ok (.iconst 1, 1) := by decide +kernel
theorem dX11_fair_27 : decode cX11_fair 27 = .ok (.if_icmp .eq 8, 3) := by decide +kernel
theorem dX11_fair_30 : decode cX11_fair 30 = .ok (.iload_n 2, 1) := by decide +kernel
theorem dX11_fair_31 : decode cX11_fair 31 = .ok (.iconst 2, 1) := by decide +kernel
theorem dX11_fair_32 : decode cX11_fair 32 = .ok (.if_icmp .ne 24, 3) := by decide +kernel
theorem dX11_fair_35 : decode cX11_fair 35 = .ok (.aload_n 0, 1) := by decide +kernel
theorem dX11_fair_36 : decode cX11_fair 36 = .ok (.invokevirtual 181, 3) := by decide +kernel
theorem dX11_fair_39 : decode cX11_fair 39 = .ok (.aload_n 0, 1) := by decide +kernel
theorem dX11_fair_40 : decode cX11_fair 40 = .ok (.getfield 19, 3) := by decide +kernel
theorem dX11_fair_43 : decode cX11_fair 43 = .ok (.getfield 208, 3) := by decide +kernel
theorem dX11_fair_46 : decode cX11_fair 46 = .ok (.ifCond .ne 10, 3) := by decide +kernel
theorem dX11_fair_49 : decode cX11_fair 49 = .ok (.aload_n 0, 1) := by decide +kernel
theorem dX11_fair_50 : decode cX11_fair 50 = .ok (.ldc 98, 2) := by decide +kernel
theorem dX11_fair_52 : decode cX11_fair 52 = .ok (.invokevirtual 62, 3) := by decide +kernel
theorem dX11_fair_55 : decode cX11_fair 55 = .ok (.ireturn, 1) := by decide +kernel
theorem dX11_fair_56 : decode cX11_fair 56 = .ok (.iload_n 2, 1) := by decide +kernel
theorem dX11_fair_57 : decode cX11_fair 57 = .ok (.tableswitch 54 0 2 #[27, 36, 45], 27) := by decide +kernel
theorem dX11_fair_84 : decode cX11_fair 84 = .ok (.aload_n 0, 1) := by decide +kernel
theorem dX11_fair_85 : decode cX11_fair 85 = .ok (.getfield 10, 3) := by decide +kernel
theorem dX11_fair_88 : decode cX11_fair 88 = .ok (.iload_n 1, 1) := by decide +kernel
theorem dX11_fair_89 : decode cX11_fair 89 = .ok (.invokevirtual 288, 3) := by decide +kernel
theorem dX11_fair_92 : decode cX11_fair 92 = .ok (.ireturn, 1) := by decide +kernel
theorem dX11_fair_93 : decode cX11_fair 93 = .ok (.aload_n 0, 1) := by decide +kernel
theorem dX11_fair_94 : decode cX11_fair 94 = .ok (.getfield 10, 3) := by decide +kernel
theorem dX11_fair_97 : decode cX11_fair 97 = .ok (.iload_n 1, 1) := by decide +kernel
theorem dX11_fair_98 : decode cX11_fair 98 = .ok (.invokevirtual 291, 3) := by decide +kernel
theorem dX11_fair_101 : decode cX11_fair 101 = .ok (.ireturn, 1) := by decide +kernel
theorem dX11_fair_102 : decode cX11_fair 102 = .ok (.aload_n 0, 1) := by decide +kernel
theorem dX11_fair_103 : decode cX11_fair 103 = .ok (.getfield 10, 3) := by decide +kernel
theorem dX11_fair_106 : decode cX11_fair 106 = .ok (.iload_n 1, 1) := by decide +kernel
theorem dX11_fair_107 : decode cX11_fair 107 = .ok (.invokevirtual 294, 3) := by decide +kernel
theorem dX11_fair_110 : decode cX11_fair 110 = .ok (.ireturn, 1) := by decide +kernel
theorem dX11_fair_111 : decode cX11_fair 111 = .ok (.aload_n 0, 1) := by decide +kernel
theorem dX11_fair_112 : decode cX11_fair 112 = .ok (.getfield 10, 3) := by decide +kernel
theorem dX11_fair_115 : decode cX11_fair 115 = .ok (.iload_n 1, 1) := by decide +kernel
theorem dX11_fair_116 : decode cX11_fair 116 = .ok (.invokevirtual 297, 3) := by decide +kernel
theorem dX11_fair_119 : decode cX11_fair 119 = .ok (.ireturn, 1) := by decide +kernel
theorem dX11_sheet_0 : decode cX11_sheet 0 = .ok (.iload_n 1, 1) := by decide +kernel
theorem dX11_sheet_1 : decode cX11_sheet 1 = .ok (.iconst 0, 1) := by decide +kernel
theorem dX11_sheet_2 : decode cX11_sheet 2 = .ok (.iconst 3, 1) := by decide +kernel
theorem dX11_sheet_3 : decode cX11_sheet 3 = .ok (.invokestatic 74, 3) := by decide +kernel
theorem dX11_sheet_6 : decode cX11_sheet 6 = .ok (.ifCond .eq 25, 3) := by decide +kernel
theorem dX11_sheet_9 : decode cX11_sheet 9 = .ok (.iload_n 2, 1) := by decide +kernel
theorem dX11_sheet_10 : decode cX11_sheet 10 = .ok (.ifCond .eq 28, 3) := by decide +kernel
theorem dX11_sheet_13 : decode cX11_sheet 13 = .ok (.iload_n 2, 1) := by decide +kernel
theorem dX11_sheet_14 : decode cX11_sheet 14 = .ok (.bipush 8, 2) := by decide +kernel
theorem dX11_sheet_16 : decode cX11_sheet 16 = .ok (.if_icmp .eq 22, 3) := by decide +kernel
theorem dX11_sheet_19 : decode cX11_sheet 19 = .ok (.iload_n 2, 1) := by decide +kernel
theorem dX11_sheet_20 : decode cX11_sheet 20 = .ok (.bipush 16, 2) := by decide +kernel
theorem dX11_sheet_22 : decode cX11_sheet 22 = .ok (.if_icmp .eq 16, 3) := by decide +kernel
theorem dX11_sheet_25 : decode cX11_sheet 25 = .ok (.iload_n 2, 1) := by decide +kernel
theorem dX11_sheet_26 : decode cX11_sheet 26 = .ok (.bipush 32, 2) := by decide +kernel
theorem dX11_sheet_28 : decode cX11_sheet 28 = .ok (.if_icmp .eq 10, 3) := by decide +kernel
theorem dX11_sheet_31 : decode cX11_sheet 31 = .ok (.aload_n 0, 1) := by decide +kernel
theorem dX11_sheet_32 : decode cX11_sheet 32 = .ok (.ldc 78, 2) := by decide +kernel
theorem dX11_sheet_34 : decode cX11_sheet 34 = .ok (.invokevirtual 62, 3) := by decide +kernel
theorem dX11_sheet_37 : decode cX11_sheet 37 = .ok (.ireturn, 1) := by decide +kernel
theorem dX11_sheet_38 : decode cX11_sheet 38 = .ok (.iload_n 3, 1) := by decide +kernel
theorem dX11_sheet_39 : decode cX11_sheet 39 = .ok (.ifCond .ge 11, 3) := by decide +kernel
theorem dX11_sheet_42 : decode cX11_sheet 42 = .ok (.aload_n 0, 1) := by decide +kernel
theorem dX11_sheet_43 : decode cX11_sheet 43 = .ok (.ldc_w 300, 3) := by decide +kernel
theorem dX11_sheet_46 : decode cX11_sheet 46 = .ok (.invokevirtual 62, 3) := by decide +kernel
theorem dX11_sheet_49 : decode cX11_sheet 49 = .ok (.ireturn, 1) := by decide +kernel
theorem dX11_sheet_50 : decode cX11_sheet 50 = .ok (.iload_n 3, 1) := by decide +kernel
theorem dX11_sheet_51 : decode cX11_sheet 51 = .ok (.bipush 10, 2) := by decide +kernel
theorem dX11_sheet_53 : decode cX11_sheet 53 = .ok (.if_icmp .le 10, 3) := by decide +kernel
theorem dX11_sheet_56 : decode cX11_sheet 56 = .ok (.aload_n 0, 1) := by decide +kernel
theorem dX11_sheet_57 : decode cX11_sheet 57 = .ok (.ldc 78, 2) := by decide +kernel
theorem dX11_sheet_59 : decode cX11_sheet 59 = .ok (.invokevirtual 62, 3) := by decide +kernel
theorem dX11_sheet_62 : decode cX11_sheet 62 = .ok (.ireturn, 1) := by decide +kernel
theorem dX11_sheet_63 : decode cX11_sheet 63 = .ok (.aload_n 0, 1) := by decide +kernel
theorem dX11_sheet_64 : decode cX11_sheet 64 = .ok (.getfield 46, 3) := by decide +kernel
theorem dX11_sheet_67 : decode cX11_sheet 67 = .ok (.iload_n 1, 1) := by decide +kernel
theorem dX11_sheet_68 : decode cX11_sheet 68 = .ok (.aaload, 1) := by decide +kernel
theorem dX11_sheet_69 : decode cX11_sheet 69 = .ok (.iload_n 2, 1) := by decide +kernel
theorem dX11_sheet_70 : decode cX11_sheet 70 = .ok (.iload_n 3, 1) := by decide +kernel
theorem dX11_sheet_71 : decode cX11_sheet 71 = .ok (.invokevirtual 301, 3) := by decide +kernel
theorem dX11_sheet_74 : decode cX11_sheet 74 = .ok (.ireturn, 1) := by decide +kernel
theorem dX11_write_0 : decode cX11_write 0 = .ok (.iload_n 1, 1) := by decide +kernel
theorem dX11_write_1 : decode cX11_write 1 = .ok (.iconst 0, 1) := by decide +kernel
theorem dX11_write_2 : decode cX11_write 2 = .ok (.iconst 3, 1) := by decide +kernel
theorem dX11_write_3 : decode cX11_write 3 = .ok (.invokestatic 74, 3) := by decide +kernel
theorem dX11_write_6 : decode cX11_write 6 = .ok (.ifCond .ne 10, 3) := by decide +kernel
theorem dX11_write_9 : decode cX11_write 9 = .ok (.aload_n 0, 1) := by decide +kernel
theorem dX11_write_10 : decode cX11_write 10 = .ok (.ldc 78, 2) := by decide +kernel
theorem dX11_write_12 : decode cX11_write 12 = .ok (.invokevirtual 62, 3) := by decide +kernel
theorem dX11_write_15 : decode cX11_write 15 = .ok (.ireturn, 1) := by decide +kernel
theorem dX11_write_16 : decode cX11_write 16 = .ok (.aload_n 0, 1) := by decide +kernel
theorem dX11_write_17 : decode cX11_write 17 = .ok (.getfield 46, 3) := by decide +kernel
theorem dX11_write_20 : decode cX11_write 20 = .ok (.iload_n 1, 1) := by decide +kernel
theorem dX11_write_21 : decode cX11_write 21 = .ok (.aaload, 1) := by decide +kernel
theorem dX11_write_22 : decode cX11_write 22 = .ok (.astore 4, 2) := by decide +kernel
theorem dX11_write_24 : decode cX11_write 24 = .ok (.aload 4, 2) := by decide +kernel
theorem dX11_write_26 : decode cX11_write 26 = .ok (.invokevirtual 304, 3) := by decide +kernel
theorem dX11_write_29 : decode cX11_write 29 = .ok (.ifCond .eq 11, 3) := by decide +kernel
theorem dX11_write_32 : decode cX11_write 32 = .ok (.aload_n 0, 1) := by decide +kernel
theorem dX11_write_33 : decode cX11_write 33 = .ok (.ldc_w 307, 3) := by decide +kernel
theorem dX11_write_36 : decode cX11_write 36 = .ok (.invokevirtual 62, 3) := by decide +kernel
theorem dX11_write_39 : decode cX11_write 39 = .ok (.ireturn, 1) := by decide +kernel
theorem dX11_write_40 : decode cX11_write 40 = .ok (.iload_n 2, 1) := by decide +kernel
theorem dX11_write_41 : decode cX11_write 41 = .ok (.iconst 0, 1) := by decide +kernel
theorem dX11_write_42 : decode cX11_write 42 = .ok (.aload 4, 2) := by decide +kernel
theorem dX11_write_44 : decode cX11_write 44 = .ok (.getfield 308, 3) := by decide +kernel
theorem dX11_write_47 : decode cX11_write 47 = .ok (.iconst 1, 1) := by decide +kernel
theorem dX11_write_48 : decode cX11_write 48 = .ok (.isub, 1) := by decide +kernel
theorem dX11_write_49 : decode cX11_write 49 = .ok (.invokestatic 74, 3) := by decide +kernel
theorem dX11_write_52 : decode cX11_write 52 = .ok (.ifCond .ne 10, 3) := by decide +kernel
theorem dX11_write_55 : decode cX11_write 55 = .ok (.aload_n 0, 1) := by decide +kernel
theorem dX11_write_56 : decode cX11_write 56 = .ok (.ldc 78, 2) := by decide +kernel
theorem dX11_write_58 : decode cX11_write 58 = .ok (.invokevirtual 62, 3) := by decide +kernel
theorem dX11_write_61 : decode cX11_write 61 = .ok (.ireturn, 1) := by decide +kernel
theorem dX11_write_62 : decode cX11_write 62 = .ok (.aload 4, 2) := by decide +kernel
theorem dX11_write_64 : decode cX11_write 64 = .ok (.iload_n 2, 1) := by decide +kernel
theorem dX11_write_65 : decode cX11_write 65 = .ok (.iload_n 3, 1) := by decide +kernel
theorem dX11_write_66 : decode cX11_write 66 = .ok (.invokevirtual 309, 3) := by decide +kernel
theorem dX11_write_69 : decode cX11_write 69 = .ok (.ireturn, 1) := by decide +kernel
theorem dX11_copy_0 : decode cX11_copy 0 = .ok (.iload_n 1, 1) := by decide +kernel
theorem dX11_copy_1 : decode cX11_copy 1 = .ok (.iconst 0, 1) := by decide +kernel
theorem dX11_copy_2 : decode cX11_copy 2 = .ok (.iconst 3, 1) := by decide +kernel
theorem dX11_copy_3 : decode cX11_copy 3 = .ok (.invokestatic 74, 3) := by decide +kernel
theorem dX11_copy_6 : decode cX11_copy 6 = .ok (.ifCond .eq 12, 3) := by decide +kernel
theorem dX11_copy_9 : decode cX11_copy 9 = .ok (.iload_n 3, 1) := by decide +kernel
theorem dX11_copy_10 : decode cX11_copy 10 = .ok (.iconst 0, 1) := by decide +kernel
theorem dX11_copy_11 : decode cX11_copy 11 = .ok (.iconst 3, 1) := by decide +kernel
theorem dX11_copy_12 : decode cX11_copy 12 = .ok (.invokestatic 74, 3) := by decide +kernel
theorem dX11_copy_15 : decode cX11_copy 15 = .ok (.ifCond .ne 10, 3) := by decide +kernel
theorem dX11_copy_18 : decode cX11_copy 18 = .ok (.aload_n 0, 1) := by decide +kernel
theorem dX11_copy_19 : decode cX11_copy 19 = .ok (.ldc 78, 2) := by decide +kernel
theorem dX11_copy_21 : decode cX11_copy 21 = .ok (.invokevirtual 62, 3) := by decide +kernel
theorem dX11_copy_24 : decode cX11_copy 24 = .ok (.ireturn, 1) := by decide +kernel
theorem dX11_copy_25 : decode cX11_copy 25 = .ok (.aload_n 0, 1) := by decide +kernel
theorem dX11_copy_26 : decode cX11_copy 26 = .ok (.getfield 46, 3) := by decide +kernel
theorem dX11_copy_29 : decode cX11_copy 29 = .ok (.iload_n 1, 1) := by decide +kernel
theorem dX11_copy_30 : decode cX11_copy 30 = .ok (.aaload, 1) := by decide +kernel
theorem dX11_copy_31 : decode cX11_copy 31 = .ok (.astore 6, 2) := by decide +kernel
theorem dX11_copy_33 : decode cX11_copy 33 = .ok (.aload_n 0, 1) := by decide +kernel
theorem dX11_copy_34 : decode cX11_copy 34 = .ok (.getfield 46, 3) := by decide +kernel
theorem dX11_copy_37 : decode cX11_copy 37 = .ok (.iload_n 3, 1) := by decide +kernel
theorem dX11_copy_38 : decode cX11_copy 38 = .ok (.aaload, 1) := by decide +kernel
theorem dX11_copy_39 : decode cX11_copy 39 = .ok (.astore 7, 2) := by decide +kernel
theorem dX11_copy_41 : decode cX11_copy 41 = .ok (.aload 6, 2) := by decide +kernel
theorem dX11_copy_43 : decode cX11_copy 43 = .ok (.invokevirtual 304, 3) := by decide +kernel
theorem dX11_copy_46 : decode cX11_copy 46 = .ok (.ifCond .ne 11, 3) := by decide +kernel
theorem dX11_copy_49 : decode cX11_copy 49 = .ok (.aload 7, 2) := by decide +kernel
theorem dX11_copy_51 : decode cX11_copy 51 = .ok (.invokevirtual 304, 3) := by decide +kernel
theorem dX11_copy_54 : decode cX11_copy 54 = .ok (.ifCond .eq 11, 3) := by decide +kernel
theorem dX11_copy_57 : decode cX11_copy 57 = .ok (.aload_n 0, 1) := by decide +kernel
theorem dX11_copy_58 : decode cX11_copy 58 = .ok (.ldc_w 307, 3) := by decide +kernel
theorem dX11_copy_61 : decode cX11_copy 61 = .ok (.invokevirtual 62, 3) := by decide +kernel
theorem dX11_copy_64 : decode cX11_copy 64 = .ok (.ireturn, 1) := by decide +kernel
theorem dX11_copy_65 : decode cX11_copy 65 = .ok (.aload 6, 2) := by decide +kernel
theorem dX11_copy_67 : decode cX11_copy 67 = .ok (.getfield 312, 3) := by decide +kernel
theorem dX11_copy_70 : decode cX11_copy 70 = .ok (.aload 7, 2) := by decide +kernel
theorem dX11_copy_72 : decode cX11_copy 72 = .ok (.getfield 312, 3) := by decide +kernel
theorem dX11_copy_75 : decode cX11_copy 75 = .ok (.if_icmp .eq 10, 3) := by decide +kernel
theorem dX11_copy_78 : decode cX11_copy 78 = .ok (.aload_n 0, 1) := by decide +kernel
theorem dX11_copy_79 : decode cX11_copy 79 = .ok (.ldc 122, 2) := by decide +kernel
theorem dX11_copy_81 : decode cX11_copy 81 = .ok (.invokevirtual 62, 3) := by decide +kernel
theorem dX11_copy_84 : decode cX11_copy 84 = .ok (.ireturn, 1) := by decide +kernel
theorem dX11_copy_85 : decode cX11_copy 85 = .ok (.aload 6, 2) := by decide +kernel
theorem dX11_copy_87 : decode cX11_copy 87 = .ok (.iload_n 2, 1) := by decide +kernel
theorem dX11_copy_88 : decode cX11_copy 88 = .ok (.iload 5, 2) := by decide +kernel
theorem dX11_copy_90 : decode cX11_copy 90 = .ok (.invokevirtual 315, 3) := by decide +kernel
theorem dX11_copy_93 : decode cX11_copy 93 = .ok (.ifCond .eq 15, 3) := by decide +kernel
theorem dX11_copy_96 : decode cX11_copy 96 = .ok (.aload 7, 2) := by decide +kernel
theorem dX11_copy_98 : decode cX11_copy 98 = .ok (.iload 4, 2) := by decide +kernel
theorem dX11_copy_100 : decode cX11_copy 100 = .ok (.iload 5, 2) := by decide +kernel
theorem dX11_copy_102 : decode cX11_copy 102 = .ok (.invokevirtual 315, 3) := by decide +kernel
theorem dX11_copy_105 : decode cX11_copy 105 = .ok (.ifCond .ne 10, 3) := by decide +kernel
theorem dX11_copy_108 : decode cX11_copy 108 = .ok (.aload_n 0, 1) := by decide +kernel
theorem dX11_copy_109 : decode cX11_copy 109 = .ok (.ldc 78, 2) := by decide +kernel
theorem dX11_copy_111 : decode cX11_copy 111 = .ok (.invokevirtual 62, 3) := by decide +kernel
theorem dX11_copy_114 : decode cX11_copy 114 = .ok (.ireturn, 1) := by decide +kernel
theorem dX11_copy_115 : decode cX11_copy 115 = .ok (.aload 6, 2) := by decide +kernel
theorem dX11_copy_117 : decode cX11_copy 117 = .ok (.getfield 318, 3) := by decide +kernel
theorem dX11_copy_120 : decode cX11_copy 120 = .ok (.iload_n 2, 1) := by decide +kernel
theorem dX11_copy_121 : decode cX11_copy 121 = .ok (.aload 7, 2) := by decide +kernel
theorem dX11_copy_123 : decode cX11_copy 123 = .ok (.getfield 318, 3) := by decide +kernel
theorem dX11_copy_126 : decode cX11_copy 126 = .ok (.iload 4, 2) := by decide +kernel
theorem dX11_copy_128 : decode cX11_copy 128 = .ok (.iload 5, 2) := by decide +kernel
theorem dX11_copy_130 : decode cX11_copy 130 = .ok (.invokestatic 274, 3) := by decide +kernel
theorem dX11_copy_133 : decode cX11_copy 133 = .ok (.iload 5, 2) := by decide +kernel
theorem dX11_copy_135 : decode cX11_copy 135 = .ok (.ireturn, 1) := by decide +kernel
theorem dX11_read_0 : decode cX11_read 0 = .ok (.iload_n 1, 1) := by decide +kernel
theorem dX11_read_1 : decode cX11_read 1 = .ok (.iconst 0, 1) := by decide +kernel
theorem dX11_read_2 : decode cX11_read 2 = .ok (.iconst 3, 1) := by decide +kernel
theorem dX11_read_3 : decode cX11_read 3 = .ok (.invokestatic 74, 3) := by decide +kernel
theorem dX11_read_6 : decode cX11_read 6 = .ok (.ifCond .ne 10, 3) := by decide +kernel
theorem dX11_read_9 : decode cX11_read 9 = .ok (.aload_n 0, 1) := by decide +kernel
theorem dX11_read_10 : decode cX11_read 10 = .ok (.ldc 78, 2) := by decide +kernel
theorem dX11_read_12 : decode cX11_read 12 = .ok (.invokevirtual 62, 3) := by decide +kernel
theorem dX11_read_15 : decode cX11_read 15 = .ok (.ireturn, 1) := by decide +kernel
theorem dX11_read_16 : decode cX11_read 16 = .ok (.aload_n 0, 1) := by decide +kernel
theorem dX11_read_17 : decode cX11_read 17 = .ok (.getfield 46, 3) := by decide +kernel
theorem dX11_read_20 : decode cX11_read 20 = .ok (.iload_n 1, 1) := by decide +kernel
theorem dX11_read_21 : decode cX11_read 21 = .ok (.aaload, 1) := by decide +kernel
theorem dX11_read_22 : decode cX11_read 22 = .ok (.astore_n 3, 1) := by decide +kernel
theorem dX11_read_23 : decode cX11_read 23 = .ok (.aload_n 3, 1) := by decide +kernel
theorem dX11_read_24 : decode cX11_read 24 = .ok (.invokevirtual 304, 3) := by decide +kernel
theorem dX11_read_27 : decode cX11_read 27 = .ok (.ifCond .eq 11, 3) := by decide +kernel
theorem dX11_read_30 : decode cX11_read 30 = .ok (.aload_n 0, 1) := by decide +kernel
theorem dX11_read_31 : decode cX11_read 31 = .ok (.ldc_w 307, 3) := by decide +kernel
theorem dX11_read_34 : decode cX11_read 34 = .ok (.invokevirtual 62, 3) := by decide +kernel
theorem dX11_read_37 : decode cX11_read 37 = .ok (.ireturn, 1) := by decide +kernel
theorem dX11_read_38 : decode cX11_read 38 = .ok (.aload_n 3, 1) := by decide +kernel
theorem dX11_read_39 : decode cX11_read 39 = .ok (.getfield 308, 3) := by decide +kernel
theorem dX11_read_42 : decode cX11_read 42 = .ok (.ifCond .ne 5, 3) := by decide +kernel
theorem dX11_read_45 : decode cX11_read 45 = .ok (.iconst 0, 1) := by decide +kernel
theorem dX11_read_46 : decode cX11_read 46 = .ok (.ireturn, 1) := by decide +kernel
theorem dX11_read_47 : decode cX11_read 47 = .ok (.iload_n 2, 1) := by decide +kernel
theorem dX11_read_48 : decode cX11_read 48 = .ok (.iconst 0, 1) := by decide +kernel
theorem dX11_read_49 : decode cX11_read 49 = .ok (.aload_n 0, 1) := by decide +kernel
theorem dX11_read_50 : decode cX11_read 50 = .ok (.getfield 10, 3) := by decide +kernel
theorem dX11_read_53 : decode cX11_read 53 = .ok (.getfield 149, 3) := by decide +kernel
theorem dX11_read_56 : decode cX11_read 56 = .ok (.aload_n 3, 1) := by decide +kernel
theorem dX11_read_57 : decode cX11_read 57 = .ok (.getfield 308, 3) := by decide +kernel
theorem dX11_read_60 : decode cX11_read 60 = .ok (.isub, 1) := by decide +kernel
theorem dX11_read_61 : decode cX11_read 61 = .ok (.invokestatic 74, 3) := by decide +kernel
theorem dX11_read_64 : decode cX11_read 64 = .ok (.ifCond .eq 13, 3) := by decide +kernel
theorem dX11_read_67 : decode cX11_read 67 = .ok (.aload_n 3, 1) := by decide +kernel
theorem dX11_read_68 : decode cX11_read 68 = .ok (.iconst 1, 1) := by decide +kernel
theorem dX11_read_69 : decode cX11_read 69 = .ok (.bipush 30, 2) := by decide +kernel
theorem dX11_read_71 : decode cX11_read 71 = .ok (.invokevirtual 321, 3) := by decide +kernel
theorem dX11_read_74 : decode cX11_read 74 = .ok (.ifCond .ne 10, 3) := by decide +kernel
theorem dX11_read_77 : decode cX11_read 77 = .ok (.aload_n 0, 1) := by decide +kernel
theorem dX11_read_78 : decode cX11_read 78 = .ok (.ldc 78, 2) := by decide +kernel
theorem dX11_read_80 : decode cX11_read 80 = .ok (.invokevirtual 62, 3) := by decide +kernel
theorem dX11_read_83 : decode cX11_read 83 = .ok (.ireturn, 1) := by decide +kernel
theorem dX11_read_84 : decode cX11_read 84 = .ok (.iconst 0, 1) := by decide +kernel
theorem dX11_read_85 : decode cX11_read 85 = .ok (.istore 4, 2) := by decide +kernel
theorem dX11_read_87 : decode cX11_read 87 = .ok (.iload 4, 2) := by decide +kernel
theorem dX11_read_89 : decode cX11_read 89 = .ok (.aload_n 3, 1) := by decide +kernel
theorem dX11_read_90 : decode cX11_read 90 = .ok (.getfield 308, 3) := by decide +kernel
theorem dX11_read_93 : decode cX11_read 93 = .ok (.if_icmp .ge 31, 3) := by decide +kernel
theorem dX11_read_96 : decode cX11_read 96 = .ok (.aload_n 0, 1) := by decide +kernel
theorem dX11_read_97 : decode cX11_read 97 = .ok (.getfield 10, 3) := by decide +kernel
theorem dX11_read_100 : decode cX11_read 100 = .ok (.getfield 159, 3) := by decide +kernel
theorem dX11_read_103 : decode cX11_read 103 = .ok (.iload_n 2, 1) := by decide +kernel
theorem dX11_read_104 : decode cX11_read 104 = .ok (.iload 4, 2) := by decide +kernel
theorem dX11_read_106 : decode cX11_read 106 = .ok (.iadd, 1) := by decide +kernel
theorem dX11_read_107 : decode cX11_read 107 = .ok (.aaload, 1) := by decide +kernel
theorem dX11_read_108 : decode cX11_read 108 = .ok (.aload_n 3, 1) := by decide +kernel
theorem dX11_read_109 : decode cX11_read 109 = .ok (.getfield 318, 3) := by decide +kernel
theorem dX11_read_112 : decode cX11_read 112 = .ok (.iload 4, 2) := by decide +kernel
theorem dX11_read_114 : decode cX11_read 114 = .ok (.iaload, 1) := by decide +kernel
theorem dX11_read_115 : decode cX11_read 115 = .ok (.putfield 163, 3) := by decide +kernel
theorem dX11_read_118 : decode cX11_read 118 = .ok (.iinc 4 1, 3) := by decide +kernel
theorem dX11_read_121 : decode cX11_read 121 = .ok (.goto (-34), 3) := by decide +kernel
theorem dX11_read_124 : decode cX11_read 124 = .ok (.aload_n 0, 1) := by decide +kernel
theorem dX11_read_125 : decode cX11_read 125 = .ok (.invokevirtual 82, 3) := by decide +kernel
theorem dX11_read_128 : decode cX11_read 128 = .ok (.aload_n 3, 1) := by decide +kernel
theorem dX11_read_129 : decode cX11_read 129 = .ok (.getfield 308, 3) := by decide +kernel
theorem dX11_read_132 : decode cX11_read 132 = .ok (.ireturn, 1) := by decide +kernel
theorem dX11_told_0 : decode cX11_told 0 = .ok (.iload_n 1, 1) := by decide +kernel
theorem dX11_told_1 : decode cX11_told 1 = .ok (.tableswitch 102 0 6 #[43, 54, 65, 73, 81, 89, 97], 43) := by decide +kernel
theorem dX11_told_44 : decode cX11_told 44 = .ok (.aload_n 0, 1) := by decide +kernel
theorem dX11_told_45 : decode cX11_told 45 = .ok (.getfield 10, 3) := by decide +kernel
theorem dX11_told_48 : decode cX11_told 48 = .ok (.getfield 51, 3) := by decide +kernel
theorem dX11_told_51 : decode cX11_told 51 = .ok (.getfield 55, 3) := by decide +kernel
theorem dX11_told_54 : decode cX11_told 54 = .ok (.ireturn, 1) := by decide +kernel
theorem dX11_told_55 : decode cX11_told 55 = .ok (.aload_n 0, 1) := by decide +kernel
theorem dX11_told_56 : decode cX11_told 56 = .ok (.getfield 10, 3) := by decide +kernel
theorem dX11_told_59 : decode cX11_told 59 = .ok (.getfield 51, 3) := by decide +kernel
theorem dX11_told_62 : decode cX11_told 62 = .ok (.getfield 79, 3) := by decide +kernel
theorem dX11_told_65 : decode cX11_told 65 = .ok (.ireturn, 1) := by decide +kernel
theorem dX11_told_66 : decode cX11_told 66 = .ok (.aload_n 0, 1) := by decide +kernel
theorem dX11_told_67 : decode cX11_told 67 = .ok (.getfield 10, 3) := by decide +kernel
theorem dX11_told_70 : decode cX11_told 70 = .ok (.getfield 99, 3) := by decide +kernel
theorem dX11_told_73 : decode cX11_told 73 = .ok (.ireturn, 1) := by decide +kernel
theorem dX11_told_74 : decode cX11_told 74 = .ok (.aload_n 0, 1) := by decide +kernel
theorem dX11_told_75 : decode cX11_told 75 = .ok (.getfield 10, 3) := by decide +kernel
theorem dX11_told_78 : decode cX11_told 78 = .ok (.getfield 149, 3) := by decide +kernel
theorem dX11_told_81 : decode cX11_told 81 = .ok (.ireturn, 1) := by decide +kernel
theorem dX11_told_82 : decode cX11_told 82 = .ok (.aload_n 0, 1) := by decide +kernel
theorem dX11_told_83 : decode cX11_told 83 = .ok (.getfield 26, 3) := by decide +kernel
theorem dX11_told_86 : decode cX11_told 86 = .ok (.getfield 252, 3) := by decide +kernel
theorem dX11_told_89 : decode cX11_told 89 = .ok (.ireturn, 1) := by decide +kernel
theorem dX11_told_90 : decode cX11_told 90 = .ok (.aload_n 0, 1) := by decide +kernel
theorem dX11_told_91 : decode cX11_told 91 = .ok (.getfield 26, 3) := by decide +kernel
theorem dX11_told_94 : decode cX11_told 94 = .ok (.getfield 239, 3) := by decide +kernel
theorem dX11_told_97 : decode cX11_told 97 = .ok (.ireturn, 1) := by decide +kernel
theorem dX11_told_98 : decode cX11_told 98 = .ok (.aload_n 0, 1) := by decide +kernel
theorem dX11_told_99 : decode cX11_told 99 = .ok (.getfield 324, 3) := by decide +kernel
theorem dX11_told_102 : decode cX11_told 102 = .ok (.ireturn, 1) := by decide +kernel
theorem dX11_told_103 : decode cX11_told 103 = .ok (.aload_n 0, 1) := by decide +kernel
theorem dX11_told_104 : decode cX11_told 104 = .ok (.ldc 78, 2) := by decide +kernel
theorem dX11_told_106 : decode cX11_told 106 = .ok (.invokevirtual 62, 3) := by decide +kernel
theorem dX11_told_109 : decode cX11_told 109 = .ok (.ireturn, 1) := by decide +kernel
theorem dX11_found_0 : decode cX11_found 0 = .ok (.aload_n 0, 1) := by decide +kernel
theorem dX11_found_1 : decode cX11_found 1 = .ok (.dup, 1) := by decide +kernel
theorem dX11_found_2 : decode cX11_found 2 = .ok (.getfield 324, 3) := by decide +kernel
theorem dX11_found_5 : decode cX11_found 5 = .ok (.iconst 1, 1) := by decide +kernel
theorem dX11_found_6 : decode cX11_found 6 = .ok (.iadd, 1) := by decide +kernel
theorem dX11_found_7 : decode cX11_found 7 = .ok (.putfield 324, 3) := by decide +kernel
theorem dX11_found_10 : decode cX11_found 10 = .ok (.iload_n 1, 1) := by decide +kernel
theorem dX11_found_11 : decode cX11_found 11 = .ok (.ireturn, 1) := by decide +kernel
theorem dX11_plansFall_0 : decode cX11_plansFall 0 = .ok (.aload_n 0, 1) := by decide +kernel
theorem dX11_plansFall_1 : decode cX11_plansFall 1 = .ok (.iconst 0, 1) := by decide +kernel
theorem dX11_plansFall_2 : decode cX11_plansFall 2 = .ok (.putfield 327, 3) := by decide +kernel
theorem dX11_plansFall_5 : decode cX11_plansFall 5 = .ok (.aload_n 0, 1) := by decide +kernel
theorem dX11_plansFall_6 : decode cX11_plansFall 6 = .ok (.iconst 0, 1) := by decide +kernel
theorem dX11_plansFall_7 : decode cX11_plansFall 7 = .ok (.putfield 142, 3) := by decide +kernel
theorem dX11_plansFall_10 : decode cX11_plansFall 10 = .ok (.aload_n 0, 1) := by decide +kernel
theorem dX11_plansFall_11 : decode cX11_plansFall 11 = .ok (.iconst 0, 1) := by decide +kernel
theorem dX11_plansFall_12 : decode cX11_plansFall 12 = .ok (.putfield 146, 3) := by decide +kernel
theorem dX11_plansFall_15 : decode cX11_plansFall 15 = .ok (.return_, 1) := by decide +kernel
theorem dX11_drawPlans_0 : decode cX11_drawPlans 0 = .ok (.aload_n 0, 1) := by decide +kernel
theorem dX11_drawPlans_1 : decode cX11_drawPlans 1 = .ok (.getfield 327, 3) := by decide +kernel
theorem dX11_drawPlans_4 : decode cX11_drawPlans 4 = .ok (.ifCond .eq 4, 3) := by decide +kernel
theorem dX11_drawPlans_7 : decode cX11_drawPlans 7 = .ok (.return_, 1) := by decide +kernel
theorem dX11_drawPlans_8 : decode cX11_drawPlans 8 = .ok (.aload_n 0, 1) := by decide +kernel
theorem dX11_drawPlans_9 : decode cX11_drawPlans 9 = .ok (.getfield 330, 3) := by decide +kernel
theorem dX11_drawPlans_12 : decode cX11_drawPlans 12 = .ok (.ifnonnull 14, 3) := by decide +kernel
theorem dX11_drawPlans_15 : decode cX11_drawPlans 15 = .ok (.aload_n 0, 1) := by decide +kernel
theorem dX11_drawPlans_16 : decode cX11_drawPlans 16 = .ok (.new 334, 3) := by decide +kernel
theorem dX11_drawPlans_19 : decode cX11_drawPlans 19 = .ok (.dup, 1) := by decide +kernel
theorem dX11_drawPlans_20 : decode cX11_drawPlans 20 = .ok (.invokespecial 336, 3) := by decide +kernel
theorem dX11_drawPlans_23 : decode cX11_drawPlans 23 = .ok (.putfield 330, 3) := by decide +kernel
theorem dX11_drawPlans_26 : decode cX11_drawPlans 26 = .ok (.iconst 0, 1) := by decide +kernel
theorem dX11_drawPlans_27 : decode cX11_drawPlans 27 = .ok (.istore_n 1, 1) := by decide +kernel
theorem dX11_drawPlans_28 : decode cX11_drawPlans 28 = .ok (.iload_n 1, 1) := by decide +kernel
theorem dX11_drawPlans_29 : decode cX11_drawPlans 29 = .ok (.aload_n 0, 1) := by decide +kernel
theorem dX11_drawPlans_30 : decode cX11_drawPlans 30 = .ok (.getfield 10, 3) := by decide +kernel
theorem dX11_drawPlans_33 : decode cX11_drawPlans 33 = .ok (.getfield 99, 3) := by decide +kernel
theorem dX11_drawPlans_36 : decode cX11_drawPlans 36 = .ok (.if_icmp .ge 21, 3) := by decide +kernel
theorem dX11_drawPlans_39 : decode cX11_drawPlans 39 = .ok (.aload_n 0, 1) := by decide +kernel
theorem dX11_drawPlans_40 : decode cX11_drawPlans 40 = .ok (.getfield 330, 3) := by decide +kernel
theorem dX11_drawPlans_43 : decode cX11_drawPlans 43 = .ok (.aload_n 0, 1) := by decide +kernel
theorem dX11_drawPlans_44 : decode cX11_drawPlans 44 = .ok (.getfield 10, 3) := by decide +kernel
theorem dX11_drawPlans_47 : decode cX11_drawPlans 47 = .ok (.iload_n 1, 1) := by decide +kernel
theorem dX11_drawPlans_48 : decode cX11_drawPlans 48 = .ok (.invokevirtual 337, 3) := by decide +kernel
theorem dX11_drawPlans_51 : decode cX11_drawPlans 51 = .ok (.iinc 1 1, 3) := by decide +kernel
theorem dX11_drawPlans_54 : decode cX11_drawPlans 54 = .ok (.goto (-26), 3) := by decide +kernel
theorem dX11_drawPlans_57 : decode cX11_drawPlans 57 = .ok (.aload_n 0, 1) := by decide +kernel
theorem dX11_drawPlans_58 : decode cX11_drawPlans 58 = .ok (.getfield 19, 3) := by decide +kernel
theorem dX11_drawPlans_61 : decode cX11_drawPlans 61 = .ok (.aload_n 0, 1) := by decide +kernel
theorem dX11_drawPlans_62 : decode cX11_drawPlans 62 = .ok (.getfield 10, 3) := by decide +kernel
theorem dX11_drawPlans_65 : decode cX11_drawPlans 65 = .ok (.invokevirtual 341, 3) := by decide +kernel
theorem dX11_drawPlans_68 : decode cX11_drawPlans 68 = .ok (.aload_n 0, 1) := by decide +kernel
theorem dX11_drawPlans_69 : decode cX11_drawPlans 69 = .ok (.iconst 1, 1) := by decide +kernel
theorem dX11_drawPlans_70 : decode cX11_drawPlans 70 = .ok (.putfield 327, 3) := by decide +kernel
theorem dX11_drawPlans_73 : decode cX11_drawPlans 73 = .ok (.return_, 1) := by decide +kernel
theorem dX11_linkChains_0 : decode cX11_linkChains 0 = .ok (.aload_n 0, 1) := by decide +kernel
theorem dX11_linkChains_1 : decode cX11_linkChains 1 = .ok (.invokevirtual 181, 3) := by decide +kernel
theorem dX11_linkChains_4 : decode cX11_linkChains 4 = .ok (.aload_n 0, 1) := by decide +kernel
theorem dX11_linkChains_5 : decode cX11_linkChains 5 = .ok (.getfield 19, 3) := by decide +kernel
theorem dX11_linkChains_8 : decode cX11_linkChains 8 = .ok (.getfield 208, 3) := by decide +kernel
theorem dX11_linkChains_11 : decode cX11_linkChains 11 = .ok (.ifCond .eq 29, 3) := by decide +kernel
theorem dX11_linkChains_14 : decode cX11_linkChains 14 = .ok (.aload_n 0, 1) := by decide +kernel
theorem dX11_linkChains_15 : decode cX11_linkChains 15 = .ok (.getfield 142, 3) := by decide +kernel
theorem dX11_linkChains_18 : decode cX11_linkChains 18 = .ok (.ifCond .ne 22, 3) := by decide +kernel
theorem dX11_linkChains_21 : decode cX11_linkChains 21 = .ok (.aload_n 0, 1) := by decide +kernel
theorem dX11_linkChains_22 : decode cX11_linkChains 22 = .ok (.getfield 19, 3) := by decide +kernel
theorem dX11_linkChains_25 : decode cX11_linkChains 25 = .ok (.aload_n 0, 1) := by decide +kernel
theorem dX11_linkChains_26 : decode cX11_linkChains 26 = .ok (.getfield 10, 3) := by decide +kernel
theorem dX11_linkChains_29 : decode cX11_linkChains 29 = .ok (.getfield 126, 3) := by decide +kernel
theorem dX11_linkChains_32 : decode cX11_linkChains 32 = .ok (.invokevirtual 345, 3) := by decide +kernel
theorem dX11_linkChains_35 : decode cX11_linkChains 35 = .ok (.aload_n 0, 1) := by decide +kernel
theorem dX11_linkChains_36 : decode cX11_linkChains 36 = .ok (.iconst 1, 1) := by decide +kernel
theorem dX11_linkChains_37 : decode cX11_linkChains 37 = .ok (.putfield 142, 3) := by decide +kernel
theorem dX11_linkChains_40 : decode cX11_linkChains 40 = .ok (.aload_n 0, 1) := by decide +kernel
theorem dX11_linkChains_41 : decode cX11_linkChains 41 = .ok (.getfield 19, 3) := by decide +kernel
theorem dX11_linkChains_44 : decode cX11_linkChains 44 = .ok (.getfield 208, 3) := by decide +kernel
theorem dX11_linkChains_47 : decode cX11_linkChains 47 = .ok (.ireturn, 1) := by decide +kernel
theorem dX11_weighTrades_0 : decode cX11_weighTrades 0 = .ok (.aload_n 0, 1) := by decide +kernel
theorem dX11_weighTrades_1 : decode cX11_weighTrades 1 = .ok (.invokevirtual 181, 3) := by decide +kernel
theorem dX11_weighTrades_4 : decode cX11_weighTrades 4 = .ok (.aload_n 0, 1) := by decide +kernel
theorem dX11_weighTrades_5 : decode cX11_weighTrades 5 = .ok (.getfield 19, 3) := by decide +kernel
theorem dX11_weighTrades_8 : decode cX11_weighTrades 8 = .ok (.getfield 208, 3) := by decide +kernel
theorem dX11_weighTrades_11 : decode cX11_weighTrades 11 = .ok (.ifCond .ne 5, 3) := by decide +kernel
theorem dX11_weighTrades_14 : decode cX11_weighTrades 14 = .ok (.iconst 0, 1) := by decide +kernel
theorem dX11_weighTrades_15 : decode cX11_weighTrades 15 = .ok (.ireturn, 1) := by decide +kernel
theorem dX11_weighTrades_16 : decode cX11_weighTrades 16 = .ok (.aload_n 0, 1) := by decide +kernel
theorem dX11_weighTrades_17 : decode cX11_weighTrades 17 = .ok (.getfield 146, 3) := by decide +kernel
theorem dX11_weighTrades_20 : decode cX11_weighTrades 20 = .ok (.ifCond .ne 27, 3) := by decide +kernel
theorem dX11_weighTrades_23 : decode cX11_weighTrades 23 = .ok (.aload_n 0, 1) := by decide +kernel
theorem dX11_weighTrades_24 : decode cX11_weighTrades 24 = .ok (.getfield 33, 3) := by decide +kernel
theorem dX11_weighTrades_27 : decode cX11_weighTrades 27 = .ok (.aload_n 0, 1) := by decide +kernel
theorem dX11_weighTrades_28 : decode cX11_weighTrades 28 = .ok (.getfield 10, 3) := by decide +kernel
theorem dX11_weighTrades_31 : decode cX11_weighTrades 31 = .ok (.aload_n 0, 1) := by decide +kernel
theorem dX11_weighTrades_32 : decode cX11_weighTrades 32 = .ok (.getfield 19, 3) := by decide +kernel
theorem dX11_weighTrades_35 : decode cX11_weighTrades 35 = .ok (.aload_n 0, 1) := by decide +kernel
theorem dX11_weighTrades_36 : decode cX11_weighTrades 36 = .ok (.getfield 26, 3) := by decide +kernel
theorem dX11_weighTrades_39 : decode cX11_weighTrades 39 = .ok (.invokevirtual 349, 3) := by decide +kernel
theorem dX11_weighTrades_42 : decode cX11_weighTrades 42 = .ok (.aload_n 0, 1) := by decide +kernel
theorem dX11_weighTrades_43 : decode cX11_weighTrades 43 = .ok (.iconst 1, 1) := by decide +kernel
theorem dX11_weighTrades_44 : decode cX11_weighTrades 44 = .ok (.putfield 146, 3) := by decide +kernel
theorem dX11_weighTrades_47 : decode cX11_weighTrades 47 = .ok (.aload_n 0, 1) := by decide +kernel
theorem dX11_weighTrades_48 : decode cX11_weighTrades 48 = .ok (.getfield 33, 3) := by decide +kernel
theorem dX11_weighTrades_51 : decode cX11_weighTrades 51 = .ok (.getfield 263, 3) := by decide +kernel
theorem dX11_weighTrades_54 : decode cX11_weighTrades 54 = .ok (.ifCond .le 7, 3) := by decide +kernel
theorem dX11_weighTrades_57 : decode cX11_weighTrades 57 = .ok (.iconst 1, 1) := by decide +kernel
theorem dX11_weighTrades_58 : decode cX11_weighTrades 58 = .ok (.goto 4, 3) := by decide +kernel
theorem dX11_weighTrades_61 : decode cX11_weighTrades 61 = .ok (.iconst 0, 1) := by decide +kernel
theorem dX11_weighTrades_62 : decode cX11_weighTrades 62 = .ok (.ireturn, 1) := by decide +kernel
theorem dX11_within_0 : decode cX11_within 0 = .ok (.iload_n 0, 1) := by decide +kernel
theorem dX11_within_1 : decode cX11_within 1 = .ok (.iload_n 1, 1) := by decide +kernel
theorem dX11_within_2 : decode cX11_within 2 = .ok (.if_icmp .lt 12, 3) := by decide +kernel
theorem dX11_within_5 : decode cX11_within 5 = .ok (.iload_n 0, 1) := by decide +kernel
theorem dX11_within_6 : decode cX11_within 6 = .ok (.iload_n 2, 1) := by decide +kernel
theorem dX11_within_7 : decode cX11_within 7 = .ok (.if_icmp .gt 7, 3) := by decide +kernel
theorem dX11_within_10 : decode cX11_within 10 = .ok (.iconst 1, 1) := by decide +kernel
theorem dX11_within_11 : decode cX11_within 11 = .ok (.goto 4, 3) := by decide +kernel
theorem dX11_within_14 : decode cX11_within 14 = .ok (.iconst 0, 1) := by decide +kernel
theorem dX11_within_15 : decode cX11_within 15 = .ok (.ireturn, 1) := by decide +kernel
theorem dX11_isUnder_0 : decode cX11_isUnder 0 = .ok (.iload_n 0, 1) := by decide +kernel
theorem dX11_isUnder_1 : decode cX11_isUnder 1 = .ok (.istore_n 2, 1) := by decide +kernel
theorem dX11_isUnder_2 : decode cX11_isUnder 2 = .ok (.iconst 0, 1) := by decide +kernel
theorem dX11_isUnder_3 : decode cX11_isUnder 3 = .ok (.istore_n 3, 1) := by decide +kernel
theorem dX11_isUnder_4 : decode cX11_isUnder 4 = .ok (.iload_n 3, 1) := by decide +kernel
theorem dX11_isUnder_5 : decode cX11_isUnder 5 = .ok (.iconst 4, 1) := by decide +kernel
theorem dX11_isUnder_6 : decode cX11_isUnder 6 = .ok (.if_icmp .ge 24, 3) := by decide +kernel
theorem dX11_isUnder_9 : decode cX11_isUnder 9 = .ok (.iload_n 2, 1) := by decide +kernel
theorem dX11_isUnder_10 : decode cX11_isUnder 10 = .ok (.ifCond .lt 20, 3) := by decide +kernel
theorem dX11_isUnder_13 : decode cX11_isUnder 13 = .ok (.iload_n 2, 1) := by decide +kernel
theorem dX11_isUnder_14 : decode cX11_isUnder 14 = .ok (.iload_n 1, 1) := by decide +kernel
theorem dX11_isUnder_15 : decode cX11_isUnder 15 = .ok (.if_icmp .eq 15, 3) := by decide +kernel
theorem dX11_isUnder_18 : decode cX11_isUnder 18 = .ok (.getstatic 353, 3) := by decide +kernel
theorem dX11_isUnder_21 : decode cX11_isUnder 21 = .ok (.iload_n 2, 1) := by decide +kernel
theorem dX11_isUnder_22 : decode cX11_isUnder 22 = .ok (.iaload, 1) := by decide +kernel
theorem dX11_isUnder_23 : decode cX11_isUnder 23 = .ok (.istore_n 2, 1) := by decide +kernel
theorem dX11_isUnder_24 : decode cX11_isUnder 24 = .ok (.iinc 3 1, 3) := by decide +kernel
theorem dX11_isUnder_27 : decode cX11_isUnder 27 = .ok (.goto (-23), 3) := by decide +kernel
theorem dX11_isUnder_30 : decode cX11_isUnder 30 = .ok (.iload_n 2, 1) := by decide +kernel
theorem dX11_isUnder_31 : decode cX11_isUnder 31 = .ok (.iload_n 1, 1) := by decide +kernel
theorem dX11_isUnder_32 : decode cX11_isUnder 32 = .ok (.if_icmp .ne 7, 3) := by decide +kernel
theorem dX11_isUnder_35 : decode cX11_isUnder 35 = .ok (.iconst 1, 1) := by decide +kernel
theorem dX11_isUnder_36 : decode cX11_isUnder 36 = .ok (.goto 4, 3) := by decide +kernel
theorem dX11_isUnder_39 : decode cX11_isUnder 39 = .ok (.iconst 0, 1) := by decide +kernel
theorem dX11_isUnder_40 : decode cX11_isUnder 40 = .ok (.ireturn, 1) := by decide +kernel
theorem dX12_init_0 : decode cX12_init 0 = .ok (.aload_n 0, 1) := by decide +kernel
theorem dX12_init_1 : decode cX12_init 1 = .ok (.invokespecial 1, 3) := by decide +kernel
theorem dX12_init_4 : decode cX12_init 4 = .ok (.aload_n 0, 1) := by decide +kernel
theorem dX12_init_5 : decode cX12_init 5 = .ok (.bipush 40, 2) := by decide +kernel
theorem dX12_init_7 : decode cX12_init 7 = .ok (.putfield 7, 3) := by decide +kernel
theorem dX12_init_10 : decode cX12_init 10 = .ok (.aload_n 0, 1) := by decide +kernel
theorem dX12_init_11 : decode cX12_init 11 = .ok (.bipush 60, 2) := by decide +kernel
theorem dX12_init_13 : decode cX12_init 13 = .ok (.putfield 13, 3) := by decide +kernel
theorem dX12_init_16 : decode cX12_init 16 = .ok (.aload_n 0, 1) := by decide +kernel
theorem dX12_init_17 : decode cX12_init 17 = .ok (.bipush 14, 2) := by decide +kernel
theorem dX12_init_19 : decode cX12_init 19 = .ok (.newarray .int, 2) := by decide +kernel
theorem dX12_init_21 : decode cX12_init 21 = .ok (.putfield 16, 3) := by decide +kernel
theorem dX12_init_24 : decode cX12_init 24 = .ok (.aload_n 0, 1) := by decide +kernel
theorem dX12_init_25 : decode cX12_init 25 = .ok (.bipush 14, 2) := by decide +kernel
theorem dX12_init_27 : decode cX12_init 27 = .ok (.newarray .int, 2) := by decide +kernel
theorem dX12_init_29 : decode cX12_init 29 = .ok (.putfield 20, 3) := by decide +kernel
theorem dX12_init_32 : decode cX12_init 32 = .ok (.aload_n 0, 1) := by decide +kernel
theorem dX12_init_33 : decode cX12_init 33 = .ok (.bipush 14, 2) := by decide +kernel
theorem dX12_init_35 : decode cX12_init 35 = .ok (.newarray .int, 2) := by decide +kernel
theorem dX12_init_37 : decode cX12_init 37 = .ok (.putfield 23, 3) := by decide +kernel
theorem dX12_init_40 : decode cX12_init 40 = .ok (.aload_n 0, 1) := by decide +kernel
theorem dX12_init_41 : decode cX12_init 41 = .ok (.bipush 14, 2) := by decide +kernel
theorem dX12_init_43 : decode cX12_init 43 = .ok (.newarray .boolean, 2) := by decide +kernel
theorem dX12_init_45 : decode cX12_init 45 = .ok (.putfield 26, 3) := by decide +kernel
theorem dX12_init_48 : decode cX12_init 48 = .ok (.aload_n 0, 1) := by decide +kernel
theorem dX12_init_49 : decode cX12_init 49 = .ok (.iconst 4, 1) := by decide +kernel
theorem dX12_init_50 : decode cX12_init 50 = .ok (.newarray .int, 2) := by decide +kernel
theorem dX12_init_52 : decode cX12_init 52 = .ok (.putfield 30, 3) := by decide +kernel
theorem dX12_init_55 : decode cX12_init 55 = .ok (.aload_n 0, 1) := by decide +kernel
theorem dX12_init_56 : decode cX12_init 56 = .ok (.iconst 4, 1) := by decide +kernel
theorem dX12_init_57 : decode cX12_init 57 = .ok (.newarray .int, 2) := by decide +kernel
theorem dX12_init_59 : decode cX12_init 59 = .ok (.putfield 33, 3) := by decide +kernel
theorem dX12_init_62 : decode cX12_init 62 = .ok (.aload_n 0, 1) := by decide +kernel
theorem dX12_init_63 : decode cX12_init 63 = .ok (.iconst 4, 1) := by decide +kernel
theorem dX12_init_64 : decode cX12_init 64 = .ok (.newarray .int, 2) := by decide +kernel
theorem dX12_init_66 : decode cX12_init 66 = .ok (.putfield 36, 3) := by decide +kernel
theorem dX12_init_69 : decode cX12_init 69 = .ok (.aload_n 0, 1) := by decide +kernel
theorem dX12_init_70 : decode cX12_init 70 = .ok (.iconst 4, 1) := by decide +kernel
theorem dX12_init_71 : decode cX12_init 71 = .ok (.newarray .int, 2) := by decide +kernel
theorem dX12_init_73 : decode cX12_init 73 = .ok (.putfield 39, 3) := by decide +kernel
theorem dX12_init_76 : decode cX12_init 76 = .ok (.aload_n 0, 1) := by decide +kernel
theorem dX12_init_77 : decode cX12_init 77 = .ok (.bipush 10, 2) := by decide +kernel
theorem dX12_init_79 : decode cX12_init 79 = .ok (.newarray .int, 2) := by decide +kernel
theorem dX12_init_81 : decode cX12_init 81 = .ok (.putfield 42, 3) := by decide +kernel
theorem dX12_init_84 : decode cX12_init 84 = .ok (.aload_n 0, 1) := by decide +kernel
theorem dX12_init_85 : decode cX12_init 85 = .ok (.bipush 10, 2) := by decide +kernel
theorem dX12_init_87 : decode cX12_init 87 = .ok (.newarray .int, 2) := by decide +kernel
theorem dX12_init_89 : decode cX12_init 89 = .ok (.putfield 45, 3) := by decide +kernel
theorem dX12_init_92 : decode cX12_init 92 = .ok (.aload_n 0, 1) := by decide +kernel
theorem dX12_init_93 : decode cX12_init 93 = .ok (.bipush 10, 2) := by decide +kernel
theorem dX12_init_95 : decode cX12_init 95 = .ok (.newarray .int, 2) := by decide +kernel
theorem dX12_init_97 : decode cX12_init 97 = .ok (.putfield 48, 3) := by decide +kernel
theorem dX12_init_100 : decode cX12_init 100 = .ok (.aload_n 0, 1) := by decide +kernel
theorem dX12_init_101 : decode cX12_init 101 = .ok (.bipush 10, 2) := by decide +kernel
theorem dX12_init_103 : decode cX12_init 103 = .ok (.newarray .int, 2) := by decide +kernel
theorem dX12_init_105 : decode cX12_init 105 = .ok (.putfield 51, 3) := by decide +kernel
theorem dX12_init_108 : decode cX12_init 108 = .ok (.aload_n 0, 1) := by decide +kernel
theorem dX12_init_109 : decode cX12_init 109 = .ok (.bipush 8, 2) := by decide +kernel
theorem dX12_init_111 : decode cX12_init 111 = .ok (.newarray .int, 2) := by decide +kernel
theorem dX12_init_113 : decode cX12_init 113 = .ok (.putfield 54, 3) := by decide +kernel
theorem dX12_init_116 : decode cX12_init 116 = .ok (.aload_n 0, 1) := by decide +kernel
theorem dX12_init_117 : decode cX12_init 117 = .ok (.bipush 8, 2) := by decide +kernel
theorem dX12_init_119 : decode cX12_init 119 = .ok (.newarray .int, 2) := by decide +kernel
theorem dX12_init_121 : decode cX12_init 121 = .ok (.putfield 57, 3) := by decide +kernel
theorem dX12_init_124 : decode cX12_init 124 = .ok (.aload_n 0, 1) := by decide +kernel
theorem dX12_init_125 : decode cX12_init 125 = .ok (.bipush 8, 2) := by decide +kernel
theorem dX12_init_127 : decode cX12_init 127 = .ok (.newarray .int, 2) := by decide +kernel
theorem dX12_init_129 : decode cX12_init 129 = .ok (.putfield 60, 3) := by decide +kernel
theorem dX12_init_132 : decode cX12_init 132 = .ok (.aload_n 0, 1) := by decide +kernel
theorem dX12_init_133 : decode cX12_init 133 = .ok (.bipush 60, 2) := by decide +kernel
theorem dX12_init_135 : decode cX12_init 135 = .ok (.newarray .int, 2) := by decide +kernel
theorem dX12_init_137 : decode cX12_init 137 = .ok (.putfield 63, 3) := by decide +kernel
theorem dX12_init_140 : decode cX12_init 140 = .ok (.aload_n 0, 1) := by decide +kernel
theorem dX12_init_141 : decode cX12_init 141 = .ok (.iconst 4, 1) := by decide +kernel
theorem dX12_init_142 : decode cX12_init 142 = .ok (.newarray .int, 2) := by decide +kernel
theorem dX12_init_144 : decode cX12_init 144 = .ok (.putfield 66, 3) := by decide +kernel
theorem dX12_init_147 : decode cX12_init 147 = .ok (.aload_n 0, 1) := by decide +kernel
theorem dX12_init_148 : decode cX12_init 148 = .ok (.iconst 4, 1) := by decide +kernel
theorem dX12_init_149 : decode cX12_init 149 = .ok (.newarray .int, 2) := by decide +kernel
theorem dX12_init_151 : decode cX12_init 151 = .ok (.putfield 69, 3) := by decide +kernel
theorem dX12_init_154 : decode cX12_init 154 = .ok (.aload_n 0, 1) := by decide +kernel
theorem dX12_init_155 : decode cX12_init 155 = .ok (.bipush 40, 2) := by decide +kernel
theorem dX12_init_157 : decode cX12_init 157 = .ok (.newarray .int, 2) := by decide +kernel
theorem dX12_init_159 : decode cX12_init 159 = .ok (.putfield 72, 3) := by decide +kernel
theorem dX12_init_162 : decode cX12_init 162 = .ok (.aload_n 0, 1) := by decide +kernel
theorem dX12_init_163 : decode cX12_init 163 = .ok (.bipush 64, 2) := by decide +kernel
theorem dX12_init_165 : decode cX12_init 165 = .ok (.newarray .int, 2) := by decide +kernel
theorem dX12_init_167 : decode cX12_init 167 = .ok (.putfield 75, 3) := by decide +kernel
theorem dX12_init_170 : decode cX12_init 170 = .ok (.aload_n 0, 1) := by decide +kernel
theorem dX12_init_171 : decode cX12_init 171 = .ok (.sipush 10240, 3) := by decide +kernel
theorem dX12_init_174 : decode cX12_init 174 = .ok (.newarray .int, 2) := by decide +kernel
theorem dX12_init_176 : decode cX12_init 176 = .ok (.putfield 78, 3) := by decide +kernel
theorem dX12_init_179 : decode cX12_init 179 = .ok (.aload_n 0, 1) := by decide +kernel
theorem dX12_init_180 : decode cX12_init 180 = .ok (.sipush 1024, 3) := by decide +kernel
theorem dX12_init_183 : decode cX12_init 183 = .ok (.newarray .int, 2) := by decide +kernel
theorem dX12_init_185 : decode cX12_init 185 = .ok (.putfield 81, 3) := by decide +kernel
theorem dX12_init_188 : decode cX12_init 188 = .ok (.aload_n 0, 1) := by decide +kernel
theorem dX12_init_189 : decode cX12_init 189 = .ok (.sipush 1024, 3) := by decide +kernel
theorem dX12_init_192 : decode cX12_init 192 = .ok (.newarray .int, 2) := by decide +kernel
theorem dX12_init_194 : decode cX12_init 194 = .ok (.putfield 84, 3) := by decide +kernel
theorem dX12_init_197 : decode cX12_init 197 = .ok (.aload_n 0, 1) := by decide +kernel
theorem dX12_init_198 : decode cX12_init 198 = .ok (.sipush 1024, 3) := by decide +kernel
theorem dX12_init_201 : decode cX12_init 201 = .ok (.newarray .int, 2) := by decide +kernel
theorem dX12_init_203 : decode cX12_init 203 = .ok (.putfield 87, 3) := by decide +kernel
theorem dX12_init_206 : decode cX12_init 206 = .ok (.aload_n 0, 1) := by decide +kernel
theorem dX12_init_207 : decode cX12_init 207 = .ok (.sipush 1024, 3) := by decide +kernel
theorem dX12_init_210 : decode cX12_init 210 = .ok (.newarray .int, 2) := by decide +kernel
theorem dX12_init_212 : decode cX12_init 212 = .ok (.putfield 90, 3) := by decide +kernel
theorem dX12_init_215 : decode cX12_init 215 = .ok (.aload_n 0, 1) := by decide +kernel
theorem dX12_init_216 : decode cX12_init 216 = .ok (.bipush 10, 2) := by decide +kernel
theorem dX12_init_218 : decode cX12_init 218 = .ok (.newarray .int, 2) := by decide +kernel
theorem dX12_init_220 : decode cX12_init 220 = .ok (.putfield 93, 3) := by decide +kernel
theorem dX12_init_223 : decode cX12_init 223 = .ok (.aload_n 0, 1) := by decide +kernel
theorem dX12_init_224 : decode cX12_init 224 = .ok (.bipush 10, 2) := by decide +kernel
theorem dX12_init_226 : decode cX12_init 226 = .ok (.newarray .int, 2) := by decide +kernel
theorem dX12_init_228 : decode cX12_init 228 = .ok (.putfield 96, 3) := by decide +kernel
theorem dX12_init_231 : decode cX12_init 231 = .ok (.aload_n 0, 1) := by decide +kernel
theorem dX12_init_232 : decode cX12_init 232 = .ok (.bipush 10, 2) := by decide +kernel
theorem dX12_init_234 : decode cX12_init 234 = .ok (.newarray .int, 2) := by decide +kernel
theorem dX12_init_236 : decode cX12_init 236 = .ok (.putfield 99, 3) := by decide +kernel
theorem dX12_init_239 : decode cX12_init 239 = .ok (.aload_n 0, 1) := by decide +kernel
theorem dX12_init_240 : decode cX12_init 240 = .ok (.iconst 4, 1) := by decide +kernel
theorem dX12_init_241 : decode cX12_init 241 = .ok (.newarray .int, 2) := by decide +kernel
theorem dX12_init_243 : decode cX12_init 243 = .ok (.putfield 102, 3) := by decide +kernel
theorem dX12_init_246 : decode cX12_init 246 = .ok (.aload_n 0, 1) := by decide +kernel
theorem dX12_init_247 : decode cX12_init 247 = .ok (.iconst 4, 1) := by decide +kernel
theorem dX12_init_248 : decode cX12_init 248 = .ok (.newarray .int, 2) := by decide +kernel
theorem dX12_init_250 : decode cX12_init 250 = .ok (.putfield 105, 3) := by decide +kernel
theorem dX12_init_253 : decode cX12_init 253 = .ok (.aload_n 0, 1) := by decide +kernel
theorem dX12_init_254 : decode cX12_init 254 = .ok (.iconst 4, 1) := by decide +kernel
theorem dX12_init_255 : decode cX12_init 255 = .ok (.newarray .int, 2) := by decide +kernel
theorem dX12_init_257 : decode cX12_init 257 = .ok (.putfield 108, 3) := by decide +kernel
theorem dX12_init_260 : decode cX12_init 260 = .ok (.aload_n 0, 1) := by decide +kernel
theorem dX12_init_261 : decode cX12_init 261 = .ok (.bipush 10, 2) := by decide +kernel
theorem dX12_init_263 : decode cX12_init 263 = .ok (.newarray .int, 2) := by decide +kernel
theorem dX12_init_265 : decode cX12_init 265 = .ok (.putfield 111, 3) := by decide +kernel
theorem dX12_init_268 : decode cX12_init 268 = .ok (.aload_n 0, 1) := by decide +kernel
theorem dX12_init_269 : decode cX12_init 269 = .ok (.sipush 11264, 3) := by decide +kernel
theorem dX12_init_272 : decode cX12_init 272 = .ok (.newarray .int, 2) := by decide +kernel
theorem dX12_init_274 : decode cX12_init 274 = .ok (.putfield 114, 3) := by decide +kernel
theorem dX12_init_277 : decode cX12_init 277 = .ok (.aload_n 0, 1) := by decide +kernel
theorem dX12_init_278 : decode cX12_init 278 = .ok (.bipush 10, 2) := by decide +kernel
theorem dX12_init_280 : decode cX12_init 280 = .ok (.newarray .int, 2) := by decide +kernel
theorem dX12_init_282 : decode cX12_init 282 = .ok (.putfield 117, 3) := by decide +kernel
theorem dX12_init_285 : decode cX12_init 285 = .ok (.aload_n 0, 1) := by decide +kernel
theorem dX12_init_286 : decode cX12_init 286 = .ok (.bipush 10, 2) := by decide +kernel
theorem dX12_init_288 : decode cX12_init 288 = .ok (.newarray .int, 2) := by decide +kernel
theorem dX12_init_290 : decode cX12_init 290 = .ok (.putfield 120, 3) := by decide +kernel
theorem dX12_init_293 : decode cX12_init 293 = .ok (.aload_n 0, 1) := by decide +kernel
theorem dX12_init_294 : decode cX12_init 294 = .ok (.bipush 10, 2) := by decide +kernel
theorem dX12_init_296 : decode cX12_init 296 = .ok (.newarray .int, 2) := by decide +kernel
theorem dX12_init_298 : decode cX12_init 298 = .ok (.putfield 123, 3) := by decide +kernel
theorem dX12_init_301 : decode cX12_init 301 = .ok (.aload_n 0, 1) := by decide +kernel
theorem dX12_init_302 : decode cX12_init 302 = .ok (.bipush 10, 2) := by decide +kernel
theorem dX12_init_304 : decode cX12_init 304 = .ok (.newarray .int, 2) := by decide +kernel
theorem dX12_init_306 : decode cX12_init 306 = .ok (.putfield 126, 3) := by decide +kernel
theorem dX12_init_309 : decode cX12_init 309 = .ok (.aload_n 0, 1) := by decide +kernel
theorem dX12_init_310 : decode cX12_init 310 = .ok (.bipush 11, 2) := by decide +kernel
theorem dX12_init_312 : decode cX12_init 312 = .ok (.newarray .int, 2) := by decide +kernel
theorem dX12_init_314 : decode cX12_init 314 = .ok (.putfield 129, 3) := by decide +kernel
theorem dX12_init_317 : decode cX12_init 317 = .ok (.aload_n 0, 1) := by decide +kernel
theorem dX12_init_318 : decode cX12_init 318 = .ok (.bipush 11, 2) := by decide +kernel
theorem dX12_init_320 : decode cX12_init 320 = .ok (.newarray .int, 2) := by decide +kernel
theorem dX12_init_322 : decode cX12_init 322 = .ok (.putfield 132, 3) := by decide +kernel
theorem dX12_init_325 : decode cX12_init 325 = .ok (.aload_n 0, 1) := by decide +kernel
theorem dX12_init_326 : decode cX12_init 326 = .ok (.bipush 11, 2) := by decide +kernel
theorem dX12_init_328 : decode cX12_init 328 = .ok (.newarray .int, 2) := by decide +kernel
theorem dX12_init_330 : decode cX12_init 330 = .ok (.putfield 135, 3) := by decide +kernel
theorem dX12_init_333 : decode cX12_init 333 = .ok (.aload_n 0, 1) := by decide +kernel
theorem dX12_init_334 : decode cX12_init 334 = .ok (.bipush 44, 2) := by decide +kernel
theorem dX12_init_336 : decode cX12_init 336 = .ok (.newarray .int, 2) := by decide +kernel
theorem dX12_init_338 : decode cX12_init 338 = .ok (.putfield 138, 3) := by decide +kernel
theorem dX12_init_341 : decode cX12_init 341 = .ok (.aload_n 0, 1) := by decide +kernel
theorem dX12_init_342 : decode cX12_init 342 = .ok (.bipush 44, 2) := by decide +kernel
theorem dX12_init_344 : decode cX12_init 344 = .ok (.newarray .int, 2) := by decide +kernel
theorem dX12_init_346 : decode cX12_init 346 = .ok (.putfield 141, 3) := by decide +kernel
theorem dX12_init_349 : decode cX12_init 349 = .ok (.aload_n 0, 1) := by decide +kernel
theorem dX12_init_350 : decode cX12_init 350 = .ok (.bipush 10, 2) := by decide +kernel
theorem dX12_init_352 : decode cX12_init 352 = .ok (.newarray .int, 2) := by decide +kernel
theorem dX12_init_354 : decode cX12_init 354 = .ok (.putfield 144, 3) := by decide +kernel
theorem dX12_init_357 : decode cX12_init 357 = .ok (.aload_n 0, 1) := by decide +kernel
theorem dX12_init_358 : decode cX12_init 358 = .ok (.bipush 110, 2) := by decide +kernel
theorem dX12_init_360 : decode cX12_init 360 = .ok (.newarray .int, 2) := by decide +kernel
theorem dX12_init_362 : decode cX12_init 362 = .ok (.putfield 147, 3) := by decide +kernel
theorem dX12_init_365 : decode cX12_init 365 = .ok (.aload_n 0, 1) := by decide +kernel
theorem dX12_init_366 : decode cX12_init 366 = .ok (.bipush 10, 2) := by decide +kernel
theorem dX12_init_368 : decode cX12_init 368 = .ok (.newarray .int, 2) := by decide +kernel
theorem dX12_init_370 : decode cX12_init 370 = .ok (.putfield 150, 3) := by decide +kernel
theorem dX12_init_373 : decode cX12_init 373 = .ok (.return_, 1) := by decide +kernel
theorem dX12_in_0 : decode cX12_in 0 = .ok (.iload_n 0, 1) := by decide +kernel
theorem dX12_in_1 : decode cX12_in 1 = .ok (.iload_n 1, 1) := by decide +kernel
theorem dX12_in_2 : decode cX12_in 2 = .ok (.if_icmp .lt 12, 3) := by decide +kernel
theorem dX12_in_5 : decode cX12_in 5 = .ok (.iload_n 0, 1) := by decide +kernel
theorem dX12_in_6 : decode cX12_in 6 = .ok (.iload_n 2, 1) := by decide +kernel
theorem dX12_in_7 : decode cX12_in 7 = .ok (.if_icmp .gt 7, 3) := by decide +kernel
theorem dX12_in_10 : decode cX12_in 10 = .ok (.iconst 1, 1) := by decide +kernel
theorem dX12_in_11 : decode cX12_in 11 = .ok (.goto 4, 3) := by decide +kernel
theorem dX12_in_14 : decode cX12_in 14 = .ok (.iconst 0, 1) := by decide +kernel
theorem dX12_in_15 : decode cX12_in 15 = .ok (.ireturn, 1) := by decide +kernel
theorem dX12_finds_0 : decode cX12_finds 0 = .ok (.aload_n 0, 1) := by decide +kernel
theorem dX12_finds_1 : decode cX12_finds 1 = .ok (.dup, 1) := by decide +kernel
theorem dX12_finds_2 : decode cX12_finds 2 = .ok (.getfield 153, 3) := by decide +kernel
theorem dX12_finds_5 : decode cX12_finds 5 = .ok (.iconst 1, 1) := by decide +kernel
theorem dX12_finds_6 : decode cX12_finds 6 = .ok (.iadd, 1) := by decide +kernel
theorem dX12_finds_7 : decode cX12_finds 7 = .ok (.putfield 153, 3) := by decide +kernel
theorem dX12_finds_10 : decode cX12_finds 10 = .ok (.iload_n 1, 1) := by decide +kernel
theorem dX12_finds_11 : decode cX12_finds 11 = .ok (.ireturn, 1) := by decide +kernel
theorem dX12_isCorner_0 : decode cX12_isCorner 0 = .ok (.iload_n 1, 1) := by decide +kernel
theorem dX12_isCorner_1 : decode cX12_isCorner 1 = .ok (.iconst 0, 1) := by decide +kernel
theorem dX12_isCorner_2 : decode cX12_isCorner 2 = .ok (.aload_n 0, 1) := by decide +kernel
theorem dX12_isCorner_3 : decode cX12_isCorner 3 = .ok (.getfield 156, 3) := by decide +kernel
theorem dX12_isCorner_6 : decode cX12_isCorner 6 = .ok (.iconst 1, 1) := by decide +kernel
theorem dX12_isCorner_7 : decode cX12_isCorner 7 = .ok (.isub, 1) := by decide +kernel
theorem dX12_isCorner_8 : decode cX12_isCorner 8 = .ok (.invokestatic 159, 3) := by decide +kernel
theorem dX12_isCorner_11 : decode cX12_isCorner 11 = .ok (.ireturn, 1) := by decide +kernel
theorem dX12_isSchool_0 : decode cX12_isSchool 0 = .ok (.iload_n 1, 1) := by decide +kernel
theorem dX12_isSchool_1 : decode cX12_isSchool 1 = .ok (.iconst 0, 1) := by decide +kernel
theorem dX12_isSchool_2 : decode cX12_isSchool 2 = .ok (.aload_n 0, 1) := by decide +kernel
theorem dX12_isSchool_3 : decode cX12_isSchool 3 = .ok (.getfield 163, 3) := by decide +kernel
theorem dX12_isSchool_6 : decode cX12_isSchool 6 = .ok (.iconst 1, 1) := by decide +kernel
theorem dX12_isSchool_7 : decode cX12_isSchool 7 = .ok (.isub, 1) := by decide +kernel
theorem dX12_isSchool_8 : decode cX12_isSchool 8 = .ok (.invokestatic 159, 3) := by decide +kernel
theorem dX12_isSchool_11 : decode cX12_isSchool 11 = .ok (.ireturn, 1) := by decide +kernel
theorem dX12_isStop_0 : decode cX12_isStop 0 = .ok (.iload_n 1, 1) := by decide +kernel
theorem dX12_isStop_1 : decode cX12_isStop 1 = .ok (.iconst 0, 1) := by decide +kernel
theorem dX12_isStop_2 : decode cX12_isStop 2 = .ok (.aload_n 0, 1) := by decide +kernel
theorem dX12_isStop_3 : decode cX12_isStop 3 = .ok (.getfield 166, 3) := by decide +kernel
theorem dX12_isStop_6 : decode cX12_isStop 6 = .ok (.iconst 1, 1) := by decide +kernel
theorem dX12_isStop_7 : decode cX12_isStop 7 = .ok (.isub, 1) := by decide +kernel
theorem dX12_isStop_8 : decode cX12_isStop 8 = .ok (.invokestatic 159, 3) := by decide +kernel
theorem dX12_isStop_11 : decode cX12_isStop 11 = .ok (.ireturn, 1) := by decide +kernel
theorem dX12_has_0 : decode cX12_has 0 = .ok (.iload_n 0, 1) := by decide +kernel
theorem dX12_has_1 : decode cX12_has 1 = .ok (.iload_n 1, 1) := by decide +kernel
theorem dX12_has_2 : decode cX12_has 2 = .ok (.ishr, 1) := by decide +kernel
theorem dX12_has_3 : decode cX12_has 3 = .ok (.iconst 1, 1) := by decide +kernel
theorem dX12_has_4 : decode cX12_has 4 = .ok (.iand, 1) := by decide +kernel
theorem dX12_has_5 : decode cX12_has 5 = .ok (.iconst 1, 1) := by decide +kernel
theorem dX12_has_6 : decode cX12_has 6 = .ok (.if_icmp .ne 7, 3) := by decide +kernel
theorem dX12_has_9 : decode cX12_has 9 = .ok (.iconst 1, 1) := by decide +kernel
theorem dX12_has_10 : decode cX12_has 10 = .ok (.goto 4, 3) := by decide +kernel
theorem dX12_has_13 : decode cX12_has 13 = .ok (.iconst 0, 1) := by decide +kernel
theorem dX12_has_14 : decode cX12_has 14 = .ok (.ireturn, 1) := by decide +kernel
theorem dX12_another_0 : decode cX12_another 0 = .ok (.aload_n 0, 1) := by decide +kernel
theorem dX12_another_1 : decode cX12_another 1 = .ok (.iconst 0, 1) := by decide +kernel
theorem dX12_another_2 : decode cX12_another 2 = .ok (.putfield 169, 3) := by decide +kernel
theorem dX12_another_5 : decode cX12_another 5 = .ok (.aload_n 0, 1) := by decide +kernel
theorem dX12_another_6 : decode cX12_another 6 = .ok (.iconst 0, 1) := by decide +kernel
theorem dX12_another_7 : decode cX12_another 7 = .ok (.putfield 173, 3) := by decide +kernel
theorem dX12_another_10 : decode cX12_another 10 = .ok (.return_, 1) := by decide +kernel
theorem dX12_corner_0 : decode cX12_corner 0 = .ok (.aload_n 0, 1) := by decide +kernel
theorem dX12_corner_1 : decode cX12_corner 1 = .ok (.getfield 156, 3) := by decide +kernel
theorem dX12_corner_4 : decode cX12_corner 4 = .ok (.bipush 8, 2) := by decide +kernel
theorem dX12_corner_6 : decode cX12_corner 6 = .ok (.if_icmp .ne 10, 3) := by decide +kernel
theorem dX12_corner_9 : decode cX12_corner 9 = .ok (.aload_n 0, 1) := by decide +kernel
theorem dX12_corner_10 : decode cX12_corner 10 = .ok (.ldc 176, 2) := by decide +kernel
theorem dX12_corner_12 : decode cX12_corner 12 = .ok (.invokevirtual 177, 3) := by decide +kernel
theorem dX12_corner_15 : decode cX12_corner 15 = .ok (.ireturn, 1) := by decide +kernel
theorem dX12_corner_16 : decode cX12_corner 16 = .ok (.aload_n 0, 1) := by decide +kernel
theorem dX12_corner_17 : decode cX12_corner 17 = .ok (.dup, 1) := by decide +kernel
theorem dX12_corner_18 : decode cX12_corner 18 = .ok (.getfield 156, 3) := by decide +kernel
theorem dX12_corner_21 : decode cX12_corner 21 = .ok (.iconst 1, 1) := by decide +kernel
theorem dX12_corner_22 : decode cX12_corner 22 = .ok (.iadd, 1) := by decide +kernel
theorem dX12_corner_23 : decode cX12_corner 23 = .ok (.putfield 156, 3) := by decide +kernel
theorem dX12_corner_26 : decode cX12_corner 26 = .ok (.aload_n 0, 1) := by decide +kernel
theorem dX12_corner_27 : decode cX12_corner 27 = .ok (.getfield 156, 3) := by decide +kernel
theorem dX12_corner_30 : decode cX12_corner 30 = .ok (.iconst 1, 1) := by decide +kernel
theorem dX12_corner_31 : decode cX12_corner 31 = .ok (.isub, 1) := by decide +kernel
theorem dX12_corner_32 : decode cX12_corner 32 = .ok (.ireturn, 1) := by decide +kernel
theorem dX12_street_0 : decode cX12_street 0 = .ok (.aload_n 0, 1) := by decide +kernel
theorem dX12_street_1 : decode cX12_street 1 = .ok (.iload_n 1, 1) := by decide +kernel
theorem dX12_street_2 : decode cX12_street 2 = .ok (.invokevirtual 181, 3) := by decide +kernel
theorem dX12_street_5 : decode cX12_street 5 = .ok (.ifCond .eq 26, 3) := by decide +kernel
theorem dX12_street_8 : decode cX12_street 8 = .ok (.aload_n 0, 1) := by decide +kernel
theorem dX12_street_9 : decode cX12_street 9 = .ok (.iload_n 2, 1) := by decide +kernel
theorem dX12_street_10 : decode cX12_street 10 = .ok (.invokevirtual 181, 3) := by decide +kernel
theorem dX12_street_13 : decode cX12_street 13 = .ok (.ifCond .eq 18, 3) := by decide +kernel
theorem dX12_street_16 : decode cX12_street 16 = .ok (.iload_n 1, 1) := by decide +kernel
theorem dX12_street_17 : decode cX12_street 17 = .ok (.iload_n 2, 1) := by decide +kernel
theorem dX12_street_18 : decode cX12_street 18 = .ok (.if_icmp .eq 13, 3) := by decide +kernel
theorem dX12_street_21 : decode cX12_street 21 = .ok (.iload_n 3, 1) := by decide +kernel
theorem dX12_street_22 : decode cX12_street 22 = .ok (.iconst 1, 1) := by decide +kernel
theorem dX12_street_23 : decode cX12_street 23 = .ok (.bipush 20, 2) := by decide +kernel
theorem dX12_street_25 : decode cX12_street 25 = .ok (.invokestatic 159, 3) := by decide +kernel
theorem dX12_street_28 : decode cX12_street 28 = .ok (.ifCond .ne 10, 3) := by decide +kernel
theorem dX12_street_31 : decode cX12_street 31 = .ok (.aload_n 0, 1) := by decide +kernel
theorem dX12_street_32 : decode cX12_street 32 = .ok (.ldc 185, 2) := by decide +kernel
theorem dX12_street_34 : decode cX12_street 34 = .ok (.invokevirtual 177, 3) := by decide +kernel
theorem dX12_street_37 : decode cX12_street 37 = .ok (.ireturn, 1) := by decide +kernel
theorem dX12_street_38 : decode cX12_street 38 = .ok (.aload_n 0, 1) := by decide +kernel
end
section
theorem dX12_street_39 : decode cX12_street 39 = .ok (.getfield 186, 3) := by decide +kernel
theorem dX12_street_42 : decode cX12_street 42 = .ok (.bipush 14, 2) := by decide +kernel
theorem dX12_street_44 : decode cX12_street 44 = .ok (.if_icmp .ne 10, 3) := by decide +kernel
theorem dX12_street_47 : decode cX12_street 47 = .ok (.aload_n 0, 1) := by decide +kernel
theorem dX12_street_48 : decode cX12_street 48 = .ok (.ldc 176, 2) := by decide +kernel
theorem dX12_street_50 : decode cX12_street 50 = .ok (.invokevirtual 177, 3) := by decide +kernel
theorem dX12_street_53 : decode cX12_street 53 = .ok (.ireturn, 1) := by decide +kernel
theorem dX12_street_54 : decode cX12_street 54 = .ok (.aload_n 0, 1) := by decide +kernel
theorem dX12_street_55 : decode cX12_street 55 = .ok (.getfield 16, 3) := by decide +kernel
theorem dX12_street_58 : decode cX12_street 58 = .ok (.aload_n 0, 1) := by decide +kernel
theorem dX12_street_59 : decode cX12_street 59 = .ok (.getfield 186, 3) := by decide +kernel
theorem dX12_street_62 : decode cX12_street 62 = .ok (.iload_n 1, 1) := by decide +kernel
theorem dX12_street_63 : decode cX12_street 63 = .ok (.iastore, 1) := by decide +kernel
theorem dX12_street_64 : decode cX12_street 64 = .ok (.aload_n 0, 1) := by decide +kernel
theorem dX12_street_65 : decode cX12_street 65 = .ok (.getfield 20, 3) := by decide +kernel
theorem dX12_street_68 : decode cX12_street 68 = .ok (.aload_n 0, 1) := by decide +kernel
theorem dX12_street_69 : decode cX12_street 69 = .ok (.getfield 186, 3) := by decide +kernel
theorem dX12_street_72 : decode cX12_street 72 = .ok (.iload_n 2, 1) := by decide +kernel
theorem dX12_street_73 : decode cX12_street 73 = .ok (.iastore, 1) := by decide +kernel
theorem dX12_street_74 : decode cX12_street 74 = .ok (.aload_n 0, 1) := by decide +kernel
theorem dX12_street_75 : decode cX12_street 75 = .ok (.getfield 23, 3) := by decide +kernel
theorem dX12_street_78 : decode cX12_street 78 = .ok (.aload_n 0, 1) := by decide +kernel
theorem dX12_street_79 : decode cX12_street 79 = .ok (.getfield 186, 3) := by decide +kernel
theorem dX12_street_82 : decode cX12_street 82 = .ok (.iload_n 3, 1) := by decide +kernel
theorem dX12_street_83 : decode cX12_street 83 = .ok (.iastore, 1) := by decide +kernel
theorem dX12_street_84 : decode cX12_street 84 = .ok (.aload_n 0, 1) := by decide +kernel
theorem dX12_street_85 : decode cX12_street 85 = .ok (.getfield 26, 3) := by decide +kernel
theorem dX12_street_88 : decode cX12_street 88 = .ok (.aload_n 0, 1) := by decide +kernel
theorem dX12_street_89 : decode cX12_street 89 = .ok (.getfield 186, 3) := by decide +kernel
theorem dX12_street_92 : decode cX12_street 92 = .ok (.iconst 0, 1) := by decide +kernel
theorem dX12_street_93 : decode cX12_street 93 = .ok (.bastore, 1) := by decide +kernel
theorem dX12_street_94 : decode cX12_street 94 = .ok (.aload_n 0, 1) := by decide +kernel
theorem dX12_street_95 : decode cX12_street 95 = .ok (.dup, 1) := by decide +kernel
theorem dX12_street_96 : decode cX12_street 96 = .ok (.getfield 186, 3) := by decide +kernel
theorem dX12_street_99 : decode cX12_street 99 = .ok (.iconst 1, 1) := by decide +kernel
theorem dX12_street_100 : decode cX12_street 100 = .ok (.iadd, 1) := by decide +kernel
theorem dX12_street_101 : decode cX12_street 101 = .ok (.putfield 186, 3) := by decide +kernel
theorem dX12_street_104 : decode cX12_street 104 = .ok (.aload_n 0, 1) := by decide +kernel
theorem dX12_street_105 : decode cX12_street 105 = .ok (.invokevirtual 189, 3) := by decide +kernel
theorem dX12_street_108 : decode cX12_street 108 = .ok (.aload_n 0, 1) := by decide +kernel
theorem dX12_street_109 : decode cX12_street 109 = .ok (.getfield 186, 3) := by decide +kernel
theorem dX12_street_112 : decode cX12_street 112 = .ok (.iconst 1, 1) := by decide +kernel
theorem dX12_street_113 : decode cX12_street 113 = .ok (.isub, 1) := by decide +kernel
theorem dX12_street_114 : decode cX12_street 114 = .ok (.ireturn, 1) := by decide +kernel
theorem dX12_shut_0 : decode cX12_shut 0 = .ok (.iload_n 1, 1) := by decide +kernel
theorem dX12_shut_1 : decode cX12_shut 1 = .ok (.iconst 0, 1) := by decide +kernel
theorem dX12_shut_2 : decode cX12_shut 2 = .ok (.aload_n 0, 1) := by decide +kernel
theorem dX12_shut_3 : decode cX12_shut 3 = .ok (.getfield 186, 3) := by decide +kernel
theorem dX12_shut_6 : decode cX12_shut 6 = .ok (.iconst 1, 1) := by decide +kernel
theorem dX12_shut_7 : decode cX12_shut 7 = .ok (.isub, 1) := by decide +kernel
theorem dX12_shut_8 : decode cX12_shut 8 = .ok (.invokestatic 159, 3) := by decide +kernel
theorem dX12_shut_11 : decode cX12_shut 11 = .ok (.ifCond .ne 10, 3) := by decide +kernel
theorem dX12_shut_14 : decode cX12_shut 14 = .ok (.aload_n 0, 1) := by decide +kernel
theorem dX12_shut_15 : decode cX12_shut 15 = .ok (.ldc 185, 2) := by decide +kernel
theorem dX12_shut_17 : decode cX12_shut 17 = .ok (.invokevirtual 177, 3) := by decide +kernel
theorem dX12_shut_20 : decode cX12_shut 20 = .ok (.ireturn, 1) := by decide +kernel
theorem dX12_shut_21 : decode cX12_shut 21 = .ok (.aload_n 0, 1) := by decide +kernel
theorem dX12_shut_22 : decode cX12_shut 22 = .ok (.getfield 26, 3) := by decide +kernel
theorem dX12_shut_25 : decode cX12_shut 25 = .ok (.iload_n 1, 1) := by decide +kernel
theorem dX12_shut_26 : decode cX12_shut 26 = .ok (.baload, 1) := by decide +kernel
theorem dX12_shut_27 : decode cX12_shut 27 = .ok (.istore_n 3, 1) := by decide +kernel
theorem dX12_shut_28 : decode cX12_shut 28 = .ok (.aload_n 0, 1) := by decide +kernel
theorem dX12_shut_29 : decode cX12_shut 29 = .ok (.getfield 26, 3) := by decide +kernel
theorem dX12_shut_32 : decode cX12_shut 32 = .ok (.iload_n 1, 1) := by decide +kernel
theorem dX12_shut_33 : decode cX12_shut 33 = .ok (.iload_n 2, 1) := by decide +kernel
theorem dX12_shut_34 : decode cX12_shut 34 = .ok (.bastore, 1) := by decide +kernel
theorem dX12_shut_35 : decode cX12_shut 35 = .ok (.aload_n 0, 1) := by decide +kernel
theorem dX12_shut_36 : decode cX12_shut 36 = .ok (.invokevirtual 189, 3) := by decide +kernel
theorem dX12_shut_39 : decode cX12_shut 39 = .ok (.iload_n 3, 1) := by decide +kernel
theorem dX12_shut_40 : decode cX12_shut 40 = .ok (.iload_n 2, 1) := by decide +kernel
theorem dX12_shut_41 : decode cX12_shut 41 = .ok (.if_icmp .ne 7, 3) := by decide +kernel
theorem dX12_shut_44 : decode cX12_shut 44 = .ok (.iconst 0, 1) := by decide +kernel
theorem dX12_shut_45 : decode cX12_shut 45 = .ok (.goto 4, 3) := by decide +kernel
theorem dX12_shut_48 : decode cX12_shut 48 = .ok (.iconst 1, 1) := by decide +kernel
theorem dX12_shut_49 : decode cX12_shut 49 = .ok (.ireturn, 1) := by decide +kernel
theorem dX12_findFars_0 : decode cX12_findFars 0 = .ok (.iconst 0, 1) := by decide +kernel
theorem dX12_findFars_1 : decode cX12_findFars 1 = .ok (.istore_n 2, 1) := by decide +kernel
theorem dX12_findFars_2 : decode cX12_findFars 2 = .ok (.iload_n 2, 1) := by decide +kernel
theorem dX12_findFars_3 : decode cX12_findFars 3 = .ok (.bipush 8, 2) := by decide +kernel
theorem dX12_findFars_5 : decode cX12_findFars 5 = .ok (.if_icmp .ge 45, 3) := by decide +kernel
theorem dX12_findFars_8 : decode cX12_findFars 8 = .ok (.iconst 0, 1) := by decide +kernel
theorem dX12_findFars_9 : decode cX12_findFars 9 = .ok (.istore_n 3, 1) := by decide +kernel
theorem dX12_findFars_10 : decode cX12_findFars 10 = .ok (.iload_n 3, 1) := by decide +kernel
theorem dX12_findFars_11 : decode cX12_findFars 11 = .ok (.bipush 8, 2) := by decide +kernel
theorem dX12_findFars_13 : decode cX12_findFars 13 = .ok (.if_icmp .ge 31, 3) := by decide +kernel
theorem dX12_findFars_16 : decode cX12_findFars 16 = .ok (.aload_n 0, 1) := by decide +kernel
theorem dX12_findFars_17 : decode cX12_findFars 17 = .ok (.getfield 75, 3) := by decide +kernel
theorem dX12_findFars_20 : decode cX12_findFars 20 = .ok (.bipush 8, 2) := by decide +kernel
theorem dX12_findFars_22 : decode cX12_findFars 22 = .ok (.iload_n 2, 1) := by decide +kernel
theorem dX12_findFars_23 : decode cX12_findFars 23 = .ok (.imul, 1) := by decide +kernel
theorem dX12_findFars_24 : decode cX12_findFars 24 = .ok (.iload_n 3, 1) := by decide +kernel
theorem dX12_findFars_25 : decode cX12_findFars 25 = .ok (.iadd, 1) := by decide +kernel
theorem dX12_findFars_26 : decode cX12_findFars 26 = .ok (.iload_n 2, 1) := by decide +kernel
theorem dX12_findFars_27 : decode cX12_findFars 27 = .ok (.iload_n 3, 1) := by decide +kernel
theorem dX12_findFars_28 : decode cX12_findFars 28 = .ok (.if_icmp .ne 7, 3) := by decide +kernel
theorem dX12_findFars_31 : decode cX12_findFars 31 = .ok (.iconst 0, 1) := by decide +kernel
theorem dX12_findFars_32 : decode cX12_findFars 32 = .ok (.goto 5, 3) := by decide +kernel
theorem dX12_findFars_35 : decode cX12_findFars 35 = .ok (.ldc 192, 2) := by decide +kernel
theorem dX12_findFars_37 : decode cX12_findFars 37 = .ok (.iastore, 1) := by decide +kernel
theorem dX12_findFars_38 : decode cX12_findFars 38 = .ok (.iinc 3 1, 3) := by decide +kernel
theorem dX12_findFars_41 : decode cX12_findFars 41 = .ok (.goto (-31), 3) := by decide +kernel
theorem dX12_findFars_44 : decode cX12_findFars 44 = .ok (.iinc 2 1, 3) := by decide +kernel
theorem dX12_findFars_47 : decode cX12_findFars 47 = .ok (.goto (-45), 3) := by decide +kernel
theorem dX12_findFars_50 : decode cX12_findFars 50 = .ok (.iconst 0, 1) := by decide +kernel
theorem dX12_findFars_51 : decode cX12_findFars 51 = .ok (.istore_n 2, 1) := by decide +kernel
theorem dX12_findFars_52 : decode cX12_findFars 52 = .ok (.iload_n 2, 1) := by decide +kernel
theorem dX12_findFars_53 : decode cX12_findFars 53 = .ok (.aload_n 0, 1) := by decide +kernel
theorem dX12_findFars_54 : decode cX12_findFars 54 = .ok (.getfield 186, 3) := by decide +kernel
theorem dX12_findFars_57 : decode cX12_findFars 57 = .ok (.if_icmp .ge 124, 3) := by decide +kernel
theorem dX12_findFars_60 : decode cX12_findFars 60 = .ok (.aload_n 0, 1) := by decide +kernel
theorem dX12_findFars_61 : decode cX12_findFars 61 = .ok (.getfield 26, 3) := by decide +kernel
theorem dX12_findFars_64 : decode cX12_findFars 64 = .ok (.iload_n 2, 1) := by decide +kernel
theorem dX12_findFars_65 : decode cX12_findFars 65 = .ok (.baload, 1) := by decide +kernel
theorem dX12_findFars_66 : decode cX12_findFars 66 = .ok (.ifCond .eq 6, 3) := by decide +kernel
theorem dX12_findFars_69 : decode cX12_findFars 69 = .ok (.goto 106, 3) := by decide +kernel
theorem dX12_findFars_72 : decode cX12_findFars 72 = .ok (.aload_n 0, 1) := by decide +kernel
theorem dX12_findFars_73 : decode cX12_findFars 73 = .ok (.getfield 23, 3) := by decide +kernel
theorem dX12_findFars_76 : decode cX12_findFars 76 = .ok (.iload_n 2, 1) := by decide +kernel
theorem dX12_findFars_77 : decode cX12_findFars 77 = .ok (.iaload, 1) := by decide +kernel
theorem dX12_findFars_78 : decode cX12_findFars 78 = .ok (.iload_n 1, 1) := by decide +kernel
theorem dX12_findFars_79 : decode cX12_findFars 79 = .ok (.iadd, 1) := by decide +kernel
theorem dX12_findFars_80 : decode cX12_findFars 80 = .ok (.istore_n 3, 1) := by decide +kernel
theorem dX12_findFars_81 : decode cX12_findFars 81 = .ok (.bipush 8, 2) := by decide +kernel
theorem dX12_findFars_83 : decode cX12_findFars 83 = .ok (.aload_n 0, 1) := by decide +kernel
theorem dX12_findFars_84 : decode cX12_findFars 84 = .ok (.getfield 16, 3) := by decide +kernel
theorem dX12_findFars_87 : decode cX12_findFars 87 = .ok (.iload_n 2, 1) := by decide +kernel
theorem dX12_findFars_88 : decode cX12_findFars 88 = .ok (.iaload, 1) := by decide +kernel
theorem dX12_findFars_89 : decode cX12_findFars 89 = .ok (.imul, 1) := by decide +kernel
theorem dX12_findFars_90 : decode cX12_findFars 90 = .ok (.aload_n 0, 1) := by decide +kernel
theorem dX12_findFars_91 : decode cX12_findFars 91 = .ok (.getfield 20, 3) := by decide +kernel
theorem dX12_findFars_94 : decode cX12_findFars 94 = .ok (.iload_n 2, 1) := by decide +kernel
theorem dX12_findFars_95 : decode cX12_findFars 95 = .ok (.iaload, 1) := by decide +kernel
theorem dX12_findFars_96 : decode cX12_findFars 96 = .ok (.iadd, 1) := by decide +kernel
theorem dX12_findFars_97 : decode cX12_findFars 97 = .ok (.istore 4, 2) := by decide +kernel
theorem dX12_findFars_99 : decode cX12_findFars 99 = .ok (.bipush 8, 2) := by decide +kernel
theorem dX12_findFars_101 : decode cX12_findFars 101 = .ok (.aload_n 0, 1) := by decide +kernel
theorem dX12_findFars_102 : decode cX12_findFars 102 = .ok (.getfield 20, 3) := by decide +kernel
theorem dX12_findFars_105 : decode cX12_findFars 105 = .ok (.iload_n 2, 1) := by decide +kernel
theorem dX12_findFars_106 : decode cX12_findFars 106 = .ok (.iaload, 1) := by decide +kernel
theorem dX12_findFars_107 : decode cX12_findFars 107 = .ok (.imul, 1) := by decide +kernel
theorem dX12_findFars_108 : decode cX12_findFars 108 = .ok (.aload_n 0, 1) := by decide +kernel
theorem dX12_findFars_109 : decode cX12_findFars 109 = .ok (.getfield 16, 3) := by decide +kernel
theorem dX12_findFars_112 : decode cX12_findFars 112 = .ok (.iload_n 2, 1) := by decide +kernel
theorem dX12_findFars_113 : decode cX12_findFars 113 = .ok (.iaload, 1) := by decide +kernel
theorem dX12_findFars_114 : decode cX12_findFars 114 = .ok (.iadd, 1) := by decide +kernel
theorem dX12_findFars_115 : decode cX12_findFars 115 = .ok (.istore 5, 2) := by decide +kernel
theorem dX12_findFars_117 : decode cX12_findFars 117 = .ok (.aload_n 0, 1) := by decide +kernel
theorem dX12_findFars_118 : decode cX12_findFars 118 = .ok (.getfield 75, 3) := by decide +kernel
theorem dX12_findFars_121 : decode cX12_findFars 121 = .ok (.iload 4, 2) := by decide +kernel
theorem dX12_findFars_123 : decode cX12_findFars 123 = .ok (.iload_n 3, 1) := by decide +kernel
theorem dX12_findFars_124 : decode cX12_findFars 124 = .ok (.aload_n 0, 1) := by decide +kernel
theorem dX12_findFars_125 : decode cX12_findFars 125 = .ok (.getfield 75, 3) := by decide +kernel
theorem dX12_findFars_128 : decode cX12_findFars 128 = .ok (.iload 4, 2) := by decide +kernel
theorem dX12_findFars_130 : decode cX12_findFars 130 = .ok (.iaload, 1) := by decide +kernel
theorem dX12_findFars_131 : decode cX12_findFars 131 = .ok (.if_icmp .ge 7, 3) := by decide +kernel
theorem dX12_findFars_134 : decode cX12_findFars 134 = .ok (.iload_n 3, 1) := by decide +kernel
theorem dX12_findFars_135 : decode cX12_findFars 135 = .ok (.goto 10, 3) := by decide +kernel
theorem dX12_findFars_138 : decode cX12_findFars 138 = .ok (.aload_n 0, 1) := by decide +kernel
theorem dX12_findFars_139 : decode cX12_findFars 139 = .ok (.getfield 75, 3) := by decide +kernel
theorem dX12_findFars_142 : decode cX12_findFars 142 = .ok (.iload 4, 2) := by decide +kernel
theorem dX12_findFars_144 : decode cX12_findFars 144 = .ok (.iaload, 1) := by decide +kernel
theorem dX12_findFars_145 : decode cX12_findFars 145 = .ok (.iastore, 1) := by decide +kernel
theorem dX12_findFars_146 : decode cX12_findFars 146 = .ok (.aload_n 0, 1) := by decide +kernel
theorem dX12_findFars_147 : decode cX12_findFars 147 = .ok (.getfield 75, 3) := by decide +kernel
theorem dX12_findFars_150 : decode cX12_findFars 150 = .ok (.iload 5, 2) := by decide +kernel
theorem dX12_findFars_152 : decode cX12_findFars 152 = .ok (.iload_n 3, 1) := by decide +kernel
theorem dX12_findFars_153 : decode cX12_findFars 153 = .ok (.aload_n 0, 1) := by decide +kernel
theorem dX12_findFars_154 : decode cX12_findFars 154 = .ok (.getfield 75, 3) := by decide +kernel
theorem dX12_findFars_157 : decode cX12_findFars 157 = .ok (.iload 5, 2) := by decide +kernel
theorem dX12_findFars_159 : decode cX12_findFars 159 = .ok (.iaload, 1) := by decide +kernel
theorem dX12_findFars_160 : decode cX12_findFars 160 = .ok (.if_icmp .ge 7, 3) := by decide +kernel
theorem dX12_findFars_163 : decode cX12_findFars 163 = .ok (.iload_n 3, 1) := by decide +kernel
theorem dX12_findFars_164 : decode cX12_findFars 164 = .ok (.goto 10, 3) := by decide +kernel
theorem dX12_findFars_167 : decode cX12_findFars 167 = .ok (.aload_n 0, 1) := by decide +kernel
theorem dX12_findFars_168 : decode cX12_findFars 168 = .ok (.getfield 75, 3) := by decide +kernel
theorem dX12_findFars_171 : decode cX12_findFars 171 = .ok (.iload 5, 2) := by decide +kernel
theorem dX12_findFars_173 : decode cX12_findFars 173 = .ok (.iaload, 1) := by decide +kernel
theorem dX12_findFars_174 : decode cX12_findFars 174 = .ok (.iastore, 1) := by decide +kernel
theorem dX12_findFars_175 : decode cX12_findFars 175 = .ok (.iinc 2 1, 3) := by decide +kernel
theorem dX12_findFars_178 : decode cX12_findFars 178 = .ok (.goto (-126), 3) := by decide +kernel
theorem dX12_findFars_181 : decode cX12_findFars 181 = .ok (.iconst 0, 1) := by decide +kernel
theorem dX12_findFars_182 : decode cX12_findFars 182 = .ok (.istore_n 2, 1) := by decide +kernel
theorem dX12_findFars_183 : decode cX12_findFars 183 = .ok (.iload_n 2, 1) := by decide +kernel
theorem dX12_findFars_184 : decode cX12_findFars 184 = .ok (.bipush 8, 2) := by decide +kernel
theorem dX12_findFars_186 : decode cX12_findFars 186 = .ok (.if_icmp .ge 96, 3) := by decide +kernel
theorem dX12_findFars_189 : decode cX12_findFars 189 = .ok (.iconst 0, 1) := by decide +kernel
theorem dX12_findFars_190 : decode cX12_findFars 190 = .ok (.istore_n 3, 1) := by decide +kernel
theorem dX12_findFars_191 : decode cX12_findFars 191 = .ok (.iload_n 3, 1) := by decide +kernel
theorem dX12_findFars_192 : decode cX12_findFars 192 = .ok (.bipush 8, 2) := by decide +kernel
theorem dX12_findFars_194 : decode cX12_findFars 194 = .ok (.if_icmp .ge 82, 3) := by decide +kernel
theorem dX12_findFars_197 : decode cX12_findFars 197 = .ok (.iconst 0, 1) := by decide +kernel
theorem dX12_findFars_198 : decode cX12_findFars 198 = .ok (.istore 4, 2) := by decide +kernel
theorem dX12_findFars_200 : decode cX12_findFars 200 = .ok (.iload 4, 2) := by decide +kernel
theorem dX12_findFars_202 : decode cX12_findFars 202 = .ok (.bipush 8, 2) := by decide +kernel
theorem dX12_findFars_204 : decode cX12_findFars 204 = .ok (.if_icmp .ge 66, 3) := by decide +kernel
theorem dX12_findFars_207 : decode cX12_findFars 207 = .ok (.aload_n 0, 1) := by decide +kernel
theorem dX12_findFars_208 : decode cX12_findFars 208 = .ok (.getfield 75, 3) := by decide +kernel
theorem dX12_findFars_211 : decode cX12_findFars 211 = .ok (.bipush 8, 2) := by decide +kernel
theorem dX12_findFars_213 : decode cX12_findFars 213 = .ok (.iload_n 3, 1) := by decide +kernel
theorem dX12_findFars_214 : decode cX12_findFars 214 = .ok (.imul, 1) := by decide +kernel
theorem dX12_findFars_215 : decode cX12_findFars 215 = .ok (.iload_n 2, 1) := by decide +kernel
theorem dX12_findFars_216 : decode cX12_findFars 216 = .ok (.iadd, 1) := by decide +kernel
theorem dX12_findFars_217 : decode cX12_findFars 217 = .ok (.iaload, 1) := by decide +kernel
theorem dX12_findFars_218 : decode cX12_findFars 218 = .ok (.aload_n 0, 1) := by decide +kernel
theorem dX12_findFars_219 : decode cX12_findFars 219 = .ok (.getfield 75, 3) := by decide +kernel
theorem dX12_findFars_222 : decode cX12_findFars 222 = .ok (.bipush 8, 2) := by decide +kernel
theorem dX12_findFars_224 : decode cX12_findFars 224 = .ok (.iload_n 2, 1) := by decide +kernel
theorem dX12_findFars_225 : decode cX12_findFars 225 = .ok (.imul, 1) := by decide +kernel
theorem dX12_findFars_226 : decode cX12_findFars 226 = .ok (.iload 4, 2) := by decide +kernel
theorem dX12_findFars_228 : decode cX12_findFars 228 = .ok (.iadd, 1) := by decide +kernel
theorem dX12_findFars_229 : decode cX12_findFars 229 = .ok (.iaload, 1) := by decide +kernel
theorem dX12_findFars_230 : decode cX12_findFars 230 = .ok (.iadd, 1) := by decide +kernel
theorem dX12_findFars_231 : decode cX12_findFars 231 = .ok (.istore 5, 2) := by decide +kernel
theorem dX12_findFars_233 : decode cX12_findFars 233 = .ok (.iload 5, 2) := by decide +kernel
theorem dX12_findFars_235 : decode cX12_findFars 235 = .ok (.aload_n 0, 1) := by decide +kernel
theorem dX12_findFars_236 : decode cX12_findFars 236 = .ok (.getfield 75, 3) := by decide +kernel
theorem dX12_findFars_239 : decode cX12_findFars 239 = .ok (.bipush 8, 2) := by decide +kernel
theorem dX12_findFars_241 : decode cX12_findFars 241 = .ok (.iload_n 3, 1) := by decide +kernel
theorem dX12_findFars_242 : decode cX12_findFars 242 = .ok (.imul, 1) := by decide +kernel
theorem dX12_findFars_243 : decode cX12_findFars 243 = .ok (.iload 4, 2) := by decide +kernel
theorem dX12_findFars_245 : decode cX12_findFars 245 = .ok (.iadd, 1) := by decide +kernel
theorem dX12_findFars_246 : decode cX12_findFars 246 = .ok (.iaload, 1) := by decide +kernel
theorem dX12_findFars_247 : decode cX12_findFars 247 = .ok (.if_icmp .ge 17, 3) := by decide +kernel
theorem dX12_findFars_250 : decode cX12_findFars 250 = .ok (.aload_n 0, 1) := by decide +kernel
theorem dX12_findFars_251 : decode cX12_findFars 251 = .ok (.getfield 75, 3) := by decide +kernel
theorem dX12_findFars_254 : decode cX12_findFars 254 = .ok (.bipush 8, 2) := by decide +kernel
theorem dX12_findFars_256 : decode cX12_findFars 256 = .ok (.iload_n 3, 1) := by decide +kernel
theorem dX12_findFars_257 : decode cX12_findFars 257 = .ok (.imul, 1) := by decide +kernel
theorem dX12_findFars_258 : decode cX12_findFars 258 = .ok (.iload 4, 2) := by decide +kernel
theorem dX12_findFars_260 : decode cX12_findFars 260 = .ok (.iadd, 1) := by decide +kernel
theorem dX12_findFars_261 : decode cX12_findFars 261 = .ok (.iload 5, 2) := by decide +kernel
theorem dX12_findFars_263 : decode cX12_findFars 263 = .ok (.iastore, 1) := by decide +kernel
theorem dX12_findFars_264 : decode cX12_findFars 264 = .ok (.iinc 4 1, 3) := by decide +kernel
theorem dX12_findFars_267 : decode cX12_findFars 267 = .ok (.goto (-67), 3) := by decide +kernel
theorem dX12_findFars_270 : decode cX12_findFars 270 = .ok (.iinc 3 1, 3) := by decide +kernel
theorem dX12_findFars_273 : decode cX12_findFars 273 = .ok (.goto (-82), 3) := by decide +kernel
theorem dX12_findFars_276 : decode cX12_findFars 276 = .ok (.iinc 2 1, 3) := by decide +kernel
theorem dX12_findFars_279 : decode cX12_findFars 279 = .ok (.goto (-96), 3) := by decide +kernel
theorem dX12_findFars_282 : decode cX12_findFars 282 = .ok (.return_, 1) := by decide +kernel
theorem dX12_far_0 : decode cX12_far 0 = .ok (.aload_n 0, 1) := by decide +kernel
theorem dX12_far_1 : decode cX12_far 1 = .ok (.iload_n 1, 1) := by decide +kernel
theorem dX12_far_2 : decode cX12_far 2 = .ok (.invokevirtual 181, 3) := by decide +kernel
theorem dX12_far_5 : decode cX12_far 5 = .ok (.ifCond .eq 11, 3) := by decide +kernel
theorem dX12_far_8 : decode cX12_far 8 = .ok (.aload_n 0, 1) := by decide +kernel
theorem dX12_far_9 : decode cX12_far 9 = .ok (.iload_n 2, 1) := by decide +kernel
theorem dX12_far_10 : decode cX12_far 10 = .ok (.invokevirtual 181, 3) := by decide +kernel
theorem dX12_far_13 : decode cX12_far 13 = .ok (.ifCond .ne 10, 3) := by decide +kernel
theorem dX12_far_16 : decode cX12_far 16 = .ok (.aload_n 0, 1) := by decide +kernel
theorem dX12_far_17 : decode cX12_far 17 = .ok (.ldc 185, 2) := by decide +kernel
theorem dX12_far_19 : decode cX12_far 19 = .ok (.invokevirtual 177, 3) := by decide +kernel
theorem dX12_far_22 : decode cX12_far 22 = .ok (.ireturn, 1) := by decide +kernel
theorem dX12_far_23 : decode cX12_far 23 = .ok (.aload_n 0, 1) := by decide +kernel
theorem dX12_far_24 : decode cX12_far 24 = .ok (.iconst 0, 1) := by decide +kernel
theorem dX12_far_25 : decode cX12_far 25 = .ok (.invokevirtual 193, 3) := by decide +kernel
theorem dX12_far_28 : decode cX12_far 28 = .ok (.aload_n 0, 1) := by decide +kernel
theorem dX12_far_29 : decode cX12_far 29 = .ok (.getfield 75, 3) := by decide +kernel
theorem dX12_far_32 : decode cX12_far 32 = .ok (.bipush 8, 2) := by decide +kernel
theorem dX12_far_34 : decode cX12_far 34 = .ok (.iload_n 1, 1) := by decide +kernel
theorem dX12_far_35 : decode cX12_far 35 = .ok (.imul, 1) := by decide +kernel
theorem dX12_far_36 : decode cX12_far 36 = .ok (.iload_n 2, 1) := by decide +kernel
theorem dX12_far_37 : decode cX12_far 37 = .ok (.iadd, 1) := by decide +kernel
theorem dX12_far_38 : decode cX12_far 38 = .ok (.iaload, 1) := by decide +kernel
theorem dX12_far_39 : decode cX12_far 39 = .ok (.istore_n 3, 1) := by decide +kernel
theorem dX12_far_40 : decode cX12_far 40 = .ok (.iload_n 3, 1) := by decide +kernel
theorem dX12_far_41 : decode cX12_far 41 = .ok (.ldc 192, 2) := by decide +kernel
theorem dX12_far_43 : decode cX12_far 43 = .ok (.if_icmp .lt 12, 3) := by decide +kernel
theorem dX12_far_46 : decode cX12_far 46 = .ok (.aload_n 0, 1) := by decide +kernel
theorem dX12_far_47 : decode cX12_far 47 = .ok (.ldc 197, 2) := by decide +kernel
theorem dX12_far_49 : decode cX12_far 49 = .ok (.invokevirtual 177, 3) := by decide +kernel
theorem dX12_far_52 : decode cX12_far 52 = .ok (.goto 4, 3) := by decide +kernel
theorem dX12_far_55 : decode cX12_far 55 = .ok (.iload_n 3, 1) := by decide +kernel
theorem dX12_far_56 : decode cX12_far 56 = .ok (.ireturn, 1) := by decide +kernel
theorem dX12_school_0 : decode cX12_school 0 = .ok (.iload_n 1, 1) := by decide +kernel
theorem dX12_school_1 : decode cX12_school 1 = .ok (.iconst 0, 1) := by decide +kernel
theorem dX12_school_2 : decode cX12_school 2 = .ok (.iconst 3, 1) := by decide +kernel
theorem dX12_school_3 : decode cX12_school 3 = .ok (.invokestatic 159, 3) := by decide +kernel
theorem dX12_school_6 : decode cX12_school 6 = .ok (.ifCond .eq 11, 3) := by decide +kernel
theorem dX12_school_9 : decode cX12_school 9 = .ok (.aload_n 0, 1) := by decide +kernel
theorem dX12_school_10 : decode cX12_school 10 = .ok (.iload_n 2, 1) := by decide +kernel
theorem dX12_school_11 : decode cX12_school 11 = .ok (.invokevirtual 181, 3) := by decide +kernel
theorem dX12_school_14 : decode cX12_school 14 = .ok (.ifCond .ne 10, 3) := by decide +kernel
theorem dX12_school_17 : decode cX12_school 17 = .ok (.aload_n 0, 1) := by decide +kernel
theorem dX12_school_18 : decode cX12_school 18 = .ok (.ldc 185, 2) := by decide +kernel
theorem dX12_school_20 : decode cX12_school 20 = .ok (.invokevirtual 177, 3) := by decide +kernel
theorem dX12_school_23 : decode cX12_school 23 = .ok (.ireturn, 1) := by decide +kernel
theorem dX12_school_24 : decode cX12_school 24 = .ok (.aload_n 0, 1) := by decide +kernel
theorem dX12_school_25 : decode cX12_school 25 = .ok (.getfield 163, 3) := by decide +kernel
theorem dX12_school_28 : decode cX12_school 28 = .ok (.iconst 4, 1) := by decide +kernel
theorem dX12_school_29 : decode cX12_school 29 = .ok (.if_icmp .ne 10, 3) := by decide +kernel
theorem dX12_school_32 : decode cX12_school 32 = .ok (.aload_n 0, 1) := by decide +kernel
theorem dX12_school_33 : decode cX12_school 33 = .ok (.ldc 176, 2) := by decide +kernel
theorem dX12_school_35 : decode cX12_school 35 = .ok (.invokevirtual 177, 3) := by decide +kernel
theorem dX12_school_38 : decode cX12_school 38 = .ok (.ireturn, 1) := by decide +kernel
theorem dX12_school_39 : decode cX12_school 39 = .ok (.aload_n 0, 1) := by decide +kernel
theorem dX12_school_40 : decode cX12_school 40 = .ok (.getfield 30, 3) := by decide +kernel
theorem dX12_school_43 : decode cX12_school 43 = .ok (.aload_n 0, 1) := by decide +kernel
theorem dX12_school_44 : decode cX12_school 44 = .ok (.getfield 163, 3) := by decide +kernel
theorem dX12_school_47 : decode cX12_school 47 = .ok (.iload_n 1, 1) := by decide +kernel
theorem dX12_school_48 : decode cX12_school 48 = .ok (.iastore, 1) := by decide +kernel
theorem dX12_school_49 : decode cX12_school 49 = .ok (.aload_n 0, 1) := by decide +kernel
theorem dX12_school_50 : decode cX12_school 50 = .ok (.getfield 33, 3) := by decide +kernel
theorem dX12_school_53 : decode cX12_school 53 = .ok (.aload_n 0, 1) := by decide +kernel
theorem dX12_school_54 : decode cX12_school 54 = .ok (.getfield 163, 3) := by decide +kernel
theorem dX12_school_57 : decode cX12_school 57 = .ok (.iload_n 2, 1) := by decide +kernel
theorem dX12_school_58 : decode cX12_school 58 = .ok (.iastore, 1) := by decide +kernel
theorem dX12_school_59 : decode cX12_school 59 = .ok (.aload_n 0, 1) := by decide +kernel
theorem dX12_school_60 : decode cX12_school 60 = .ok (.getfield 36, 3) := by decide +kernel
theorem dX12_school_63 : decode cX12_school 63 = .ok (.aload_n 0, 1) := by decide +kernel
theorem dX12_school_64 : decode cX12_school 64 = .ok (.getfield 163, 3) := by decide +kernel
theorem dX12_school_67 : decode cX12_school 67 = .ok (.iconst 0, 1) := by decide +kernel
theorem dX12_school_68 : decode cX12_school 68 = .ok (.iastore, 1) := by decide +kernel
theorem dX12_school_69 : decode cX12_school 69 = .ok (.aload_n 0, 1) := by decide +kernel
theorem dX12_school_70 : decode cX12_school 70 = .ok (.getfield 39, 3) := by decide +kernel
theorem dX12_school_73 : decode cX12_school 73 = .ok (.aload_n 0, 1) := by decide +kernel
theorem dX12_school_74 : decode cX12_school 74 = .ok (.getfield 163, 3) := by decide +kernel
theorem dX12_school_77 : decode cX12_school 77 = .ok (.iconst 3, 1) := by decide +kernel
theorem dX12_school_78 : decode cX12_school 78 = .ok (.iastore, 1) := by decide +kernel
theorem dX12_school_79 : decode cX12_school 79 = .ok (.aload_n 0, 1) := by decide +kernel
theorem dX12_school_80 : decode cX12_school 80 = .ok (.dup, 1) := by decide +kernel
theorem dX12_school_81 : decode cX12_school 81 = .ok (.getfield 163, 3) := by decide +kernel
theorem dX12_school_84 : decode cX12_school 84 = .ok (.iconst 1, 1) := by decide +kernel
theorem dX12_school_85 : decode cX12_school 85 = .ok (.iadd, 1) := by decide +kernel
theorem dX12_school_86 : decode cX12_school 86 = .ok (.putfield 163, 3) := by decide +kernel
theorem dX12_school_89 : decode cX12_school 89 = .ok (.aload_n 0, 1) := by decide +kernel
theorem dX12_school_90 : decode cX12_school 90 = .ok (.invokevirtual 189, 3) := by decide +kernel
theorem dX12_school_93 : decode cX12_school 93 = .ok (.aload_n 0, 1) := by decide +kernel
theorem dX12_school_94 : decode cX12_school 94 = .ok (.getfield 163, 3) := by decide +kernel
theorem dX12_school_97 : decode cX12_school 97 = .ok (.iconst 1, 1) := by decide +kernel
theorem dX12_school_98 : decode cX12_school 98 = .ok (.isub, 1) := by decide +kernel
theorem dX12_school_99 : decode cX12_school 99 = .ok (.ireturn, 1) := by decide +kernel
theorem dX12_isOf_0 : decode cX12_isOf 0 = .ok (.iload_n 1, 1) := by decide +kernel
theorem dX12_isOf_1 : decode cX12_isOf 1 = .ok (.ifCond .eq 18, 3) := by decide +kernel
theorem dX12_isOf_4 : decode cX12_isOf 4 = .ok (.iload_n 0, 1) := by decide +kernel
theorem dX12_isOf_5 : decode cX12_isOf 5 = .ok (.iload_n 1, 1) := by decide +kernel
theorem dX12_isOf_6 : decode cX12_isOf 6 = .ok (.if_icmp .eq 13, 3) := by decide +kernel
theorem dX12_isOf_9 : decode cX12_isOf 9 = .ok (.iload_n 0, 1) := by decide +kernel
theorem dX12_isOf_10 : decode cX12_isOf 10 = .ok (.iconst 3, 1) := by decide +kernel
theorem dX12_isOf_11 : decode cX12_isOf 11 = .ok (.if_icmp .ne 12, 3) := by decide +kernel
theorem dX12_isOf_14 : decode cX12_isOf 14 = .ok (.iload_n 1, 1) := by decide +kernel
theorem dX12_isOf_15 : decode cX12_isOf 15 = .ok (.iconst 1, 1) := by decide +kernel
theorem dX12_isOf_16 : decode cX12_isOf 16 = .ok (.if_icmp .ne 7, 3) := by decide +kernel
theorem dX12_isOf_19 : decode cX12_isOf 19 = .ok (.iconst 1, 1) := by decide +kernel
theorem dX12_isOf_20 : decode cX12_isOf 20 = .ok (.goto 4, 3) := by decide +kernel
theorem dX12_isOf_23 : decode cX12_isOf 23 = .ok (.iconst 0, 1) := by decide +kernel
theorem dX12_isOf_24 : decode cX12_isOf 24 = .ok (.ireturn, 1) := by decide +kernel
theorem dX12_as_0 : decode cX12_as 0 = .ok (.aload_n 0, 1) := by decide +kernel
theorem dX12_as_1 : decode cX12_as 1 = .ok (.iload_n 1, 1) := by decide +kernel
theorem dX12_as_2 : decode cX12_as 2 = .ok (.invokevirtual 198, 3) := by decide +kernel
theorem dX12_as_5 : decode cX12_as 5 = .ok (.ifCond .eq 12, 3) := by decide +kernel
theorem dX12_as_8 : decode cX12_as 8 = .ok (.iload_n 2, 1) := by decide +kernel
theorem dX12_as_9 : decode cX12_as 9 = .ok (.iconst 0, 1) := by decide +kernel
theorem dX12_as_10 : decode cX12_as 10 = .ok (.iconst 3, 1) := by decide +kernel
theorem dX12_as_11 : decode cX12_as 11 = .ok (.invokestatic 159, 3) := by decide +kernel
theorem dX12_as_14 : decode cX12_as 14 = .ok (.ifCond .ne 10, 3) := by decide +kernel
theorem dX12_as_17 : decode cX12_as 17 = .ok (.aload_n 0, 1) := by decide +kernel
theorem dX12_as_18 : decode cX12_as 18 = .ok (.ldc 185, 2) := by decide +kernel
theorem dX12_as_20 : decode cX12_as 20 = .ok (.invokevirtual 177, 3) := by decide +kernel
theorem dX12_as_23 : decode cX12_as 23 = .ok (.ireturn, 1) := by decide +kernel
theorem dX12_as_24 : decode cX12_as 24 = .ok (.aload_n 0, 1) := by decide +kernel
theorem dX12_as_25 : decode cX12_as 25 = .ok (.getfield 30, 3) := by decide +kernel
theorem dX12_as_28 : decode cX12_as 28 = .ok (.iload_n 1, 1) := by decide +kernel
theorem dX12_as_29 : decode cX12_as 29 = .ok (.iaload, 1) := by decide +kernel
theorem dX12_as_30 : decode cX12_as 30 = .ok (.iload_n 2, 1) := by decide +kernel
theorem dX12_as_31 : decode cX12_as 31 = .ok (.invokestatic 201, 3) := by decide +kernel
theorem dX12_as_34 : decode cX12_as 34 = .ok (.ifCond .eq 7, 3) := by decide +kernel
theorem dX12_as_37 : decode cX12_as 37 = .ok (.iload_n 1, 1) := by decide +kernel
theorem dX12_as_38 : decode cX12_as 38 = .ok (.goto 9, 3) := by decide +kernel
theorem dX12_as_41 : decode cX12_as 41 = .ok (.aload_n 0, 1) := by decide +kernel
theorem dX12_as_42 : decode cX12_as 42 = .ok (.ldc 205, 2) := by decide +kernel
theorem dX12_as_44 : decode cX12_as 44 = .ok (.invokevirtual 177, 3) := by decide +kernel
theorem dX12_as_47 : decode cX12_as 47 = .ok (.ireturn, 1) := by decide +kernel
theorem dX12_stopsOf_0 : decode cX12_stopsOf 0 = .ok (.iconst 0, 1) := by decide +kernel
theorem dX12_stopsOf_1 : decode cX12_stopsOf 1 = .ok (.istore_n 2, 1) := by decide +kernel
theorem dX12_stopsOf_2 : decode cX12_stopsOf 2 = .ok (.iconst 0, 1) := by decide +kernel
theorem dX12_stopsOf_3 : decode cX12_stopsOf 3 = .ok (.istore_n 3, 1) := by decide +kernel
theorem dX12_stopsOf_4 : decode cX12_stopsOf 4 = .ok (.iload_n 3, 1) := by decide +kernel
theorem dX12_stopsOf_5 : decode cX12_stopsOf 5 = .ok (.aload_n 0, 1) := by decide +kernel
theorem dX12_stopsOf_6 : decode cX12_stopsOf 6 = .ok (.getfield 166, 3) := by decide +kernel
theorem dX12_stopsOf_9 : decode cX12_stopsOf 9 = .ok (.if_icmp .ge 29, 3) := by decide +kernel
theorem dX12_stopsOf_12 : decode cX12_stopsOf 12 = .ok (.iload_n 2, 1) := by decide +kernel
theorem dX12_stopsOf_13 : decode cX12_stopsOf 13 = .ok (.aload_n 0, 1) := by decide +kernel
theorem dX12_stopsOf_14 : decode cX12_stopsOf 14 = .ok (.getfield 42, 3) := by decide +kernel
theorem dX12_stopsOf_17 : decode cX12_stopsOf 17 = .ok (.iload_n 3, 1) := by decide +kernel
theorem dX12_stopsOf_18 : decode cX12_stopsOf 18 = .ok (.iaload, 1) := by decide +kernel
theorem dX12_stopsOf_19 : decode cX12_stopsOf 19 = .ok (.iload_n 1, 1) := by decide +kernel
theorem dX12_stopsOf_20 : decode cX12_stopsOf 20 = .ok (.if_icmp .ne 9, 3) := by decide +kernel
theorem dX12_stopsOf_23 : decode cX12_stopsOf 23 = .ok (.iconst 1, 1) := by decide +kernel
theorem dX12_stopsOf_24 : decode cX12_stopsOf 24 = .ok (.iload_n 3, 1) := by decide +kernel
theorem dX12_stopsOf_25 : decode cX12_stopsOf 25 = .ok (.ishl, 1) := by decide +kernel
theorem dX12_stopsOf_26 : decode cX12_stopsOf 26 = .ok (.goto 4, 3) := by decide +kernel
theorem dX12_stopsOf_29 : decode cX12_stopsOf 29 = .ok (.iconst 0, 1) := by decide +kernel
theorem dX12_stopsOf_30 : decode cX12_stopsOf 30 = .ok (.ior, 1) := by decide +kernel
theorem dX12_stopsOf_31 : decode cX12_stopsOf 31 = .ok (.istore_n 2, 1) := by decide +kernel
theorem dX12_stopsOf_32 : decode cX12_stopsOf 32 = .ok (.iinc 3 1, 3) := by decide +kernel
theorem dX12_stopsOf_35 : decode cX12_stopsOf 35 = .ok (.goto (-31), 3) := by decide +kernel
theorem dX12_stopsOf_38 : decode cX12_stopsOf 38 = .ok (.iload_n 2, 1) := by decide +kernel
theorem dX12_stopsOf_39 : decode cX12_stopsOf 39 = .ok (.ireturn, 1) := by decide +kernel
theorem dX12_ones_0 : decode cX12_ones 0 = .ok (.iconst 0, 1) := by decide +kernel
theorem dX12_ones_1 : decode cX12_ones 1 = .ok (.istore_n 1, 1) := by decide +kernel
theorem dX12_ones_2 : decode cX12_ones 2 = .ok (.iconst 0, 1) := by decide +kernel
theorem dX12_ones_3 : decode cX12_ones 3 = .ok (.istore_n 2, 1) := by decide +kernel
theorem dX12_ones_4 : decode cX12_ones 4 = .ok (.iload_n 2, 1) := by decide +kernel
theorem dX12_ones_5 : decode cX12_ones 5 = .ok (.bipush 10, 2) := by decide +kernel
theorem dX12_ones_7 : decode cX12_ones 7 = .ok (.if_icmp .ge 17, 3) := by decide +kernel
theorem dX12_ones_10 : decode cX12_ones 10 = .ok (.iload_n 1, 1) := by decide +kernel
theorem dX12_ones_11 : decode cX12_ones 11 = .ok (.iload_n 0, 1) := by decide +kernel
theorem dX12_ones_12 : decode cX12_ones 12 = .ok (.iload_n 2, 1) := by decide +kernel
theorem dX12_ones_13 : decode cX12_ones 13 = .ok (.ishr, 1) := by decide +kernel
theorem dX12_ones_14 : decode cX12_ones 14 = .ok (.iconst 1, 1) := by decide +kernel
theorem dX12_ones_15 : decode cX12_ones 15 = .ok (.iand, 1) := by decide +kernel
theorem dX12_ones_16 : decode cX12_ones 16 = .ok (.iadd, 1) := by decide +kernel
theorem dX12_ones_17 : decode cX12_ones 17 = .ok (.istore_n 1, 1) := by decide +kernel
theorem dX12_ones_18 : decode cX12_ones 18 = .ok (.iinc 2 1, 3) := by decide +kernel
theorem dX12_ones_21 : decode cX12_ones 21 = .ok (.goto (-17), 3) := by decide +kernel
theorem dX12_ones_24 : decode cX12_ones 24 = .ok (.iload_n 1, 1) := by decide +kernel
theorem dX12_ones_25 : decode cX12_ones 25 = .ok (.ireturn, 1) := by decide +kernel
theorem dX12_pupilsOf_0 : decode cX12_pupilsOf 0 = .ok (.iconst 0, 1) := by decide +kernel
theorem dX12_pupilsOf_1 : decode cX12_pupilsOf 1 = .ok (.istore_n 2, 1) := by decide +kernel
theorem dX12_pupilsOf_2 : decode cX12_pupilsOf 2 = .ok (.iconst 0, 1) := by decide +kernel
theorem dX12_pupilsOf_3 : decode cX12_pupilsOf 3 = .ok (.istore_n 3, 1) := by decide +kernel
theorem dX12_pupilsOf_4 : decode cX12_pupilsOf 4 = .ok (.iload_n 3, 1) := by decide +kernel
theorem dX12_pupilsOf_5 : decode cX12_pupilsOf 5 = .ok (.aload_n 0, 1) := by decide +kernel
theorem dX12_pupilsOf_6 : decode cX12_pupilsOf 6 = .ok (.getfield 166, 3) := by decide +kernel
theorem dX12_pupilsOf_9 : decode cX12_pupilsOf 9 = .ok (.if_icmp .ge 30, 3) := by decide +kernel
theorem dX12_pupilsOf_12 : decode cX12_pupilsOf 12 = .ok (.iload_n 2, 1) := by decide +kernel
theorem dX12_pupilsOf_13 : decode cX12_pupilsOf 13 = .ok (.iload_n 1, 1) := by decide +kernel
theorem dX12_pupilsOf_14 : decode cX12_pupilsOf 14 = .ok (.iload_n 3, 1) := by decide +kernel
theorem dX12_pupilsOf_15 : decode cX12_pupilsOf 15 = .ok (.invokestatic 206, 3) := by decide +kernel
theorem dX12_pupilsOf_18 : decode cX12_pupilsOf 18 = .ok (.ifCond .eq 12, 3) := by decide +kernel
theorem dX12_pupilsOf_21 : decode cX12_pupilsOf 21 = .ok (.aload_n 0, 1) := by decide +kernel
theorem dX12_pupilsOf_22 : decode cX12_pupilsOf 22 = .ok (.getfield 48, 3) := by decide +kernel
theorem dX12_pupilsOf_25 : decode cX12_pupilsOf 25 = .ok (.iload_n 3, 1) := by decide +kernel
theorem dX12_pupilsOf_26 : decode cX12_pupilsOf 26 = .ok (.iaload, 1) := by decide +kernel
theorem dX12_pupilsOf_27 : decode cX12_pupilsOf 27 = .ok (.goto 4, 3) := by decide +kernel
theorem dX12_pupilsOf_30 : decode cX12_pupilsOf 30 = .ok (.iconst 0, 1) := by decide +kernel
theorem dX12_pupilsOf_31 : decode cX12_pupilsOf 31 = .ok (.iadd, 1) := by decide +kernel
theorem dX12_pupilsOf_32 : decode cX12_pupilsOf 32 = .ok (.istore_n 2, 1) := by decide +kernel
theorem dX12_pupilsOf_33 : decode cX12_pupilsOf 33 = .ok (.iinc 3 1, 3) := by decide +kernel
theorem dX12_pupilsOf_36 : decode cX12_pupilsOf 36 = .ok (.goto (-32), 3) := by decide +kernel
theorem dX12_pupilsOf_39 : decode cX12_pupilsOf 39 = .ok (.iload_n 2, 1) := by decide +kernel
theorem dX12_pupilsOf_40 : decode cX12_pupilsOf 40 = .ok (.ireturn, 1) := by decide +kernel
theorem dX12_mayTake_0 : decode cX12_mayTake 0 = .ok (.aload_n 0, 1) := by decide +kernel
theorem dX12_mayTake_1 : decode cX12_mayTake 1 = .ok (.getfield 30, 3) := by decide +kernel
theorem dX12_mayTake_4 : decode cX12_mayTake 4 = .ok (.iload_n 1, 1) := by decide +kernel
theorem dX12_mayTake_5 : decode cX12_mayTake 5 = .ok (.iaload, 1) := by decide +kernel
theorem dX12_mayTake_6 : decode cX12_mayTake 6 = .ok (.iconst 3, 1) := by decide +kernel
theorem dX12_mayTake_7 : decode cX12_mayTake 7 = .ok (.if_icmp .ne 12, 3) := by decide +kernel
theorem dX12_mayTake_10 : decode cX12_mayTake 10 = .ok (.aload_n 0, 1) := by decide +kernel
theorem dX12_mayTake_11 : decode cX12_mayTake 11 = .ok (.getfield 13, 3) := by decide +kernel
theorem dX12_mayTake_14 : decode cX12_mayTake 14 = .ok (.iconst 2, 1) := by decide +kernel
theorem dX12_mayTake_15 : decode cX12_mayTake 15 = .ok (.idiv, 1) := by decide +kernel
theorem dX12_mayTake_16 : decode cX12_mayTake 16 = .ok (.goto 7, 3) := by decide +kernel
theorem dX12_mayTake_19 : decode cX12_mayTake 19 = .ok (.aload_n 0, 1) := by decide +kernel
theorem dX12_mayTake_20 : decode cX12_mayTake 20 = .ok (.getfield 13, 3) := by decide +kernel
theorem dX12_mayTake_23 : decode cX12_mayTake 23 = .ok (.ireturn, 1) := by decide +kernel
theorem dX12_of_0 : decode cX12_of 0 = .ok (.aload_n 0, 1) := by decide +kernel
theorem dX12_of_1 : decode cX12_of 1 = .ok (.iload_n 1, 1) := by decide +kernel
theorem dX12_of_2 : decode cX12_of 2 = .ok (.invokevirtual 198, 3) := by decide +kernel
theorem dX12_of_5 : decode cX12_of 5 = .ok (.ifCond .ne 10, 3) := by decide +kernel
theorem dX12_of_8 : decode cX12_of 8 = .ok (.aload_n 0, 1) := by decide +kernel
theorem dX12_of_9 : decode cX12_of 9 = .ok (.ldc 185, 2) := by decide +kernel
theorem dX12_of_11 : decode cX12_of 11 = .ok (.invokevirtual 177, 3) := by decide +kernel
theorem dX12_of_14 : decode cX12_of 14 = .ok (.ireturn, 1) := by decide +kernel
theorem dX12_of_15 : decode cX12_of 15 = .ok (.iload_n 2, 1) := by decide +kernel
theorem dX12_of_16 : decode cX12_of 16 = .ok (.tableswitch 97 0 6 #[44, 51, 58, 65, 72, 81, 91], 44) := by decide +kernel
theorem dX12_of_60 : decode cX12_of 60 = .ok (.aload_n 0, 1) := by decide +kernel
theorem dX12_of_61 : decode cX12_of 61 = .ok (.getfield 30, 3) := by decide +kernel
theorem dX12_of_64 : decode cX12_of 64 = .ok (.iload_n 1, 1) := by decide +kernel
theorem dX12_of_65 : decode cX12_of 65 = .ok (.iaload, 1) := by decide +kernel
theorem dX12_of_66 : decode cX12_of 66 = .ok (.ireturn, 1) := by decide +kernel
theorem dX12_of_67 : decode cX12_of 67 = .ok (.aload_n 0, 1) := by decide +kernel
theorem dX12_of_68 : decode cX12_of 68 = .ok (.getfield 33, 3) := by decide +kernel
theorem dX12_of_71 : decode cX12_of 71 = .ok (.iload_n 1, 1) := by decide +kernel
theorem dX12_of_72 : decode cX12_of 72 = .ok (.iaload, 1) := by decide +kernel
theorem dX12_of_73 : decode cX12_of 73 = .ok (.ireturn, 1) := by decide +kernel
theorem dX12_of_74 : decode cX12_of 74 = .ok (.aload_n 0, 1) := by decide +kernel
theorem dX12_of_75 : decode cX12_of 75 = .ok (.getfield 36, 3) := by decide +kernel
theorem dX12_of_78 : decode cX12_of 78 = .ok (.iload_n 1, 1) := by decide +kernel
theorem dX12_of_79 : decode cX12_of 79 = .ok (.iaload, 1) := by decide +kernel
theorem dX12_of_80 : decode cX12_of 80 = .ok (.ireturn, 1) := by decide +kernel
theorem dX12_of_81 : decode cX12_of 81 = .ok (.aload_n 0, 1) := by decide +kernel
theorem dX12_of_82 : decode cX12_of 82 = .ok (.getfield 39, 3) := by decide +kernel
theorem dX12_of_85 : decode cX12_of 85 = .ok (.iload_n 1, 1) := by decide +kernel
theorem dX12_of_86 : decode cX12_of 86 = .ok (.iaload, 1) := by decide +kernel
theorem dX12_of_87 : decode cX12_of 87 = .ok (.ireturn, 1) := by decide +kernel
theorem dX12_of_88 : decode cX12_of 88 = .ok (.aload_n 0, 1) := by decide +kernel
theorem dX12_of_89 : decode cX12_of 89 = .ok (.iload_n 1, 1) := by decide +kernel
theorem dX12_of_90 : decode cX12_of 90 = .ok (.invokevirtual 209, 3) := by decide +kernel
theorem dX12_of_93 : decode cX12_of 93 = .ok (.invokestatic 212, 3) := by decide +kernel
theorem dX12_of_96 : decode cX12_of 96 = .ok (.ireturn, 1) := by decide +kernel
theorem dX12_of_97 : decode cX12_of 97 = .ok (.aload_n 0, 1) := by decide +kernel
theorem dX12_of_98 : decode cX12_of 98 = .ok (.aload_n 0, 1) := by decide +kernel
theorem dX12_of_99 : decode cX12_of 99 = .ok (.iload_n 1, 1) := by decide +kernel
theorem dX12_of_100 : decode cX12_of 100 = .ok (.invokevirtual 209, 3) := by decide +kernel
theorem dX12_of_103 : decode cX12_of 103 = .ok (.invokevirtual 215, 3) := by decide +kernel
theorem dX12_of_106 : decode cX12_of 106 = .ok (.ireturn, 1) := by decide +kernel
theorem dX12_of_107 : decode cX12_of 107 = .ok (.aload_n 0, 1) := by decide +kernel
theorem dX12_of_108 : decode cX12_of 108 = .ok (.iload_n 1, 1) := by decide +kernel
theorem dX12_of_109 : decode cX12_of 109 = .ok (.invokevirtual 218, 3) := by decide +kernel
theorem dX12_of_112 : decode cX12_of 112 = .ok (.ireturn, 1) := by decide +kernel
theorem dX12_of_113 : decode cX12_of 113 = .ok (.aload_n 0, 1) := by decide +kernel
theorem dX12_of_114 : decode cX12_of 114 = .ok (.ldc 185, 2) := by decide +kernel
theorem dX12_of_116 : decode cX12_of 116 = .ok (.invokevirtual 177, 3) := by decide +kernel
theorem dX12_of_119 : decode cX12_of 119 = .ok (.ireturn, 1) := by decide +kernel
theorem dX12_bell_0 : decode cX12_bell 0 = .ok (.aload_n 0, 1) := by decide +kernel
theorem dX12_bell_1 : decode cX12_bell 1 = .ok (.iload_n 1, 1) := by decide +kernel
theorem dX12_bell_2 : decode cX12_bell 2 = .ok (.invokevirtual 198, 3) := by decide +kernel
theorem dX12_bell_5 : decode cX12_bell 5 = .ok (.ifCond .eq 13, 3) := by decide +kernel
theorem dX12_bell_8 : decode cX12_bell 8 = .ok (.iload_n 2, 1) := by decide +kernel
theorem dX12_bell_9 : decode cX12_bell 9 = .ok (.iconst 0, 1) := by decide +kernel
theorem dX12_bell_10 : decode cX12_bell 10 = .ok (.bipush 6, 2) := by decide +kernel
theorem dX12_bell_12 : decode cX12_bell 12 = .ok (.invokestatic 159, 3) := by decide +kernel
theorem dX12_bell_15 : decode cX12_bell 15 = .ok (.ifCond .ne 10, 3) := by decide +kernel
theorem dX12_bell_18 : decode cX12_bell 18 = .ok (.aload_n 0, 1) := by decide +kernel
theorem dX12_bell_19 : decode cX12_bell 19 = .ok (.ldc 185, 2) := by decide +kernel
theorem dX12_bell_21 : decode cX12_bell 21 = .ok (.invokevirtual 177, 3) := by decide +kernel
theorem dX12_bell_24 : decode cX12_bell 24 = .ok (.ireturn, 1) := by decide +kernel
theorem dX12_bell_25 : decode cX12_bell 25 = .ok (.aload_n 0, 1) := by decide +kernel
theorem dX12_bell_26 : decode cX12_bell 26 = .ok (.getfield 36, 3) := by decide +kernel
theorem dX12_bell_29 : decode cX12_bell 29 = .ok (.iload_n 1, 1) := by decide +kernel
theorem dX12_bell_30 : decode cX12_bell 30 = .ok (.iaload, 1) := by decide +kernel
theorem dX12_bell_31 : decode cX12_bell 31 = .ok (.istore_n 3, 1) := by decide +kernel
theorem dX12_bell_32 : decode cX12_bell 32 = .ok (.aload_n 0, 1) := by decide +kernel
theorem dX12_bell_33 : decode cX12_bell 33 = .ok (.getfield 36, 3) := by decide +kernel
theorem dX12_bell_36 : decode cX12_bell 36 = .ok (.iload_n 1, 1) := by decide +kernel
theorem dX12_bell_37 : decode cX12_bell 37 = .ok (.iload_n 2, 1) := by decide +kernel
theorem dX12_bell_38 : decode cX12_bell 38 = .ok (.iastore, 1) := by decide +kernel
theorem dX12_bell_39 : decode cX12_bell 39 = .ok (.iload_n 3, 1) := by decide +kernel
theorem dX12_bell_40 : decode cX12_bell 40 = .ok (.ireturn, 1) := by decide +kernel
theorem dX12_wish_0 : decode cX12_wish 0 = .ok (.aload_n 0, 1) := by decide +kernel
theorem dX12_wish_1 : decode cX12_wish 1 = .ok (.iload_n 1, 1) := by decide +kernel
theorem dX12_wish_2 : decode cX12_wish 2 = .ok (.invokevirtual 198, 3) := by decide +kernel
theorem dX12_wish_5 : decode cX12_wish 5 = .ok (.ifCond .eq 13, 3) := by decide +kernel
theorem dX12_wish_8 : decode cX12_wish 8 = .ok (.iload_n 2, 1) := by decide +kernel
theorem dX12_wish_9 : decode cX12_wish 9 = .ok (.iconst 0, 1) := by decide +kernel
theorem dX12_wish_10 : decode cX12_wish 10 = .ok (.bipush 6, 2) := by decide +kernel
theorem dX12_wish_12 : decode cX12_wish 12 = .ok (.invokestatic 159, 3) := by decide +kernel
theorem dX12_wish_15 : decode cX12_wish 15 = .ok (.ifCond .ne 10, 3) := by decide +kernel
theorem dX12_wish_18 : decode cX12_wish 18 = .ok (.aload_n 0, 1) := by decide +kernel
theorem dX12_wish_19 : decode cX12_wish 19 = .ok (.ldc 185, 2) := by decide +kernel
theorem dX12_wish_21 : decode cX12_wish 21 = .ok (.invokevirtual 177, 3) := by decide +kernel
theorem dX12_wish_24 : decode cX12_wish 24 = .ok (.ireturn, 1) := by decide +kernel
theorem dX12_wish_25 : decode cX12_wish 25 = .ok (.aload_n 0, 1) := by decide +kernel
theorem dX12_wish_26 : decode cX12_wish 26 = .ok (.getfield 39, 3) := by decide +kernel
theorem dX12_wish_29 : decode cX12_wish 29 = .ok (.iload_n 1, 1) := by decide +kernel
theorem dX12_wish_30 : decode cX12_wish 30 = .ok (.iaload, 1) := by decide +kernel
theorem dX12_wish_31 : decode cX12_wish 31 = .ok (.istore_n 3, 1) := by decide +kernel
theorem dX12_wish_32 : decode cX12_wish 32 = .ok (.aload_n 0, 1) := by decide +kernel
theorem dX12_wish_33 : decode cX12_wish 33 = .ok (.getfield 39, 3) := by decide +kernel
theorem dX12_wish_36 : decode cX12_wish 36 = .ok (.iload_n 1, 1) := by decide +kernel
theorem dX12_wish_37 : decode cX12_wish 37 = .ok (.iload_n 2, 1) := by decide +kernel
theorem dX12_wish_38 : decode cX12_wish 38 = .ok (.iastore, 1) := by decide +kernel
theorem dX12_wish_39 : decode cX12_wish 39 = .ok (.aload_n 0, 1) := by decide +kernel
theorem dX12_wish_40 : decode cX12_wish 40 = .ok (.invokevirtual 189, 3) := by decide +kernel
theorem dX12_wish_43 : decode cX12_wish 43 = .ok (.iload_n 3, 1) := by decide +kernel
theorem dX12_wish_44 : decode cX12_wish 44 = .ok (.ireturn, 1) := by decide +kernel
theorem dX12_stop_0 : decode cX12_stop 0 = .ok (.aload_n 0, 1) := by decide +kernel
theorem dX12_stop_1 : decode cX12_stop 1 = .ok (.iload_n 1, 1) := by decide +kernel
theorem dX12_stop_2 : decode cX12_stop 2 = .ok (.invokevirtual 198, 3) := by decide +kernel
theorem dX12_stop_5 : decode cX12_stop 5 = .ok (.ifCond .eq 31, 3) := by decide +kernel
theorem dX12_stop_8 : decode cX12_stop 8 = .ok (.aload_n 0, 1) := by decide +kernel
theorem dX12_stop_9 : decode cX12_stop 9 = .ok (.iload_n 2, 1) := by decide +kernel
theorem dX12_stop_10 : decode cX12_stop 10 = .ok (.invokevirtual 181, 3) := by decide +kernel
theorem dX12_stop_13 : decode cX12_stop 13 = .ok (.ifCond .eq 23, 3) := by decide +kernel
theorem dX12_stop_16 : decode cX12_stop 16 = .ok (.iload_n 3, 1) := by decide +kernel
theorem dX12_stop_17 : decode cX12_stop 17 = .ok (.iconst 1, 1) := by decide +kernel
theorem dX12_stop_18 : decode cX12_stop 18 = .ok (.bipush 30, 2) := by decide +kernel
theorem dX12_stop_20 : decode cX12_stop 20 = .ok (.invokestatic 159, 3) := by decide +kernel
theorem dX12_stop_23 : decode cX12_stop 23 = .ok (.ifCond .eq 13, 3) := by decide +kernel
theorem dX12_stop_26 : decode cX12_stop 26 = .ok (.iload 4, 2) := by decide +kernel
theorem dX12_stop_28 : decode cX12_stop 28 = .ok (.iconst 0, 1) := by decide +kernel
theorem dX12_stop_29 : decode cX12_stop 29 = .ok (.iconst 3, 1) := by decide +kernel
theorem dX12_stop_30 : decode cX12_stop 30 = .ok (.invokestatic 159, 3) := by decide +kernel
theorem dX12_stop_33 : decode cX12_stop 33 = .ok (.ifCond .ne 10, 3) := by decide +kernel
theorem dX12_stop_36 : decode cX12_stop 36 = .ok (.aload_n 0, 1) := by decide +kernel
theorem dX12_stop_37 : decode cX12_stop 37 = .ok (.ldc 185, 2) := by decide +kernel
theorem dX12_stop_39 : decode cX12_stop 39 = .ok (.invokevirtual 177, 3) := by decide +kernel
theorem dX12_stop_42 : decode cX12_stop 42 = .ok (.ireturn, 1) := by decide +kernel
theorem dX12_stop_43 : decode cX12_stop 43 = .ok (.aload_n 0, 1) := by decide +kernel
theorem dX12_stop_44 : decode cX12_stop 44 = .ok (.getfield 166, 3) := by decide +kernel
theorem dX12_stop_47 : decode cX12_stop 47 = .ok (.bipush 10, 2) := by decide +kernel
theorem dX12_stop_49 : decode cX12_stop 49 = .ok (.if_icmp .ne 10, 3) := by decide +kernel
theorem dX12_stop_52 : decode cX12_stop 52 = .ok (.aload_n 0, 1) := by decide +kernel
theorem dX12_stop_53 : decode cX12_stop 53 = .ok (.ldc 176, 2) := by decide +kernel
theorem dX12_stop_55 : decode cX12_stop 55 = .ok (.invokevirtual 177, 3) := by decide +kernel
theorem dX12_stop_58 : decode cX12_stop 58 = .ok (.ireturn, 1) := by decide +kernel
theorem dX12_stop_59 : decode cX12_stop 59 = .ok (.aload_n 0, 1) := by decide +kernel
theorem dX12_stop_60 : decode cX12_stop 60 = .ok (.getfield 42, 3) := by decide +kernel
theorem dX12_stop_63 : decode cX12_stop 63 = .ok (.aload_n 0, 1) := by decide +kernel
theorem dX12_stop_64 : decode cX12_stop 64 = .ok (.getfield 166, 3) := by decide +kernel
theorem dX12_stop_67 : decode cX12_stop 67 = .ok (.iload_n 1, 1) := by decide +kernel
theorem dX12_stop_68 : decode cX12_stop 68 = .ok (.iastore, 1) := by decide +kernel
theorem dX12_stop_69 : decode cX12_stop 69 = .ok (.aload_n 0, 1) := by decide +kernel
theorem dX12_stop_70 : decode cX12_stop 70 = .ok (.getfield 45, 3) := by decide +kernel
theorem dX12_stop_73 : decode cX12_stop 73 = .ok (.aload_n 0, 1) := by decide +kernel
theorem dX12_stop_74 : decode cX12_stop 74 = .ok (.getfield 166, 3) := by decide +kernel
theorem dX12_stop_77 : decode cX12_stop 77 = .ok (.iload_n 2, 1) := by decide +kernel
theorem dX12_stop_78 : decode cX12_stop 78 = .ok (.iastore, 1) := by decide +kernel
theorem dX12_stop_79 : decode cX12_stop 79 = .ok (.aload_n 0, 1) := by decide +kernel
theorem dX12_stop_80 : decode cX12_stop 80 = .ok (.getfield 48, 3) := by decide +kernel
theorem dX12_stop_83 : decode cX12_stop 83 = .ok (.aload_n 0, 1) := by decide +kernel
theorem dX12_stop_84 : decode cX12_stop 84 = .ok (.getfield 166, 3) := by decide +kernel
theorem dX12_stop_87 : decode cX12_stop 87 = .ok (.iload_n 3, 1) := by decide +kernel
theorem dX12_stop_88 : decode cX12_stop 88 = .ok (.iastore, 1) := by decide +kernel
theorem dX12_stop_89 : decode cX12_stop 89 = .ok (.aload_n 0, 1) := by decide +kernel
theorem dX12_stop_90 : decode cX12_stop 90 = .ok (.getfield 51, 3) := by decide +kernel
theorem dX12_stop_93 : decode cX12_stop 93 = .ok (.aload_n 0, 1) := by decide +kernel
theorem dX12_stop_94 : decode cX12_stop 94 = .ok (.getfield 166, 3) := by decide +kernel
theorem dX12_stop_97 : decode cX12_stop 97 = .ok (.iload 4, 2) := by decide +kernel
theorem dX12_stop_99 : decode cX12_stop 99 = .ok (.iastore, 1) := by decide +kernel
theorem dX12_stop_100 : decode cX12_stop 100 = .ok (.aload_n 0, 1) := by decide +kernel
theorem dX12_stop_101 : decode cX12_stop 101 = .ok (.dup, 1) := by decide +kernel
theorem dX12_stop_102 : decode cX12_stop 102 = .ok (.getfield 166, 3) := by decide +kernel
theorem dX12_stop_105 : decode cX12_stop 105 = .ok (.iconst 1, 1) := by decide +kernel
theorem dX12_stop_106 : decode cX12_stop 106 = .ok (.iadd, 1) := by decide +kernel
theorem dX12_stop_107 : decode cX12_stop 107 = .ok (.putfield 166, 3) := by decide +kernel
theorem dX12_stop_110 : decode cX12_stop 110 = .ok (.aload_n 0, 1) := by decide +kernel
theorem dX12_stop_111 : decode cX12_stop 111 = .ok (.invokevirtual 189, 3) := by decide +kernel
theorem dX12_stop_114 : decode cX12_stop 114 = .ok (.aload_n 0, 1) := by decide +kernel
theorem dX12_stop_115 : decode cX12_stop 115 = .ok (.getfield 166, 3) := by decide +kernel
theorem dX12_stop_118 : decode cX12_stop 118 = .ok (.iconst 1, 1) := by decide +kernel
theorem dX12_stop_119 : decode cX12_stop 119 = .ok (.isub, 1) := by decide +kernel
theorem dX12_stop_120 : decode cX12_stop 120 = .ok (.ireturn, 1) := by decide +kernel
theorem dX12_pupils_0 : decode cX12_pupils 0 = .ok (.aload_n 0, 1) := by decide +kernel
theorem dX12_pupils_1 : decode cX12_pupils 1 = .ok (.iload_n 1, 1) := by decide +kernel
theorem dX12_pupils_2 : decode cX12_pupils 2 = .ok (.invokevirtual 221, 3) := by decide +kernel
theorem dX12_pupils_5 : decode cX12_pupils 5 = .ok (.ifCond .eq 13, 3) := by decide +kernel
theorem dX12_pupils_8 : decode cX12_pupils 8 = .ok (.iload_n 2, 1) := by decide +kernel
theorem dX12_pupils_9 : decode cX12_pupils 9 = .ok (.iconst 1, 1) := by decide +kernel
theorem dX12_pupils_10 : decode cX12_pupils 10 = .ok (.bipush 30, 2) := by decide +kernel
theorem dX12_pupils_12 : decode cX12_pupils 12 = .ok (.invokestatic 159, 3) := by decide +kernel
theorem dX12_pupils_15 : decode cX12_pupils 15 = .ok (.ifCond .ne 10, 3) := by decide +kernel
theorem dX12_pupils_18 : decode cX12_pupils 18 = .ok (.aload_n 0, 1) := by decide +kernel
theorem dX12_pupils_19 : decode cX12_pupils 19 = .ok (.ldc 185, 2) := by decide +kernel
theorem dX12_pupils_21 : decode cX12_pupils 21 = .ok (.invokevirtual 177, 3) := by decide +kernel
theorem dX12_pupils_24 : decode cX12_pupils 24 = .ok (.ireturn, 1) := by decide +kernel
theorem dX12_pupils_25 : decode cX12_pupils 25 = .ok (.aload_n 0, 1) := by decide +kernel
theorem dX12_pupils_26 : decode cX12_pupils 26 = .ok (.getfield 48, 3) := by decide +kernel
theorem dX12_pupils_29 : decode cX12_pupils 29 = .ok (.iload_n 1, 1) := by decide +kernel
theorem dX12_pupils_30 : decode cX12_pupils 30 = .ok (.iaload, 1) := by decide +kernel
theorem dX12_pupils_31 : decode cX12_pupils 31 = .ok (.istore_n 3, 1) := by decide +kernel
theorem dX12_pupils_32 : decode cX12_pupils 32 = .ok (.aload_n 0, 1) := by decide +kernel
theorem dX12_pupils_33 : decode cX12_pupils 33 = .ok (.getfield 48, 3) := by decide +kernel
theorem dX12_pupils_36 : decode cX12_pupils 36 = .ok (.iload_n 1, 1) := by decide +kernel
theorem dX12_pupils_37 : decode cX12_pupils 37 = .ok (.iload_n 2, 1) := by decide +kernel
theorem dX12_pupils_38 : decode cX12_pupils 38 = .ok (.iastore, 1) := by decide +kernel
theorem dX12_pupils_39 : decode cX12_pupils 39 = .ok (.aload_n 0, 1) := by decide +kernel
theorem dX12_pupils_40 : decode cX12_pupils 40 = .ok (.invokevirtual 189, 3) := by decide +kernel
theorem dX12_pupils_43 : decode cX12_pupils 43 = .ok (.iload_n 3, 1) := by decide +kernel
theorem dX12_pupils_44 : decode cX12_pupils 44 = .ok (.ireturn, 1) := by decide +kernel
theorem dX12_gone_0 : decode cX12_gone 0 = .ok (.aload_n 0, 1) := by decide +kernel
theorem dX12_gone_1 : decode cX12_gone 1 = .ok (.iload_n 1, 1) := by decide +kernel
theorem dX12_gone_2 : decode cX12_gone 2 = .ok (.invokevirtual 221, 3) := by decide +kernel
theorem dX12_gone_5 : decode cX12_gone 5 = .ok (.ifCond .ne 10, 3) := by decide +kernel
theorem dX12_gone_8 : decode cX12_gone 8 = .ok (.aload_n 0, 1) := by decide +kernel
theorem dX12_gone_9 : decode cX12_gone 9 = .ok (.ldc 185, 2) := by decide +kernel
theorem dX12_gone_11 : decode cX12_gone 11 = .ok (.invokevirtual 177, 3) := by decide +kernel
theorem dX12_gone_14 : decode cX12_gone 14 = .ok (.ireturn, 1) := by decide +kernel
theorem dX12_gone_15 : decode cX12_gone 15 = .ok (.iload_n 1, 1) := by decide +kernel
theorem dX12_gone_16 : decode cX12_gone 16 = .ok (.istore_n 2, 1) := by decide +kernel
theorem dX12_gone_17 : decode cX12_gone 17 = .ok (.iload_n 2, 1) := by decide +kernel
theorem dX12_gone_18 : decode cX12_gone 18 = .ok (.aload_n 0, 1) := by decide +kernel
theorem dX12_gone_19 : decode cX12_gone 19 = .ok (.getfield 166, 3) := by decide +kernel
theorem dX12_gone_22 : decode cX12_gone 22 = .ok (.iconst 1, 1) := by decide +kernel
theorem dX12_gone_23 : decode cX12_gone 23 = .ok (.isub, 1) := by decide +kernel
theorem dX12_gone_24 : decode cX12_gone 24 = .ok (.if_icmp .ge 65, 3) := by decide +kernel
theorem dX12_gone_27 : decode cX12_gone 27 = .ok (.aload_n 0, 1) := by decide +kernel
theorem dX12_gone_28 : decode cX12_gone 28 = .ok (.getfield 42, 3) := by decide +kernel
theorem dX12_gone_31 : decode cX12_gone 31 = .ok (.iload_n 2, 1) := by decide +kernel
theorem dX12_gone_32 : decode cX12_gone 32 = .ok (.aload_n 0, 1) := by decide +kernel
theorem dX12_gone_33 : decode cX12_gone 33 = .ok (.getfield 42, 3) := by decide +kernel
theorem dX12_gone_36 : decode cX12_gone 36 = .ok (.iload_n 2, 1) := by decide +kernel
theorem dX12_gone_37 : decode cX12_gone 37 = .ok (.iconst 1, 1) := by decide +kernel
theorem dX12_gone_38 : decode cX12_gone 38 = .ok (.iadd, 1) := by decide +kernel
theorem dX12_gone_39 : decode cX12_gone 39 = .ok (.iaload, 1) := by decide +kernel
theorem dX12_gone_40 : decode cX12_gone 40 = .ok (.iastore, 1) := by decide +kernel
theorem dX12_gone_41 : decode cX12_gone 41 = .ok (.aload_n 0, 1) := by decide +kernel
theorem dX12_gone_42 : decode cX12_gone 42 = .ok (.getfield 45, 3) := by decide +kernel
theorem dX12_gone_45 : decode cX12_gone 45 = .ok (.iload_n 2, 1) := by decide +kernel
theorem dX12_gone_46 : decode cX12_gone 46 = .ok (.aload_n 0, 1) := by decide +kernel
theorem dX12_gone_47 : decode cX12_gone 47 = .ok (.getfield 45, 3) := by decide +kernel
theorem dX12_gone_50 : decode cX12_gone 50 = .ok (.iload_n 2, 1) := by decide +kernel
theorem dX12_gone_51 : decode cX12_gone 51 = .ok (.iconst 1, 1) := by decide +kernel
theorem dX12_gone_52 : decode cX12_gone 52 = .ok (.iadd, 1) := by decide +kernel
theorem dX12_gone_53 : decode cX12_gone 53 = .ok (.iaload, 1) := by decide +kernel
theorem dX12_gone_54 : decode cX12_gone 54 = .ok (.iastore, 1) := by decide +kernel
theorem dX12_gone_55 : decode cX12_gone 55 = .ok (.aload_n 0, 1) := by decide +kernel
theorem dX12_gone_56 : decode cX12_gone 56 = .ok (.getfield 48, 3) := by decide +kernel
theorem dX12_gone_59 : decode cX12_gone 59 = .ok (.iload_n 2, 1) := by decide +kernel
theorem dX12_gone_60 : decode cX12_gone 60 = .ok (.aload_n 0, 1) := by decide +kernel
theorem dX12_gone_61 : decode cX12_gone 61 = .ok (.getfield 48, 3) := by decide +kernel
theorem dX12_gone_64 : decode cX12_gone 64 = .ok (.iload_n 2, 1) := by decide +kernel
theorem dX12_gone_65 : decode cX12_gone 65 = .ok (.iconst 1, 1) := by decide +kernel
theorem dX12_gone_66 : decode cX12_gone 66 = .ok (.iadd, 1) := by decide +kernel
theorem dX12_gone_67 : decode cX12_gone 67 = .ok (.iaload, 1) := by decide +kernel
theorem dX12_gone_68 : decode cX12_gone 68 = .ok (.iastore, 1) := by decide +kernel
theorem dX12_gone_69 : decode cX12_gone 69 = .ok (.aload_n 0, 1) := by decide +kernel
theorem dX12_gone_70 : decode cX12_gone 70 = .ok (.getfield 51, 3) := by decide +kernel
theorem dX12_gone_73 : decode cX12_gone 73 = .ok (.iload_n 2, 1) := by decide +kernel
theorem dX12_gone_74 : decode cX12_gone 74 = .ok (.aload_n 0, 1) := by decide +kernel
theorem dX12_gone_75 : decode cX12_gone 75 = .ok (.getfield 51, 3) := by decide +kernel
theorem dX12_gone_78 : decode cX12_gone 78 = .ok (.iload_n 2, 1) := by decide +kernel
theorem dX12_gone_79 : decode cX12_gone 79 = .ok (.iconst 1, 1) := by decide +kernel
theorem dX12_gone_80 : decode cX12_gone 80 = .ok (.iadd, 1) := by decide +kernel
theorem dX12_gone_81 : decode cX12_gone 81 = .ok (.iaload, 1) := by decide +kernel
theorem dX12_gone_82 : decode cX12_gone 82 = .ok (.iastore, 1) := by decide +kernel
theorem dX12_gone_83 : decode cX12_gone 83 = .ok (.iinc 2 1, 3) := by decide +kernel
theorem dX12_gone_86 : decode cX12_gone 86 = .ok (.goto (-69), 3) := by decide +kernel
theorem dX12_gone_89 : decode cX12_gone 89 = .ok (.aload_n 0, 1) := by decide +kernel
theorem dX12_gone_90 : decode cX12_gone 90 = .ok (.dup, 1) := by decide +kernel
theorem dX12_gone_91 : decode cX12_gone 91 = .ok (.getfield 166, 3) := by decide +kernel
theorem dX12_gone_94 : decode cX12_gone 94 = .ok (.iconst 1, 1) := by decide +kernel
theorem dX12_gone_95 : decode cX12_gone 95 = .ok (.isub, 1) := by decide +kernel
theorem dX12_gone_96 : decode cX12_gone 96 = .ok (.putfield 166, 3) := by decide +kernel
theorem dX12_gone_99 : decode cX12_gone 99 = .ok (.aload_n 0, 1) := by decide +kernel
theorem dX12_gone_100 : decode cX12_gone 100 = .ok (.invokevirtual 189, 3) := by decide +kernel
theorem dX12_gone_103 : decode cX12_gone 103 = .ok (.aload_n 0, 1) := by decide +kernel
theorem dX12_gone_104 : decode cX12_gone 104 = .ok (.getfield 166, 3) := by decide +kernel
theorem dX12_gone_107 : decode cX12_gone 107 = .ok (.ireturn, 1) := by decide +kernel
theorem dX12_terms_0 : decode cX12_terms 0 = .ok (.iload_n 1, 1) := by decide +kernel
theorem dX12_terms_1 : decode cX12_terms 1 = .ok (.iconst 1, 1) := by decide +kernel
theorem dX12_terms_2 : decode cX12_terms 2 = .ok (.bipush 60, 2) := by decide +kernel
theorem dX12_terms_4 : decode cX12_terms 4 = .ok (.invokestatic 159, 3) := by decide +kernel
theorem dX12_terms_7 : decode cX12_terms 7 = .ok (.ifCond .eq 23, 3) := by decide +kernel
theorem dX12_terms_10 : decode cX12_terms 10 = .ok (.iload_n 2, 1) := by decide +kernel
theorem dX12_terms_11 : decode cX12_terms 11 = .ok (.iconst 1, 1) := by decide +kernel
theorem dX12_terms_12 : decode cX12_terms 12 = .ok (.bipush 90, 2) := by decide +kernel
theorem dX12_terms_14 : decode cX12_terms 14 = .ok (.invokestatic 159, 3) := by decide +kernel
theorem dX12_terms_17 : decode cX12_terms 17 = .ok (.ifCond .eq 13, 3) := by decide +kernel
theorem dX12_terms_20 : decode cX12_terms 20 = .ok (.iload_n 3, 1) := by decide +kernel
theorem dX12_terms_21 : decode cX12_terms 21 = .ok (.iconst 0, 1) := by decide +kernel
theorem dX12_terms_22 : decode cX12_terms 22 = .ok (.bipush 30, 2) := by decide +kernel
theorem dX12_terms_24 : decode cX12_terms 24 = .ok (.invokestatic 159, 3) := by decide +kernel
theorem dX12_terms_27 : decode cX12_terms 27 = .ok (.ifCond .ne 10, 3) := by decide +kernel
theorem dX12_terms_30 : decode cX12_terms 30 = .ok (.aload_n 0, 1) := by decide +kernel
theorem dX12_terms_31 : decode cX12_terms 31 = .ok (.ldc 185, 2) := by decide +kernel
theorem dX12_terms_33 : decode cX12_terms 33 = .ok (.invokevirtual 177, 3) := by decide +kernel
theorem dX12_terms_36 : decode cX12_terms 36 = .ok (.ireturn, 1) := by decide +kernel
theorem dX12_terms_37 : decode cX12_terms 37 = .ok (.aload_n 0, 1) := by decide +kernel
theorem dX12_terms_38 : decode cX12_terms 38 = .ok (.iload_n 1, 1) := by decide +kernel
theorem dX12_terms_39 : decode cX12_terms 39 = .ok (.putfield 7, 3) := by decide +kernel
theorem dX12_terms_42 : decode cX12_terms 42 = .ok (.aload_n 0, 1) := by decide +kernel
theorem dX12_terms_43 : decode cX12_terms 43 = .ok (.iload_n 2, 1) := by decide +kernel
theorem dX12_terms_44 : decode cX12_terms 44 = .ok (.putfield 13, 3) := by decide +kernel
theorem dX12_terms_47 : decode cX12_terms 47 = .ok (.aload_n 0, 1) := by decide +kernel
theorem dX12_terms_48 : decode cX12_terms 48 = .ok (.iload_n 3, 1) := by decide +kernel
theorem dX12_terms_49 : decode cX12_terms 49 = .ok (.putfield 224, 3) := by decide +kernel
theorem dX12_terms_52 : decode cX12_terms 52 = .ok (.aload_n 0, 1) := by decide +kernel
theorem dX12_terms_53 : decode cX12_terms 53 = .ok (.invokevirtual 189, 3) := by decide +kernel
theorem dX12_terms_56 : decode cX12_terms 56 = .ok (.iconst 1, 1) := by decide +kernel
theorem dX12_terms_57 : decode cX12_terms 57 = .ok (.ireturn, 1) := by decide +kernel
theorem dX12_lengths_0 : decode cX12_lengths 0 = .ok (.aload_n 0, 1) := by decide +kernel
theorem dX12_lengths_1 : decode cX12_lengths 1 = .ok (.getfield 81, 3) := by decide +kernel
theorem dX12_lengths_4 : decode cX12_lengths 4 = .ok (.iload_n 2, 1) := by decide +kernel
theorem dX12_lengths_5 : decode cX12_lengths 5 = .ok (.ldc 192, 2) := by decide +kernel
theorem dX12_lengths_7 : decode cX12_lengths 7 = .ok (.iastore, 1) := by decide +kernel
theorem dX12_lengths_8 : decode cX12_lengths 8 = .ok (.iconst 0, 1) := by decide +kernel
theorem dX12_lengths_9 : decode cX12_lengths 9 = .ok (.istore_n 3, 1) := by decide +kernel
theorem dX12_lengths_10 : decode cX12_lengths 10 = .ok (.iload_n 3, 1) := by decide +kernel
theorem dX12_lengths_11 : decode cX12_lengths 11 = .ok (.aload_n 0, 1) := by decide +kernel
theorem dX12_lengths_12 : decode cX12_lengths 12 = .ok (.getfield 166, 3) := by decide +kernel
theorem dX12_lengths_15 : decode cX12_lengths 15 = .ok (.if_icmp .ge 206, 3) := by decide +kernel
theorem dX12_lengths_18 : decode cX12_lengths 18 = .ok (.iload_n 2, 1) := by decide +kernel
theorem dX12_lengths_19 : decode cX12_lengths 19 = .ok (.iload_n 3, 1) := by decide +kernel
theorem dX12_lengths_20 : decode cX12_lengths 20 = .ok (.invokestatic 206, 3) := by decide +kernel
theorem dX12_lengths_23 : decode cX12_lengths 23 = .ok (.ifCond .ne 6, 3) := by decide +kernel
theorem dX12_lengths_26 : decode cX12_lengths 26 = .ok (.goto 189, 3) := by decide +kernel
theorem dX12_lengths_29 : decode cX12_lengths 29 = .ok (.iload_n 2, 1) := by decide +kernel
theorem dX12_lengths_30 : decode cX12_lengths 30 = .ok (.iconst 1, 1) := by decide +kernel
theorem dX12_lengths_31 : decode cX12_lengths 31 = .ok (.iload_n 3, 1) := by decide +kernel
theorem dX12_lengths_32 : decode cX12_lengths 32 = .ok (.ishl, 1) := by decide +kernel
theorem dX12_lengths_33 : decode cX12_lengths 33 = .ok (.iconst (-1), 1) := by decide +kernel
theorem dX12_lengths_34 : decode cX12_lengths 34 = .ok (.ixor, 1) := by decide +kernel
theorem dX12_lengths_35 : decode cX12_lengths 35 = .ok (.iand, 1) := by decide +kernel
theorem dX12_lengths_36 : decode cX12_lengths 36 = .ok (.istore 4, 2) := by decide +kernel
theorem dX12_lengths_38 : decode cX12_lengths 38 = .ok (.iload 4, 2) := by decide +kernel
theorem dX12_lengths_40 : decode cX12_lengths 40 = .ok (.ifCond .ne 27, 3) := by decide +kernel
theorem dX12_lengths_43 : decode cX12_lengths 43 = .ok (.aload_n 0, 1) := by decide +kernel
theorem dX12_lengths_44 : decode cX12_lengths 44 = .ok (.getfield 75, 3) := by decide +kernel
theorem dX12_lengths_47 : decode cX12_lengths 47 = .ok (.bipush 8, 2) := by decide +kernel
theorem dX12_lengths_49 : decode cX12_lengths 49 = .ok (.aload_n 0, 1) := by decide +kernel
theorem dX12_lengths_50 : decode cX12_lengths 50 = .ok (.getfield 45, 3) := by decide +kernel
theorem dX12_lengths_53 : decode cX12_lengths 53 = .ok (.iload_n 3, 1) := by decide +kernel
theorem dX12_lengths_54 : decode cX12_lengths 54 = .ok (.iaload, 1) := by decide +kernel
theorem dX12_lengths_55 : decode cX12_lengths 55 = .ok (.imul, 1) := by decide +kernel
theorem dX12_lengths_56 : decode cX12_lengths 56 = .ok (.aload_n 0, 1) := by decide +kernel
theorem dX12_lengths_57 : decode cX12_lengths 57 = .ok (.getfield 33, 3) := by decide +kernel
theorem dX12_lengths_60 : decode cX12_lengths 60 = .ok (.iload_n 1, 1) := by decide +kernel
theorem dX12_lengths_61 : decode cX12_lengths 61 = .ok (.iaload, 1) := by decide +kernel
theorem dX12_lengths_62 : decode cX12_lengths 62 = .ok (.iadd, 1) := by decide +kernel
theorem dX12_lengths_63 : decode cX12_lengths 63 = .ok (.iaload, 1) := by decide +kernel
theorem dX12_lengths_64 : decode cX12_lengths 64 = .ok (.goto 5, 3) := by decide +kernel
theorem dX12_lengths_67 : decode cX12_lengths 67 = .ok (.ldc 192, 2) := by decide +kernel
theorem dX12_lengths_69 : decode cX12_lengths 69 = .ok (.istore 5, 2) := by decide +kernel
theorem dX12_lengths_71 : decode cX12_lengths 71 = .ok (.iconst 0, 1) := by decide +kernel
theorem dX12_lengths_72 : decode cX12_lengths 72 = .ok (.istore 6, 2) := by decide +kernel
theorem dX12_lengths_74 : decode cX12_lengths 74 = .ok (.iload 6, 2) := by decide +kernel
theorem dX12_lengths_76 : decode cX12_lengths 76 = .ok (.aload_n 0, 1) := by decide +kernel
theorem dX12_lengths_77 : decode cX12_lengths 77 = .ok (.getfield 166, 3) := by decide +kernel
theorem dX12_lengths_80 : decode cX12_lengths 80 = .ok (.if_icmp .ge 76, 3) := by decide +kernel
theorem dX12_lengths_83 : decode cX12_lengths 83 = .ok (.iload 4, 2) := by decide +kernel
theorem dX12_lengths_85 : decode cX12_lengths 85 = .ok (.iload 6, 2) := by decide +kernel
theorem dX12_lengths_87 : decode cX12_lengths 87 = .ok (.invokestatic 206, 3) := by decide +kernel
theorem dX12_lengths_90 : decode cX12_lengths 90 = .ok (.ifCond .ne 6, 3) := by decide +kernel
theorem dX12_lengths_93 : decode cX12_lengths 93 = .ok (.goto 57, 3) := by decide +kernel
theorem dX12_lengths_96 : decode cX12_lengths 96 = .ok (.aload_n 0, 1) := by decide +kernel
theorem dX12_lengths_97 : decode cX12_lengths 97 = .ok (.getfield 75, 3) := by decide +kernel
theorem dX12_lengths_100 : decode cX12_lengths 100 = .ok (.bipush 8, 2) := by decide +kernel
theorem dX12_lengths_102 : decode cX12_lengths 102 = .ok (.aload_n 0, 1) := by decide +kernel
theorem dX12_lengths_103 : decode cX12_lengths 103 = .ok (.getfield 45, 3) := by decide +kernel
theorem dX12_lengths_106 : decode cX12_lengths 106 = .ok (.iload_n 3, 1) := by decide +kernel
theorem dX12_lengths_107 : decode cX12_lengths 107 = .ok (.iaload, 1) := by decide +kernel
theorem dX12_lengths_108 : decode cX12_lengths 108 = .ok (.imul, 1) := by decide +kernel
theorem dX12_lengths_109 : decode cX12_lengths 109 = .ok (.aload_n 0, 1) := by decide +kernel
theorem dX12_lengths_110 : decode cX12_lengths 110 = .ok (.getfield 45, 3) := by decide +kernel
theorem dX12_lengths_113 : decode cX12_lengths 113 = .ok (.iload 6, 2) := by decide +kernel
theorem dX12_lengths_115 : decode cX12_lengths 115 = .ok (.iaload, 1) := by decide +kernel
theorem dX12_lengths_116 : decode cX12_lengths 116 = .ok (.iadd, 1) := by decide +kernel
theorem dX12_lengths_117 : decode cX12_lengths 117 = .ok (.iaload, 1) := by decide +kernel
theorem dX12_lengths_118 : decode cX12_lengths 118 = .ok (.aload_n 0, 1) := by decide +kernel
theorem dX12_lengths_119 : decode cX12_lengths 119 = .ok (.getfield 78, 3) := by decide +kernel
theorem dX12_lengths_122 : decode cX12_lengths 122 = .ok (.bipush 10, 2) := by decide +kernel
theorem dX12_lengths_124 : decode cX12_lengths 124 = .ok (.iload 4, 2) := by decide +kernel
theorem dX12_lengths_126 : decode cX12_lengths 126 = .ok (.imul, 1) := by decide +kernel
theorem dX12_lengths_127 : decode cX12_lengths 127 = .ok (.iload 6, 2) := by decide +kernel
theorem dX12_lengths_129 : decode cX12_lengths 129 = .ok (.iadd, 1) := by decide +kernel
theorem dX12_lengths_130 : decode cX12_lengths 130 = .ok (.iaload, 1) := by decide +kernel
theorem dX12_lengths_131 : decode cX12_lengths 131 = .ok (.iadd, 1) := by decide +kernel
theorem dX12_lengths_132 : decode cX12_lengths 132 = .ok (.istore 7, 2) := by decide +kernel
theorem dX12_lengths_134 : decode cX12_lengths 134 = .ok (.iload 7, 2) := by decide +kernel
theorem dX12_lengths_136 : decode cX12_lengths 136 = .ok (.iload 5, 2) := by decide +kernel
theorem dX12_lengths_138 : decode cX12_lengths 138 = .ok (.if_icmp .ge 8, 3) := by decide +kernel
theorem dX12_lengths_141 : decode cX12_lengths 141 = .ok (.iload 7, 2) := by decide +kernel
theorem dX12_lengths_143 : decode cX12_lengths 143 = .ok (.goto 5, 3) := by decide +kernel
theorem dX12_lengths_146 : decode cX12_lengths 146 = .ok (.iload 5, 2) := by decide +kernel
theorem dX12_lengths_148 : decode cX12_lengths 148 = .ok (.istore 5, 2) := by decide +kernel
theorem dX12_lengths_150 : decode cX12_lengths 150 = .ok (.iinc 6 1, 3) := by decide +kernel
theorem dX12_lengths_153 : decode cX12_lengths 153 = .ok (.goto (-79), 3) := by decide +kernel
theorem dX12_lengths_156 : decode cX12_lengths 156 = .ok (.iload 5, 2) := by decide +kernel
theorem dX12_lengths_158 : decode cX12_lengths 158 = .ok (.ldc 192, 2) := by decide +kernel
theorem dX12_lengths_160 : decode cX12_lengths 160 = .ok (.if_icmp .lt 8, 3) := by decide +kernel
theorem dX12_lengths_163 : decode cX12_lengths 163 = .ok (.ldc 192, 2) := by decide +kernel
theorem dX12_lengths_165 : decode cX12_lengths 165 = .ok (.goto 7, 3) := by decide +kernel
theorem dX12_lengths_168 : decode cX12_lengths 168 = .ok (.iload 5, 2) := by decide +kernel
theorem dX12_lengths_170 : decode cX12_lengths 170 = .ok (.iconst 1, 1) := by decide +kernel
theorem dX12_lengths_171 : decode cX12_lengths 171 = .ok (.iadd, 1) := by decide +kernel
theorem dX12_lengths_172 : decode cX12_lengths 172 = .ok (.istore 5, 2) := by decide +kernel
theorem dX12_lengths_174 : decode cX12_lengths 174 = .ok (.aload_n 0, 1) := by decide +kernel
theorem dX12_lengths_175 : decode cX12_lengths 175 = .ok (.getfield 78, 3) := by decide +kernel
theorem dX12_lengths_178 : decode cX12_lengths 178 = .ok (.bipush 10, 2) := by decide +kernel
theorem dX12_lengths_180 : decode cX12_lengths 180 = .ok (.iload_n 2, 1) := by decide +kernel
theorem dX12_lengths_181 : decode cX12_lengths 181 = .ok (.imul, 1) := by decide +kernel
theorem dX12_lengths_182 : decode cX12_lengths 182 = .ok (.iload_n 3, 1) := by decide +kernel
theorem dX12_lengths_183 : decode cX12_lengths 183 = .ok (.iadd, 1) := by decide +kernel
theorem dX12_lengths_184 : decode cX12_lengths 184 = .ok (.iload 5, 2) := by decide +kernel
theorem dX12_lengths_186 : decode cX12_lengths 186 = .ok (.iastore, 1) := by decide +kernel
theorem dX12_lengths_187 : decode cX12_lengths 187 = .ok (.aload_n 0, 1) := by decide +kernel
theorem dX12_lengths_188 : decode cX12_lengths 188 = .ok (.getfield 81, 3) := by decide +kernel
theorem dX12_lengths_191 : decode cX12_lengths 191 = .ok (.iload_n 2, 1) := by decide +kernel
theorem dX12_lengths_192 : decode cX12_lengths 192 = .ok (.iload 5, 2) := by decide +kernel
theorem dX12_lengths_194 : decode cX12_lengths 194 = .ok (.aload_n 0, 1) := by decide +kernel
theorem dX12_lengths_195 : decode cX12_lengths 195 = .ok (.getfield 81, 3) := by decide +kernel
theorem dX12_lengths_198 : decode cX12_lengths 198 = .ok (.iload_n 2, 1) := by decide +kernel
theorem dX12_lengths_199 : decode cX12_lengths 199 = .ok (.iaload, 1) := by decide +kernel
theorem dX12_lengths_200 : decode cX12_lengths 200 = .ok (.if_icmp .ge 8, 3) := by decide +kernel
theorem dX12_lengths_203 : decode cX12_lengths 203 = .ok (.iload 5, 2) := by decide +kernel
theorem dX12_lengths_205 : decode cX12_lengths 205 = .ok (.goto 9, 3) := by decide +kernel
theorem dX12_lengths_208 : decode cX12_lengths 208 = .ok (.aload_n 0, 1) := by decide +kernel
theorem dX12_lengths_209 : decode cX12_lengths 209 = .ok (.getfield 81, 3) := by decide +kernel
theorem dX12_lengths_212 : decode cX12_lengths 212 = .ok (.iload_n 2, 1) := by decide +kernel
theorem dX12_lengths_213 : decode cX12_lengths 213 = .ok (.iaload, 1) := by decide +kernel
theorem dX12_lengths_214 : decode cX12_lengths 214 = .ok (.iastore, 1) := by decide +kernel
theorem dX12_lengths_215 : decode cX12_lengths 215 = .ok (.iinc 3 1, 3) := by decide +kernel
theorem dX12_lengths_218 : decode cX12_lengths 218 = .ok (.goto (-208), 3) := by decide +kernel
theorem dX12_lengths_221 : decode cX12_lengths 221 = .ok (.return_, 1) := by decide +kernel
theorem dX12_isRoute_0 : decode cX12_isRoute 0 = .ok (.aload_n 0, 1) := by decide +kernel
theorem dX12_isRoute_1 : decode cX12_isRoute 1 = .ok (.getfield 81, 3) := by decide +kernel
theorem dX12_isRoute_4 : decode cX12_isRoute 4 = .ok (.iload_n 2, 1) := by decide +kernel
theorem dX12_isRoute_5 : decode cX12_isRoute 5 = .ok (.iaload, 1) := by decide +kernel
theorem dX12_isRoute_6 : decode cX12_isRoute 6 = .ok (.aload_n 0, 1) := by decide +kernel
theorem dX12_isRoute_7 : decode cX12_isRoute 7 = .ok (.iload_n 1, 1) := by decide +kernel
theorem dX12_isRoute_8 : decode cX12_isRoute 8 = .ok (.invokevirtual 218, 3) := by decide +kernel
theorem dX12_isRoute_11 : decode cX12_isRoute 11 = .ok (.if_icmp .gt 19, 3) := by decide +kernel
theorem dX12_isRoute_14 : decode cX12_isRoute 14 = .ok (.aload_n 0, 1) := by decide +kernel
theorem dX12_isRoute_15 : decode cX12_isRoute 15 = .ok (.iload_n 2, 1) := by decide +kernel
theorem dX12_isRoute_16 : decode cX12_isRoute 16 = .ok (.invokevirtual 215, 3) := by decide +kernel
theorem dX12_isRoute_19 : decode cX12_isRoute 19 = .ok (.aload_n 0, 1) := by decide +kernel
theorem dX12_isRoute_20 : decode cX12_isRoute 20 = .ok (.getfield 7, 3) := by decide +kernel
theorem dX12_isRoute_23 : decode cX12_isRoute 23 = .ok (.if_icmp .gt 7, 3) := by decide +kernel
theorem dX12_isRoute_26 : decode cX12_isRoute 26 = .ok (.iconst 1, 1) := by decide +kernel
theorem dX12_isRoute_27 : decode cX12_isRoute 27 = .ok (.goto 4, 3) := by decide +kernel
theorem dX12_isRoute_30 : decode cX12_isRoute 30 = .ok (.iconst 0, 1) := by decide +kernel
theorem dX12_isRoute_31 : decode cX12_isRoute 31 = .ok (.ireturn, 1) := by decide +kernel
theorem dX12_part_0 : decode cX12_part 0 = .ok (.aload_n 0, 1) := by decide +kernel
theorem dX12_part_1 : decode cX12_part 1 = .ok (.getfield 84, 3) := by decide +kernel
theorem dX12_part_4 : decode cX12_part 4 = .ok (.iload_n 2, 1) := by decide +kernel
theorem dX12_part_5 : decode cX12_part 5 = .ok (.ldc 192, 2) := by decide +kernel
theorem dX12_part_7 : decode cX12_part 7 = .ok (.iastore, 1) := by decide +kernel
theorem dX12_part_8 : decode cX12_part 8 = .ok (.aload_n 0, 1) := by decide +kernel
theorem dX12_part_9 : decode cX12_part 9 = .ok (.getfield 87, 3) := by decide +kernel
end
section
theorem dX12_part_12 : decode cX12_part 12 = .ok (.iload_n 2, 1) := by decide +kernel
theorem dX12_part_13 : decode cX12_part 13 = .ok (.ldc 192, 2) := by decide +kernel
theorem dX12_part_15 : decode cX12_part 15 = .ok (.iastore, 1) := by decide +kernel
theorem dX12_part_16 : decode cX12_part 16 = .ok (.iload_n 2, 1) := by decide +kernel
theorem dX12_part_17 : decode cX12_part 17 = .ok (.iload_n 2, 1) := by decide +kernel
theorem dX12_part_18 : decode cX12_part 18 = .ok (.ineg, 1) := by decide +kernel
theorem dX12_part_19 : decode cX12_part 19 = .ok (.iand, 1) := by decide +kernel
theorem dX12_part_20 : decode cX12_part 20 = .ok (.istore_n 3, 1) := by decide +kernel
theorem dX12_part_21 : decode cX12_part 21 = .ok (.iload_n 3, 1) := by decide +kernel
theorem dX12_part_22 : decode cX12_part 22 = .ok (.istore 4, 2) := by decide +kernel
theorem dX12_part_24 : decode cX12_part 24 = .ok (.iload 4, 2) := by decide +kernel
theorem dX12_part_26 : decode cX12_part 26 = .ok (.iload_n 2, 1) := by decide +kernel
theorem dX12_part_27 : decode cX12_part 27 = .ok (.if_icmp .gt 149, 3) := by decide +kernel
theorem dX12_part_30 : decode cX12_part 30 = .ok (.iload 4, 2) := by decide +kernel
theorem dX12_part_32 : decode cX12_part 32 = .ok (.iload_n 2, 1) := by decide +kernel
theorem dX12_part_33 : decode cX12_part 33 = .ok (.iconst (-1), 1) := by decide +kernel
theorem dX12_part_34 : decode cX12_part 34 = .ok (.ixor, 1) := by decide +kernel
theorem dX12_part_35 : decode cX12_part 35 = .ok (.iand, 1) := by decide +kernel
theorem dX12_part_36 : decode cX12_part 36 = .ok (.ifCond .ne 134, 3) := by decide +kernel
theorem dX12_part_39 : decode cX12_part 39 = .ok (.iload 4, 2) := by decide +kernel
theorem dX12_part_41 : decode cX12_part 41 = .ok (.iload_n 3, 1) := by decide +kernel
theorem dX12_part_42 : decode cX12_part 42 = .ok (.iand, 1) := by decide +kernel
theorem dX12_part_43 : decode cX12_part 43 = .ok (.ifCond .eq 127, 3) := by decide +kernel
theorem dX12_part_46 : decode cX12_part 46 = .ok (.aload_n 0, 1) := by decide +kernel
theorem dX12_part_47 : decode cX12_part 47 = .ok (.iload_n 1, 1) := by decide +kernel
theorem dX12_part_48 : decode cX12_part 48 = .ok (.iload 4, 2) := by decide +kernel
theorem dX12_part_50 : decode cX12_part 50 = .ok (.invokevirtual 227, 3) := by decide +kernel
theorem dX12_part_53 : decode cX12_part 53 = .ok (.ifCond .ne 6, 3) := by decide +kernel
theorem dX12_part_56 : decode cX12_part 56 = .ok (.goto 114, 3) := by decide +kernel
theorem dX12_part_59 : decode cX12_part 59 = .ok (.iload_n 2, 1) := by decide +kernel
theorem dX12_part_60 : decode cX12_part 60 = .ok (.iload 4, 2) := by decide +kernel
theorem dX12_part_62 : decode cX12_part 62 = .ok (.iconst (-1), 1) := by decide +kernel
theorem dX12_part_63 : decode cX12_part 63 = .ok (.ixor, 1) := by decide +kernel
theorem dX12_part_64 : decode cX12_part 64 = .ok (.iand, 1) := by decide +kernel
theorem dX12_part_65 : decode cX12_part 65 = .ok (.istore 5, 2) := by decide +kernel
theorem dX12_part_67 : decode cX12_part 67 = .ok (.aload_n 0, 1) := by decide +kernel
theorem dX12_part_68 : decode cX12_part 68 = .ok (.getfield 84, 3) := by decide +kernel
theorem dX12_part_71 : decode cX12_part 71 = .ok (.iload 5, 2) := by decide +kernel
theorem dX12_part_73 : decode cX12_part 73 = .ok (.iaload, 1) := by decide +kernel
theorem dX12_part_74 : decode cX12_part 74 = .ok (.ldc 192, 2) := by decide +kernel
theorem dX12_part_76 : decode cX12_part 76 = .ok (.if_icmp .lt 6, 3) := by decide +kernel
theorem dX12_part_79 : decode cX12_part 79 = .ok (.goto 91, 3) := by decide +kernel
theorem dX12_part_82 : decode cX12_part 82 = .ok (.aload_n 0, 1) := by decide +kernel
theorem dX12_part_83 : decode cX12_part 83 = .ok (.getfield 84, 3) := by decide +kernel
theorem dX12_part_86 : decode cX12_part 86 = .ok (.iload 5, 2) := by decide +kernel
theorem dX12_part_88 : decode cX12_part 88 = .ok (.iaload, 1) := by decide +kernel
theorem dX12_part_89 : decode cX12_part 89 = .ok (.iconst 1, 1) := by decide +kernel
theorem dX12_part_90 : decode cX12_part 90 = .ok (.iadd, 1) := by decide +kernel
theorem dX12_part_91 : decode cX12_part 91 = .ok (.istore 6, 2) := by decide +kernel
theorem dX12_part_93 : decode cX12_part 93 = .ok (.aload_n 0, 1) := by decide +kernel
theorem dX12_part_94 : decode cX12_part 94 = .ok (.getfield 87, 3) := by decide +kernel
theorem dX12_part_97 : decode cX12_part 97 = .ok (.iload 5, 2) := by decide +kernel
theorem dX12_part_99 : decode cX12_part 99 = .ok (.iaload, 1) := by decide +kernel
theorem dX12_part_100 : decode cX12_part 100 = .ok (.aload_n 0, 1) := by decide +kernel
theorem dX12_part_101 : decode cX12_part 101 = .ok (.getfield 81, 3) := by decide +kernel
theorem dX12_part_104 : decode cX12_part 104 = .ok (.iload 4, 2) := by decide +kernel
theorem dX12_part_106 : decode cX12_part 106 = .ok (.iaload, 1) := by decide +kernel
theorem dX12_part_107 : decode cX12_part 107 = .ok (.iadd, 1) := by decide +kernel
theorem dX12_part_108 : decode cX12_part 108 = .ok (.istore 7, 2) := by decide +kernel
theorem dX12_part_110 : decode cX12_part 110 = .ok (.iload 6, 2) := by decide +kernel
theorem dX12_part_112 : decode cX12_part 112 = .ok (.aload_n 0, 1) := by decide +kernel
theorem dX12_part_113 : decode cX12_part 113 = .ok (.getfield 84, 3) := by decide +kernel
theorem dX12_part_116 : decode cX12_part 116 = .ok (.iload_n 2, 1) := by decide +kernel
theorem dX12_part_117 : decode cX12_part 117 = .ok (.iaload, 1) := by decide +kernel
theorem dX12_part_118 : decode cX12_part 118 = .ok (.if_icmp .gt 52, 3) := by decide +kernel
theorem dX12_part_121 : decode cX12_part 121 = .ok (.iload 6, 2) := by decide +kernel
theorem dX12_part_123 : decode cX12_part 123 = .ok (.aload_n 0, 1) := by decide +kernel
theorem dX12_part_124 : decode cX12_part 124 = .ok (.getfield 84, 3) := by decide +kernel
theorem dX12_part_127 : decode cX12_part 127 = .ok (.iload_n 2, 1) := by decide +kernel
theorem dX12_part_128 : decode cX12_part 128 = .ok (.iaload, 1) := by decide +kernel
theorem dX12_part_129 : decode cX12_part 129 = .ok (.if_icmp .ne 17, 3) := by decide +kernel
theorem dX12_part_132 : decode cX12_part 132 = .ok (.iload 7, 2) := by decide +kernel
theorem dX12_part_134 : decode cX12_part 134 = .ok (.aload_n 0, 1) := by decide +kernel
theorem dX12_part_135 : decode cX12_part 135 = .ok (.getfield 87, 3) := by decide +kernel
theorem dX12_part_138 : decode cX12_part 138 = .ok (.iload_n 2, 1) := by decide +kernel
theorem dX12_part_139 : decode cX12_part 139 = .ok (.iaload, 1) := by decide +kernel
theorem dX12_part_140 : decode cX12_part 140 = .ok (.if_icmp .lt 6, 3) := by decide +kernel
theorem dX12_part_143 : decode cX12_part 143 = .ok (.goto 27, 3) := by decide +kernel
theorem dX12_part_146 : decode cX12_part 146 = .ok (.aload_n 0, 1) := by decide +kernel
theorem dX12_part_147 : decode cX12_part 147 = .ok (.getfield 84, 3) := by decide +kernel
theorem dX12_part_150 : decode cX12_part 150 = .ok (.iload_n 2, 1) := by decide +kernel
theorem dX12_part_151 : decode cX12_part 151 = .ok (.iload 6, 2) := by decide +kernel
theorem dX12_part_153 : decode cX12_part 153 = .ok (.iastore, 1) := by decide +kernel
theorem dX12_part_154 : decode cX12_part 154 = .ok (.aload_n 0, 1) := by decide +kernel
theorem dX12_part_155 : decode cX12_part 155 = .ok (.getfield 87, 3) := by decide +kernel
theorem dX12_part_158 : decode cX12_part 158 = .ok (.iload_n 2, 1) := by decide +kernel
theorem dX12_part_159 : decode cX12_part 159 = .ok (.iload 7, 2) := by decide +kernel
theorem dX12_part_161 : decode cX12_part 161 = .ok (.iastore, 1) := by decide +kernel
theorem dX12_part_162 : decode cX12_part 162 = .ok (.aload_n 0, 1) := by decide +kernel
theorem dX12_part_163 : decode cX12_part 163 = .ok (.getfield 90, 3) := by decide +kernel
theorem dX12_part_166 : decode cX12_part 166 = .ok (.iload_n 2, 1) := by decide +kernel
theorem dX12_part_167 : decode cX12_part 167 = .ok (.iload 4, 2) := by decide +kernel
theorem dX12_part_169 : decode cX12_part 169 = .ok (.iastore, 1) := by decide +kernel
theorem dX12_part_170 : decode cX12_part 170 = .ok (.iinc 4 1, 3) := by decide +kernel
theorem dX12_part_173 : decode cX12_part 173 = .ok (.goto (-149), 3) := by decide +kernel
theorem dX12_part_176 : decode cX12_part 176 = .ok (.return_, 1) := by decide +kernel
theorem dX12_plan_0 : decode cX12_plan 0 = .ok (.aload_n 0, 1) := by decide +kernel
theorem dX12_plan_1 : decode cX12_plan 1 = .ok (.iconst 0, 1) := by decide +kernel
theorem dX12_plan_2 : decode cX12_plan 2 = .ok (.invokevirtual 193, 3) := by decide +kernel
theorem dX12_plan_5 : decode cX12_plan 5 = .ok (.aload_n 0, 1) := by decide +kernel
theorem dX12_plan_6 : decode cX12_plan 6 = .ok (.getfield 169, 3) := by decide +kernel
theorem dX12_plan_9 : decode cX12_plan 9 = .ok (.ifCond .eq 4, 3) := by decide +kernel
theorem dX12_plan_12 : decode cX12_plan 12 = .ok (.return_, 1) := by decide +kernel
theorem dX12_plan_13 : decode cX12_plan 13 = .ok (.aload_n 0, 1) := by decide +kernel
theorem dX12_plan_14 : decode cX12_plan 14 = .ok (.iconst 1, 1) := by decide +kernel
theorem dX12_plan_15 : decode cX12_plan 15 = .ok (.putfield 169, 3) := by decide +kernel
theorem dX12_plan_18 : decode cX12_plan 18 = .ok (.aload_n 0, 1) := by decide +kernel
theorem dX12_plan_19 : decode cX12_plan 19 = .ok (.iconst 0, 1) := by decide +kernel
theorem dX12_plan_20 : decode cX12_plan 20 = .ok (.putfield 230, 3) := by decide +kernel
theorem dX12_plan_23 : decode cX12_plan 23 = .ok (.aload_n 0, 1) := by decide +kernel
theorem dX12_plan_24 : decode cX12_plan 24 = .ok (.iconst 1, 1) := by decide +kernel
theorem dX12_plan_25 : decode cX12_plan 25 = .ok (.putfield 233, 3) := by decide +kernel
theorem dX12_plan_28 : decode cX12_plan 28 = .ok (.aload_n 0, 1) := by decide +kernel
theorem dX12_plan_29 : decode cX12_plan 29 = .ok (.getfield 84, 3) := by decide +kernel
theorem dX12_plan_32 : decode cX12_plan 32 = .ok (.iconst 0, 1) := by decide +kernel
theorem dX12_plan_33 : decode cX12_plan 33 = .ok (.iconst 0, 1) := by decide +kernel
theorem dX12_plan_34 : decode cX12_plan 34 = .ok (.iastore, 1) := by decide +kernel
theorem dX12_plan_35 : decode cX12_plan 35 = .ok (.aload_n 0, 1) := by decide +kernel
theorem dX12_plan_36 : decode cX12_plan 36 = .ok (.getfield 87, 3) := by decide +kernel
theorem dX12_plan_39 : decode cX12_plan 39 = .ok (.iconst 0, 1) := by decide +kernel
theorem dX12_plan_40 : decode cX12_plan 40 = .ok (.iconst 0, 1) := by decide +kernel
theorem dX12_plan_41 : decode cX12_plan 41 = .ok (.iastore, 1) := by decide +kernel
theorem dX12_plan_42 : decode cX12_plan 42 = .ok (.iconst 0, 1) := by decide +kernel
theorem dX12_plan_43 : decode cX12_plan 43 = .ok (.istore_n 1, 1) := by decide +kernel
theorem dX12_plan_44 : decode cX12_plan 44 = .ok (.iload_n 1, 1) := by decide +kernel
theorem dX12_plan_45 : decode cX12_plan 45 = .ok (.aload_n 0, 1) := by decide +kernel
theorem dX12_plan_46 : decode cX12_plan 46 = .ok (.getfield 163, 3) := by decide +kernel
theorem dX12_plan_49 : decode cX12_plan 49 = .ok (.if_icmp .ge 197, 3) := by decide +kernel
theorem dX12_plan_52 : decode cX12_plan 52 = .ok (.aload_n 0, 1) := by decide +kernel
theorem dX12_plan_53 : decode cX12_plan 53 = .ok (.iload_n 1, 1) := by decide +kernel
theorem dX12_plan_54 : decode cX12_plan 54 = .ok (.invokevirtual 209, 3) := by decide +kernel
theorem dX12_plan_57 : decode cX12_plan 57 = .ok (.istore_n 2, 1) := by decide +kernel
theorem dX12_plan_58 : decode cX12_plan 58 = .ok (.iconst 1, 1) := by decide +kernel
theorem dX12_plan_59 : decode cX12_plan 59 = .ok (.istore_n 3, 1) := by decide +kernel
theorem dX12_plan_60 : decode cX12_plan 60 = .ok (.iload_n 3, 1) := by decide +kernel
theorem dX12_plan_61 : decode cX12_plan 61 = .ok (.iload_n 2, 1) := by decide +kernel
theorem dX12_plan_62 : decode cX12_plan 62 = .ok (.if_icmp .gt 32, 3) := by decide +kernel
theorem dX12_plan_65 : decode cX12_plan 65 = .ok (.iload_n 3, 1) := by decide +kernel
theorem dX12_plan_66 : decode cX12_plan 66 = .ok (.iload_n 2, 1) := by decide +kernel
theorem dX12_plan_67 : decode cX12_plan 67 = .ok (.iconst (-1), 1) := by decide +kernel
theorem dX12_plan_68 : decode cX12_plan 68 = .ok (.ixor, 1) := by decide +kernel
theorem dX12_plan_69 : decode cX12_plan 69 = .ok (.iand, 1) := by decide +kernel
theorem dX12_plan_70 : decode cX12_plan 70 = .ok (.ifCond .eq 6, 3) := by decide +kernel
theorem dX12_plan_73 : decode cX12_plan 73 = .ok (.goto 15, 3) := by decide +kernel
theorem dX12_plan_76 : decode cX12_plan 76 = .ok (.aload_n 0, 1) := by decide +kernel
theorem dX12_plan_77 : decode cX12_plan 77 = .ok (.iload_n 1, 1) := by decide +kernel
theorem dX12_plan_78 : decode cX12_plan 78 = .ok (.iload_n 3, 1) := by decide +kernel
theorem dX12_plan_79 : decode cX12_plan 79 = .ok (.invokevirtual 236, 3) := by decide +kernel
theorem dX12_plan_82 : decode cX12_plan 82 = .ok (.aload_n 0, 1) := by decide +kernel
theorem dX12_plan_83 : decode cX12_plan 83 = .ok (.iload_n 1, 1) := by decide +kernel
theorem dX12_plan_84 : decode cX12_plan 84 = .ok (.iload_n 3, 1) := by decide +kernel
theorem dX12_plan_85 : decode cX12_plan 85 = .ok (.invokevirtual 240, 3) := by decide +kernel
theorem dX12_plan_88 : decode cX12_plan 88 = .ok (.iinc 3 1, 3) := by decide +kernel
theorem dX12_plan_91 : decode cX12_plan 91 = .ok (.goto (-31), 3) := by decide +kernel
theorem dX12_plan_94 : decode cX12_plan 94 = .ok (.aload_n 0, 1) := by decide +kernel
theorem dX12_plan_95 : decode cX12_plan 95 = .ok (.getfield 102, 3) := by decide +kernel
theorem dX12_plan_98 : decode cX12_plan 98 = .ok (.iload_n 1, 1) := by decide +kernel
theorem dX12_plan_99 : decode cX12_plan 99 = .ok (.aload_n 0, 1) := by decide +kernel
theorem dX12_plan_100 : decode cX12_plan 100 = .ok (.getfield 230, 3) := by decide +kernel
theorem dX12_plan_103 : decode cX12_plan 103 = .ok (.iastore, 1) := by decide +kernel
theorem dX12_plan_104 : decode cX12_plan 104 = .ok (.aload_n 0, 1) := by decide +kernel
theorem dX12_plan_105 : decode cX12_plan 105 = .ok (.getfield 105, 3) := by decide +kernel
theorem dX12_plan_108 : decode cX12_plan 108 = .ok (.iload_n 1, 1) := by decide +kernel
theorem dX12_plan_109 : decode cX12_plan 109 = .ok (.aload_n 0, 1) := by decide +kernel
theorem dX12_plan_110 : decode cX12_plan 110 = .ok (.getfield 84, 3) := by decide +kernel
theorem dX12_plan_113 : decode cX12_plan 113 = .ok (.iload_n 2, 1) := by decide +kernel
theorem dX12_plan_114 : decode cX12_plan 114 = .ok (.iaload, 1) := by decide +kernel
theorem dX12_plan_115 : decode cX12_plan 115 = .ok (.ldc 192, 2) := by decide +kernel
theorem dX12_plan_117 : decode cX12_plan 117 = .ok (.if_icmp .lt 7, 3) := by decide +kernel
theorem dX12_plan_120 : decode cX12_plan 120 = .ok (.iconst (-1), 1) := by decide +kernel
theorem dX12_plan_121 : decode cX12_plan 121 = .ok (.goto 9, 3) := by decide +kernel
theorem dX12_plan_124 : decode cX12_plan 124 = .ok (.aload_n 0, 1) := by decide +kernel
theorem dX12_plan_125 : decode cX12_plan 125 = .ok (.getfield 84, 3) := by decide +kernel
theorem dX12_plan_128 : decode cX12_plan 128 = .ok (.iload_n 2, 1) := by decide +kernel
theorem dX12_plan_129 : decode cX12_plan 129 = .ok (.iaload, 1) := by decide +kernel
theorem dX12_plan_130 : decode cX12_plan 130 = .ok (.iastore, 1) := by decide +kernel
theorem dX12_plan_131 : decode cX12_plan 131 = .ok (.aload_n 0, 1) := by decide +kernel
theorem dX12_plan_132 : decode cX12_plan 132 = .ok (.aload_n 0, 1) := by decide +kernel
theorem dX12_plan_133 : decode cX12_plan 133 = .ok (.getfield 233, 3) := by decide +kernel
theorem dX12_plan_136 : decode cX12_plan 136 = .ok (.ifCond .eq 16, 3) := by decide +kernel
theorem dX12_plan_139 : decode cX12_plan 139 = .ok (.aload_n 0, 1) := by decide +kernel
theorem dX12_plan_140 : decode cX12_plan 140 = .ok (.getfield 105, 3) := by decide +kernel
theorem dX12_plan_143 : decode cX12_plan 143 = .ok (.iload_n 1, 1) := by decide +kernel
theorem dX12_plan_144 : decode cX12_plan 144 = .ok (.iaload, 1) := by decide +kernel
theorem dX12_plan_145 : decode cX12_plan 145 = .ok (.ifCond .lt 7, 3) := by decide +kernel
theorem dX12_plan_148 : decode cX12_plan 148 = .ok (.iconst 1, 1) := by decide +kernel
theorem dX12_plan_149 : decode cX12_plan 149 = .ok (.goto 4, 3) := by decide +kernel
theorem dX12_plan_152 : decode cX12_plan 152 = .ok (.iconst 0, 1) := by decide +kernel
theorem dX12_plan_153 : decode cX12_plan 153 = .ok (.putfield 233, 3) := by decide +kernel
theorem dX12_plan_156 : decode cX12_plan 156 = .ok (.iload_n 2, 1) := by decide +kernel
theorem dX12_plan_157 : decode cX12_plan 157 = .ok (.istore_n 3, 1) := by decide +kernel
theorem dX12_plan_158 : decode cX12_plan 158 = .ok (.iload_n 3, 1) := by decide +kernel
theorem dX12_plan_159 : decode cX12_plan 159 = .ok (.ifCond .eq 81, 3) := by decide +kernel
theorem dX12_plan_162 : decode cX12_plan 162 = .ok (.aload_n 0, 1) := by decide +kernel
theorem dX12_plan_163 : decode cX12_plan 163 = .ok (.getfield 105, 3) := by decide +kernel
theorem dX12_plan_166 : decode cX12_plan 166 = .ok (.iload_n 1, 1) := by decide +kernel
theorem dX12_plan_167 : decode cX12_plan 167 = .ok (.iaload, 1) := by decide +kernel
theorem dX12_plan_168 : decode cX12_plan 168 = .ok (.ifCond .lt 72, 3) := by decide +kernel
theorem dX12_plan_171 : decode cX12_plan 171 = .ok (.aload_n 0, 1) := by decide +kernel
theorem dX12_plan_172 : decode cX12_plan 172 = .ok (.getfield 93, 3) := by decide +kernel
theorem dX12_plan_175 : decode cX12_plan 175 = .ok (.aload_n 0, 1) := by decide +kernel
theorem dX12_plan_176 : decode cX12_plan 176 = .ok (.getfield 230, 3) := by decide +kernel
theorem dX12_plan_179 : decode cX12_plan 179 = .ok (.aload_n 0, 1) := by decide +kernel
theorem dX12_plan_180 : decode cX12_plan 180 = .ok (.getfield 90, 3) := by decide +kernel
theorem dX12_plan_183 : decode cX12_plan 183 = .ok (.iload_n 3, 1) := by decide +kernel
theorem dX12_plan_184 : decode cX12_plan 184 = .ok (.iaload, 1) := by decide +kernel
theorem dX12_plan_185 : decode cX12_plan 185 = .ok (.iastore, 1) := by decide +kernel
theorem dX12_plan_186 : decode cX12_plan 186 = .ok (.aload_n 0, 1) := by decide +kernel
theorem dX12_plan_187 : decode cX12_plan 187 = .ok (.getfield 96, 3) := by decide +kernel
theorem dX12_plan_190 : decode cX12_plan 190 = .ok (.aload_n 0, 1) := by decide +kernel
theorem dX12_plan_191 : decode cX12_plan 191 = .ok (.getfield 230, 3) := by decide +kernel
theorem dX12_plan_194 : decode cX12_plan 194 = .ok (.iload_n 1, 1) := by decide +kernel
theorem dX12_plan_195 : decode cX12_plan 195 = .ok (.iastore, 1) := by decide +kernel
theorem dX12_plan_196 : decode cX12_plan 196 = .ok (.aload_n 0, 1) := by decide +kernel
theorem dX12_plan_197 : decode cX12_plan 197 = .ok (.getfield 99, 3) := by decide +kernel
theorem dX12_plan_200 : decode cX12_plan 200 = .ok (.aload_n 0, 1) := by decide +kernel
theorem dX12_plan_201 : decode cX12_plan 201 = .ok (.getfield 230, 3) := by decide +kernel
theorem dX12_plan_204 : decode cX12_plan 204 = .ok (.aload_n 0, 1) := by decide +kernel
theorem dX12_plan_205 : decode cX12_plan 205 = .ok (.getfield 81, 3) := by decide +kernel
theorem dX12_plan_208 : decode cX12_plan 208 = .ok (.aload_n 0, 1) := by decide +kernel
theorem dX12_plan_209 : decode cX12_plan 209 = .ok (.getfield 90, 3) := by decide +kernel
theorem dX12_plan_212 : decode cX12_plan 212 = .ok (.iload_n 3, 1) := by decide +kernel
theorem dX12_plan_213 : decode cX12_plan 213 = .ok (.iaload, 1) := by decide +kernel
theorem dX12_plan_214 : decode cX12_plan 214 = .ok (.iaload, 1) := by decide +kernel
theorem dX12_plan_215 : decode cX12_plan 215 = .ok (.iastore, 1) := by decide +kernel
theorem dX12_plan_216 : decode cX12_plan 216 = .ok (.aload_n 0, 1) := by decide +kernel
theorem dX12_plan_217 : decode cX12_plan 217 = .ok (.dup, 1) := by decide +kernel
theorem dX12_plan_218 : decode cX12_plan 218 = .ok (.getfield 230, 3) := by decide +kernel
theorem dX12_plan_221 : decode cX12_plan 221 = .ok (.iconst 1, 1) := by decide +kernel
theorem dX12_plan_222 : decode cX12_plan 222 = .ok (.iadd, 1) := by decide +kernel
theorem dX12_plan_223 : decode cX12_plan 223 = .ok (.putfield 230, 3) := by decide +kernel
theorem dX12_plan_226 : decode cX12_plan 226 = .ok (.iload_n 3, 1) := by decide +kernel
theorem dX12_plan_227 : decode cX12_plan 227 = .ok (.aload_n 0, 1) := by decide +kernel
theorem dX12_plan_228 : decode cX12_plan 228 = .ok (.getfield 90, 3) := by decide +kernel
theorem dX12_plan_231 : decode cX12_plan 231 = .ok (.iload_n 3, 1) := by decide +kernel
theorem dX12_plan_232 : decode cX12_plan 232 = .ok (.iaload, 1) := by decide +kernel
theorem dX12_plan_233 : decode cX12_plan 233 = .ok (.iconst (-1), 1) := by decide +kernel
theorem dX12_plan_234 : decode cX12_plan 234 = .ok (.ixor, 1) := by decide +kernel
theorem dX12_plan_235 : decode cX12_plan 235 = .ok (.iand, 1) := by decide +kernel
theorem dX12_plan_236 : decode cX12_plan 236 = .ok (.istore_n 3, 1) := by decide +kernel
theorem dX12_plan_237 : decode cX12_plan 237 = .ok (.goto (-79), 3) := by decide +kernel
theorem dX12_plan_240 : decode cX12_plan 240 = .ok (.iinc 1 1, 3) := by decide +kernel
theorem dX12_plan_243 : decode cX12_plan 243 = .ok (.goto (-199), 3) := by decide +kernel
theorem dX12_plan_246 : decode cX12_plan 246 = .ok (.return_, 1) := by decide +kernel
theorem dX12_nextStop_0 : decode cX12_nextStop 0 = .ok (.iconst (-1), 1) := by decide +kernel
theorem dX12_nextStop_1 : decode cX12_nextStop 1 = .ok (.istore_n 3, 1) := by decide +kernel
theorem dX12_nextStop_2 : decode cX12_nextStop 2 = .ok (.ldc 192, 2) := by decide +kernel
theorem dX12_nextStop_4 : decode cX12_nextStop 4 = .ok (.istore 4, 2) := by decide +kernel
theorem dX12_nextStop_6 : decode cX12_nextStop 6 = .ok (.iconst 0, 1) := by decide +kernel
theorem dX12_nextStop_7 : decode cX12_nextStop 7 = .ok (.istore 5, 2) := by decide +kernel
theorem dX12_nextStop_9 : decode cX12_nextStop 9 = .ok (.iload 5, 2) := by decide +kernel
theorem dX12_nextStop_11 : decode cX12_nextStop 11 = .ok (.aload_n 0, 1) := by decide +kernel
theorem dX12_nextStop_12 : decode cX12_nextStop 12 = .ok (.getfield 166, 3) := by decide +kernel
theorem dX12_nextStop_15 : decode cX12_nextStop 15 = .ok (.if_icmp .ge 87, 3) := by decide +kernel
theorem dX12_nextStop_18 : decode cX12_nextStop 18 = .ok (.iload_n 1, 1) := by decide +kernel
theorem dX12_nextStop_19 : decode cX12_nextStop 19 = .ok (.iload 5, 2) := by decide +kernel
theorem dX12_nextStop_21 : decode cX12_nextStop 21 = .ok (.invokestatic 206, 3) := by decide +kernel
theorem dX12_nextStop_24 : decode cX12_nextStop 24 = .ok (.ifCond .ne 6, 3) := by decide +kernel
theorem dX12_nextStop_27 : decode cX12_nextStop 27 = .ok (.goto 69, 3) := by decide +kernel
theorem dX12_nextStop_30 : decode cX12_nextStop 30 = .ok (.iload_n 2, 1) := by decide +kernel
theorem dX12_nextStop_31 : decode cX12_nextStop 31 = .ok (.ifCond .ge 7, 3) := by decide +kernel
theorem dX12_nextStop_34 : decode cX12_nextStop 34 = .ok (.iconst 0, 1) := by decide +kernel
theorem dX12_nextStop_35 : decode cX12_nextStop 35 = .ok (.goto 25, 3) := by decide +kernel
theorem dX12_nextStop_38 : decode cX12_nextStop 38 = .ok (.aload_n 0, 1) := by decide +kernel
theorem dX12_nextStop_39 : decode cX12_nextStop 39 = .ok (.getfield 75, 3) := by decide +kernel
theorem dX12_nextStop_42 : decode cX12_nextStop 42 = .ok (.bipush 8, 2) := by decide +kernel
theorem dX12_nextStop_44 : decode cX12_nextStop 44 = .ok (.aload_n 0, 1) := by decide +kernel
theorem dX12_nextStop_45 : decode cX12_nextStop 45 = .ok (.getfield 45, 3) := by decide +kernel
theorem dX12_nextStop_48 : decode cX12_nextStop 48 = .ok (.iload_n 2, 1) := by decide +kernel
theorem dX12_nextStop_49 : decode cX12_nextStop 49 = .ok (.iaload, 1) := by decide +kernel
theorem dX12_nextStop_50 : decode cX12_nextStop 50 = .ok (.imul, 1) := by decide +kernel
theorem dX12_nextStop_51 : decode cX12_nextStop 51 = .ok (.aload_n 0, 1) := by decide +kernel
theorem dX12_nextStop_52 : decode cX12_nextStop 52 = .ok (.getfield 45, 3) := by decide +kernel
theorem dX12_nextStop_55 : decode cX12_nextStop 55 = .ok (.iload 5, 2) := by decide +kernel
theorem dX12_nextStop_57 : decode cX12_nextStop 57 = .ok (.iaload, 1) := by decide +kernel
theorem dX12_nextStop_58 : decode cX12_nextStop 58 = .ok (.iadd, 1) := by decide +kernel
theorem dX12_nextStop_59 : decode cX12_nextStop 59 = .ok (.iaload, 1) := by decide +kernel
theorem dX12_nextStop_60 : decode cX12_nextStop 60 = .ok (.aload_n 0, 1) := by decide +kernel
theorem dX12_nextStop_61 : decode cX12_nextStop 61 = .ok (.getfield 78, 3) := by decide +kernel
theorem dX12_nextStop_64 : decode cX12_nextStop 64 = .ok (.bipush 10, 2) := by decide +kernel
theorem dX12_nextStop_66 : decode cX12_nextStop 66 = .ok (.iload_n 1, 1) := by decide +kernel
theorem dX12_nextStop_67 : decode cX12_nextStop 67 = .ok (.imul, 1) := by decide +kernel
theorem dX12_nextStop_68 : decode cX12_nextStop 68 = .ok (.iload 5, 2) := by decide +kernel
theorem dX12_nextStop_70 : decode cX12_nextStop 70 = .ok (.iadd, 1) := by decide +kernel
theorem dX12_nextStop_71 : decode cX12_nextStop 71 = .ok (.iaload, 1) := by decide +kernel
theorem dX12_nextStop_72 : decode cX12_nextStop 72 = .ok (.iadd, 1) := by decide +kernel
theorem dX12_nextStop_73 : decode cX12_nextStop 73 = .ok (.istore 6, 2) := by decide +kernel
theorem dX12_nextStop_75 : decode cX12_nextStop 75 = .ok (.iload_n 3, 1) := by decide +kernel
theorem dX12_nextStop_76 : decode cX12_nextStop 76 = .ok (.ifCond .lt 13, 3) := by decide +kernel
theorem dX12_nextStop_79 : decode cX12_nextStop 79 = .ok (.iload 6, 2) := by decide +kernel
theorem dX12_nextStop_81 : decode cX12_nextStop 81 = .ok (.iload 4, 2) := by decide +kernel
theorem dX12_nextStop_83 : decode cX12_nextStop 83 = .ok (.if_icmp .lt 6, 3) := by decide +kernel
theorem dX12_nextStop_86 : decode cX12_nextStop 86 = .ok (.goto 10, 3) := by decide +kernel
theorem dX12_nextStop_89 : decode cX12_nextStop 89 = .ok (.iload 5, 2) := by decide +kernel
theorem dX12_nextStop_91 : decode cX12_nextStop 91 = .ok (.istore_n 3, 1) := by decide +kernel
theorem dX12_nextStop_92 : decode cX12_nextStop 92 = .ok (.iload 6, 2) := by decide +kernel
theorem dX12_nextStop_94 : decode cX12_nextStop 94 = .ok (.istore 4, 2) := by decide +kernel
theorem dX12_nextStop_96 : decode cX12_nextStop 96 = .ok (.iinc 5 1, 3) := by decide +kernel
theorem dX12_nextStop_99 : decode cX12_nextStop 99 = .ok (.goto (-90), 3) := by decide +kernel
theorem dX12_nextStop_102 : decode cX12_nextStop 102 = .ok (.iload_n 3, 1) := by decide +kernel
theorem dX12_nextStop_103 : decode cX12_nextStop 103 = .ok (.ireturn, 1) := by decide +kernel
theorem dX12_routes_0 : decode cX12_routes 0 = .ok (.aload_n 0, 1) := by decide +kernel
theorem dX12_routes_1 : decode cX12_routes 1 = .ok (.iload_n 1, 1) := by decide +kernel
theorem dX12_routes_2 : decode cX12_routes 2 = .ok (.invokevirtual 198, 3) := by decide +kernel
theorem dX12_routes_5 : decode cX12_routes 5 = .ok (.ifCond .ne 10, 3) := by decide +kernel
theorem dX12_routes_8 : decode cX12_routes 8 = .ok (.aload_n 0, 1) := by decide +kernel
theorem dX12_routes_9 : decode cX12_routes 9 = .ok (.ldc 185, 2) := by decide +kernel
theorem dX12_routes_11 : decode cX12_routes 11 = .ok (.invokevirtual 177, 3) := by decide +kernel
theorem dX12_routes_14 : decode cX12_routes 14 = .ok (.ireturn, 1) := by decide +kernel
theorem dX12_routes_15 : decode cX12_routes 15 = .ok (.aload_n 0, 1) := by decide +kernel
theorem dX12_routes_16 : decode cX12_routes 16 = .ok (.invokevirtual 243, 3) := by decide +kernel
theorem dX12_routes_19 : decode cX12_routes 19 = .ok (.aload_n 0, 1) := by decide +kernel
theorem dX12_routes_20 : decode cX12_routes 20 = .ok (.getfield 105, 3) := by decide +kernel
theorem dX12_routes_23 : decode cX12_routes 23 = .ok (.iload_n 1, 1) := by decide +kernel
theorem dX12_routes_24 : decode cX12_routes 24 = .ok (.iaload, 1) := by decide +kernel
theorem dX12_routes_25 : decode cX12_routes 25 = .ok (.ifCond .ge 12, 3) := by decide +kernel
theorem dX12_routes_28 : decode cX12_routes 28 = .ok (.aload_n 0, 1) := by decide +kernel
theorem dX12_routes_29 : decode cX12_routes 29 = .ok (.ldc 197, 2) := by decide +kernel
theorem dX12_routes_31 : decode cX12_routes 31 = .ok (.invokevirtual 177, 3) := by decide +kernel
theorem dX12_routes_34 : decode cX12_routes 34 = .ok (.goto 9, 3) := by decide +kernel
theorem dX12_routes_37 : decode cX12_routes 37 = .ok (.aload_n 0, 1) := by decide +kernel
theorem dX12_routes_38 : decode cX12_routes 38 = .ok (.getfield 105, 3) := by decide +kernel
theorem dX12_routes_41 : decode cX12_routes 41 = .ok (.iload_n 1, 1) := by decide +kernel
theorem dX12_routes_42 : decode cX12_routes 42 = .ok (.iaload, 1) := by decide +kernel
theorem dX12_routes_43 : decode cX12_routes 43 = .ok (.ireturn, 1) := by decide +kernel
theorem dX12_stopOf_0 : decode cX12_stopOf 0 = .ok (.aload_n 0, 1) := by decide +kernel
theorem dX12_stopOf_1 : decode cX12_stopOf 1 = .ok (.getfield 93, 3) := by decide +kernel
theorem dX12_stopOf_4 : decode cX12_stopOf 4 = .ok (.iload_n 1, 1) := by decide +kernel
theorem dX12_stopOf_5 : decode cX12_stopOf 5 = .ok (.iaload, 1) := by decide +kernel
theorem dX12_stopOf_6 : decode cX12_stopOf 6 = .ok (.istore_n 3, 1) := by decide +kernel
theorem dX12_stopOf_7 : decode cX12_stopOf 7 = .ok (.aload_n 0, 1) := by decide +kernel
theorem dX12_stopOf_8 : decode cX12_stopOf 8 = .ok (.iload_n 3, 1) := by decide +kernel
theorem dX12_stopOf_9 : decode cX12_stopOf 9 = .ok (.iconst (-1), 1) := by decide +kernel
theorem dX12_stopOf_10 : decode cX12_stopOf 10 = .ok (.invokevirtual 246, 3) := by decide +kernel
theorem dX12_stopOf_13 : decode cX12_stopOf 13 = .ok (.istore 4, 2) := by decide +kernel
theorem dX12_stopOf_15 : decode cX12_stopOf 15 = .ok (.iconst 0, 1) := by decide +kernel
theorem dX12_stopOf_16 : decode cX12_stopOf 16 = .ok (.istore 5, 2) := by decide +kernel
theorem dX12_stopOf_18 : decode cX12_stopOf 18 = .ok (.iload 5, 2) := by decide +kernel
theorem dX12_stopOf_20 : decode cX12_stopOf 20 = .ok (.iload_n 2, 1) := by decide +kernel
theorem dX12_stopOf_21 : decode cX12_stopOf 21 = .ok (.if_icmp .ge 32, 3) := by decide +kernel
theorem dX12_stopOf_24 : decode cX12_stopOf 24 = .ok (.iload 4, 2) := by decide +kernel
theorem dX12_stopOf_26 : decode cX12_stopOf 26 = .ok (.ifCond .lt 27, 3) := by decide +kernel
theorem dX12_stopOf_29 : decode cX12_stopOf 29 = .ok (.iload_n 3, 1) := by decide +kernel
theorem dX12_stopOf_30 : decode cX12_stopOf 30 = .ok (.iconst 1, 1) := by decide +kernel
theorem dX12_stopOf_31 : decode cX12_stopOf 31 = .ok (.iload 4, 2) := by decide +kernel
theorem dX12_stopOf_33 : decode cX12_stopOf 33 = .ok (.ishl, 1) := by decide +kernel
theorem dX12_stopOf_34 : decode cX12_stopOf 34 = .ok (.iconst (-1), 1) := by decide +kernel
theorem dX12_stopOf_35 : decode cX12_stopOf 35 = .ok (.ixor, 1) := by decide +kernel
theorem dX12_stopOf_36 : decode cX12_stopOf 36 = .ok (.iand, 1) := by decide +kernel
theorem dX12_stopOf_37 : decode cX12_stopOf 37 = .ok (.istore_n 3, 1) := by decide +kernel
theorem dX12_stopOf_38 : decode cX12_stopOf 38 = .ok (.aload_n 0, 1) := by decide +kernel
theorem dX12_stopOf_39 : decode cX12_stopOf 39 = .ok (.iload_n 3, 1) := by decide +kernel
theorem dX12_stopOf_40 : decode cX12_stopOf 40 = .ok (.iload 4, 2) := by decide +kernel
theorem dX12_stopOf_42 : decode cX12_stopOf 42 = .ok (.invokevirtual 246, 3) := by decide +kernel
theorem dX12_stopOf_45 : decode cX12_stopOf 45 = .ok (.istore 4, 2) := by decide +kernel
theorem dX12_stopOf_47 : decode cX12_stopOf 47 = .ok (.iinc 5 1, 3) := by decide +kernel
theorem dX12_stopOf_50 : decode cX12_stopOf 50 = .ok (.goto (-32), 3) := by decide +kernel
theorem dX12_stopOf_53 : decode cX12_stopOf 53 = .ok (.iload 4, 2) := by decide +kernel
theorem dX12_stopOf_55 : decode cX12_stopOf 55 = .ok (.ireturn, 1) := by decide +kernel
theorem dX12_route_0 : decode cX12_route 0 = .ok (.aload_n 0, 1) := by decide +kernel
theorem dX12_route_1 : decode cX12_route 1 = .ok (.iload_n 1, 1) := by decide +kernel
theorem dX12_route_2 : decode cX12_route 2 = .ok (.invokevirtual 198, 3) := by decide +kernel
theorem dX12_route_5 : decode cX12_route 5 = .ok (.ifCond .eq 12, 3) := by decide +kernel
theorem dX12_route_8 : decode cX12_route 8 = .ok (.iload_n 2, 1) := by decide +kernel
theorem dX12_route_9 : decode cX12_route 9 = .ok (.ifCond .lt 8, 3) := by decide +kernel
theorem dX12_route_12 : decode cX12_route 12 = .ok (.iload_n 3, 1) := by decide +kernel
theorem dX12_route_13 : decode cX12_route 13 = .ok (.iconst (-1), 1) := by decide +kernel
theorem dX12_route_14 : decode cX12_route 14 = .ok (.if_icmp .ge 10, 3) := by decide +kernel
theorem dX12_route_17 : decode cX12_route 17 = .ok (.aload_n 0, 1) := by decide +kernel
theorem dX12_route_18 : decode cX12_route 18 = .ok (.ldc 185, 2) := by decide +kernel
theorem dX12_route_20 : decode cX12_route 20 = .ok (.invokevirtual 177, 3) := by decide +kernel
theorem dX12_route_23 : decode cX12_route 23 = .ok (.ireturn, 1) := by decide +kernel
theorem dX12_route_24 : decode cX12_route 24 = .ok (.aload_n 0, 1) := by decide +kernel
theorem dX12_route_25 : decode cX12_route 25 = .ok (.invokevirtual 243, 3) := by decide +kernel
theorem dX12_route_28 : decode cX12_route 28 = .ok (.aload_n 0, 1) := by decide +kernel
theorem dX12_route_29 : decode cX12_route 29 = .ok (.getfield 105, 3) := by decide +kernel
theorem dX12_route_32 : decode cX12_route 32 = .ok (.iload_n 1, 1) := by decide +kernel
theorem dX12_route_33 : decode cX12_route 33 = .ok (.iaload, 1) := by decide +kernel
theorem dX12_route_34 : decode cX12_route 34 = .ok (.ifCond .lt 13, 3) := by decide +kernel
theorem dX12_route_37 : decode cX12_route 37 = .ok (.iload_n 2, 1) := by decide +kernel
theorem dX12_route_38 : decode cX12_route 38 = .ok (.aload_n 0, 1) := by decide +kernel
theorem dX12_route_39 : decode cX12_route 39 = .ok (.getfield 105, 3) := by decide +kernel
theorem dX12_route_42 : decode cX12_route 42 = .ok (.iload_n 1, 1) := by decide +kernel
theorem dX12_route_43 : decode cX12_route 43 = .ok (.iaload, 1) := by decide +kernel
theorem dX12_route_44 : decode cX12_route 44 = .ok (.if_icmp .lt 10, 3) := by decide +kernel
theorem dX12_route_47 : decode cX12_route 47 = .ok (.aload_n 0, 1) := by decide +kernel
theorem dX12_route_48 : decode cX12_route 48 = .ok (.ldc 197, 2) := by decide +kernel
theorem dX12_route_50 : decode cX12_route 50 = .ok (.invokevirtual 177, 3) := by decide +kernel
theorem dX12_route_53 : decode cX12_route 53 = .ok (.ireturn, 1) := by decide +kernel
theorem dX12_route_54 : decode cX12_route 54 = .ok (.aload_n 0, 1) := by decide +kernel
theorem dX12_route_55 : decode cX12_route 55 = .ok (.getfield 102, 3) := by decide +kernel
theorem dX12_route_58 : decode cX12_route 58 = .ok (.iload_n 1, 1) := by decide +kernel
theorem dX12_route_59 : decode cX12_route 59 = .ok (.iaload, 1) := by decide +kernel
theorem dX12_route_60 : decode cX12_route 60 = .ok (.iload_n 2, 1) := by decide +kernel
theorem dX12_route_61 : decode cX12_route 61 = .ok (.iadd, 1) := by decide +kernel
theorem dX12_route_62 : decode cX12_route 62 = .ok (.istore 4, 2) := by decide +kernel
theorem dX12_route_64 : decode cX12_route 64 = .ok (.iload_n 3, 1) := by decide +kernel
theorem dX12_route_65 : decode cX12_route 65 = .ok (.ifCond .ge 13, 3) := by decide +kernel
theorem dX12_route_68 : decode cX12_route 68 = .ok (.aload_n 0, 1) := by decide +kernel
theorem dX12_route_69 : decode cX12_route 69 = .ok (.getfield 99, 3) := by decide +kernel
theorem dX12_route_72 : decode cX12_route 72 = .ok (.iload 4, 2) := by decide +kernel
theorem dX12_route_74 : decode cX12_route 74 = .ok (.iaload, 1) := by decide +kernel
theorem dX12_route_75 : decode cX12_route 75 = .ok (.goto 21, 3) := by decide +kernel
theorem dX12_route_78 : decode cX12_route 78 = .ok (.aload_n 0, 1) := by decide +kernel
theorem dX12_route_79 : decode cX12_route 79 = .ok (.iload 4, 2) := by decide +kernel
theorem dX12_route_81 : decode cX12_route 81 = .ok (.iload_n 3, 1) := by decide +kernel
theorem dX12_route_82 : decode cX12_route 82 = .ok (.bipush 10, 2) := by decide +kernel
theorem dX12_route_84 : decode cX12_route 84 = .ok (.if_icmp .le 8, 3) := by decide +kernel
theorem dX12_route_87 : decode cX12_route 87 = .ok (.bipush 10, 2) := by decide +kernel
theorem dX12_route_89 : decode cX12_route 89 = .ok (.goto 4, 3) := by decide +kernel
theorem dX12_route_92 : decode cX12_route 92 = .ok (.iload_n 3, 1) := by decide +kernel
theorem dX12_route_93 : decode cX12_route 93 = .ok (.invokevirtual 250, 3) := by decide +kernel
theorem dX12_route_96 : decode cX12_route 96 = .ok (.ireturn, 1) := by decide +kernel
theorem dX12_rideOf_0 : decode cX12_rideOf 0 = .ok (.iconst 0, 1) := by decide +kernel
theorem dX12_rideOf_1 : decode cX12_rideOf 1 = .ok (.istore_n 2, 1) := by decide +kernel
theorem dX12_rideOf_2 : decode cX12_rideOf 2 = .ok (.iload_n 2, 1) := by decide +kernel
theorem dX12_rideOf_3 : decode cX12_rideOf 3 = .ok (.aload_n 0, 1) := by decide +kernel
theorem dX12_rideOf_4 : decode cX12_rideOf 4 = .ok (.getfield 230, 3) := by decide +kernel
theorem dX12_rideOf_7 : decode cX12_rideOf 7 = .ok (.if_icmp .ge 74, 3) := by decide +kernel
theorem dX12_rideOf_10 : decode cX12_rideOf 10 = .ok (.aload_n 0, 1) := by decide +kernel
theorem dX12_rideOf_11 : decode cX12_rideOf 11 = .ok (.getfield 93, 3) := by decide +kernel
theorem dX12_rideOf_14 : decode cX12_rideOf 14 = .ok (.iload_n 2, 1) := by decide +kernel
theorem dX12_rideOf_15 : decode cX12_rideOf 15 = .ok (.iaload, 1) := by decide +kernel
theorem dX12_rideOf_16 : decode cX12_rideOf 16 = .ok (.istore_n 3, 1) := by decide +kernel
theorem dX12_rideOf_17 : decode cX12_rideOf 17 = .ok (.iload_n 3, 1) := by decide +kernel
theorem dX12_rideOf_18 : decode cX12_rideOf 18 = .ok (.iload_n 1, 1) := by decide +kernel
theorem dX12_rideOf_19 : decode cX12_rideOf 19 = .ok (.invokestatic 206, 3) := by decide +kernel
theorem dX12_rideOf_22 : decode cX12_rideOf 22 = .ok (.ifCond .ne 6, 3) := by decide +kernel
theorem dX12_rideOf_25 : decode cX12_rideOf 25 = .ok (.goto 50, 3) := by decide +kernel
theorem dX12_rideOf_28 : decode cX12_rideOf 28 = .ok (.aload_n 0, 1) := by decide +kernel
theorem dX12_rideOf_29 : decode cX12_rideOf 29 = .ok (.iload_n 3, 1) := by decide +kernel
theorem dX12_rideOf_30 : decode cX12_rideOf 30 = .ok (.iconst (-1), 1) := by decide +kernel
theorem dX12_rideOf_31 : decode cX12_rideOf 31 = .ok (.invokevirtual 246, 3) := by decide +kernel
theorem dX12_rideOf_34 : decode cX12_rideOf 34 = .ok (.istore 4, 2) := by decide +kernel
theorem dX12_rideOf_36 : decode cX12_rideOf 36 = .ok (.iload 4, 2) := by decide +kernel
theorem dX12_rideOf_38 : decode cX12_rideOf 38 = .ok (.iload_n 1, 1) := by decide +kernel
theorem dX12_rideOf_39 : decode cX12_rideOf 39 = .ok (.if_icmp .eq 24, 3) := by decide +kernel
theorem dX12_rideOf_42 : decode cX12_rideOf 42 = .ok (.iload_n 3, 1) := by decide +kernel
theorem dX12_rideOf_43 : decode cX12_rideOf 43 = .ok (.iconst 1, 1) := by decide +kernel
theorem dX12_rideOf_44 : decode cX12_rideOf 44 = .ok (.iload 4, 2) := by decide +kernel
theorem dX12_rideOf_46 : decode cX12_rideOf 46 = .ok (.ishl, 1) := by decide +kernel
theorem dX12_rideOf_47 : decode cX12_rideOf 47 = .ok (.iconst (-1), 1) := by decide +kernel
theorem dX12_rideOf_48 : decode cX12_rideOf 48 = .ok (.ixor, 1) := by decide +kernel
theorem dX12_rideOf_49 : decode cX12_rideOf 49 = .ok (.iand, 1) := by decide +kernel
theorem dX12_rideOf_50 : decode cX12_rideOf 50 = .ok (.istore_n 3, 1) := by decide +kernel
theorem dX12_rideOf_51 : decode cX12_rideOf 51 = .ok (.aload_n 0, 1) := by decide +kernel
theorem dX12_rideOf_52 : decode cX12_rideOf 52 = .ok (.iload_n 3, 1) := by decide +kernel
theorem dX12_rideOf_53 : decode cX12_rideOf 53 = .ok (.iload 4, 2) := by decide +kernel
theorem dX12_rideOf_55 : decode cX12_rideOf 55 = .ok (.invokevirtual 246, 3) := by decide +kernel
theorem dX12_rideOf_58 : decode cX12_rideOf 58 = .ok (.istore 4, 2) := by decide +kernel
theorem dX12_rideOf_60 : decode cX12_rideOf 60 = .ok (.goto (-24), 3) := by decide +kernel
theorem dX12_rideOf_63 : decode cX12_rideOf 63 = .ok (.aload_n 0, 1) := by decide +kernel
theorem dX12_rideOf_64 : decode cX12_rideOf 64 = .ok (.getfield 78, 3) := by decide +kernel
theorem dX12_rideOf_67 : decode cX12_rideOf 67 = .ok (.bipush 10, 2) := by decide +kernel
theorem dX12_rideOf_69 : decode cX12_rideOf 69 = .ok (.iload_n 3, 1) := by decide +kernel
theorem dX12_rideOf_70 : decode cX12_rideOf 70 = .ok (.imul, 1) := by decide +kernel
theorem dX12_rideOf_71 : decode cX12_rideOf 71 = .ok (.iload_n 1, 1) := by decide +kernel
theorem dX12_rideOf_72 : decode cX12_rideOf 72 = .ok (.iadd, 1) := by decide +kernel
theorem dX12_rideOf_73 : decode cX12_rideOf 73 = .ok (.iaload, 1) := by decide +kernel
theorem dX12_rideOf_74 : decode cX12_rideOf 74 = .ok (.ireturn, 1) := by decide +kernel
theorem dX12_rideOf_75 : decode cX12_rideOf 75 = .ok (.iinc 2 1, 3) := by decide +kernel
theorem dX12_rideOf_78 : decode cX12_rideOf 78 = .ok (.goto (-76), 3) := by decide +kernel
theorem dX12_rideOf_81 : decode cX12_rideOf 81 = .ok (.iconst 0, 1) := by decide +kernel
theorem dX12_rideOf_82 : decode cX12_rideOf 82 = .ok (.ireturn, 1) := by decide +kernel
theorem dX12_ride_0 : decode cX12_ride 0 = .ok (.aload_n 0, 1) := by decide +kernel
theorem dX12_ride_1 : decode cX12_ride 1 = .ok (.iload_n 1, 1) := by decide +kernel
theorem dX12_ride_2 : decode cX12_ride 2 = .ok (.invokevirtual 221, 3) := by decide +kernel
theorem dX12_ride_5 : decode cX12_ride 5 = .ok (.ifCond .ne 10, 3) := by decide +kernel
theorem dX12_ride_8 : decode cX12_ride 8 = .ok (.aload_n 0, 1) := by decide +kernel
theorem dX12_ride_9 : decode cX12_ride 9 = .ok (.ldc 185, 2) := by decide +kernel
theorem dX12_ride_11 : decode cX12_ride 11 = .ok (.invokevirtual 177, 3) := by decide +kernel
theorem dX12_ride_14 : decode cX12_ride 14 = .ok (.ireturn, 1) := by decide +kernel
theorem dX12_ride_15 : decode cX12_ride 15 = .ok (.aload_n 0, 1) := by decide +kernel
theorem dX12_ride_16 : decode cX12_ride 16 = .ok (.invokevirtual 243, 3) := by decide +kernel
theorem dX12_ride_19 : decode cX12_ride 19 = .ok (.aload_n 0, 1) := by decide +kernel
theorem dX12_ride_20 : decode cX12_ride 20 = .ok (.getfield 105, 3) := by decide +kernel
theorem dX12_ride_23 : decode cX12_ride 23 = .ok (.aload_n 0, 1) := by decide +kernel
theorem dX12_ride_24 : decode cX12_ride 24 = .ok (.getfield 42, 3) := by decide +kernel
theorem dX12_ride_27 : decode cX12_ride 27 = .ok (.iload_n 1, 1) := by decide +kernel
theorem dX12_ride_28 : decode cX12_ride 28 = .ok (.iaload, 1) := by decide +kernel
theorem dX12_ride_29 : decode cX12_ride 29 = .ok (.iaload, 1) := by decide +kernel
theorem dX12_ride_30 : decode cX12_ride 30 = .ok (.ifCond .ge 12, 3) := by decide +kernel
theorem dX12_ride_33 : decode cX12_ride 33 = .ok (.aload_n 0, 1) := by decide +kernel
theorem dX12_ride_34 : decode cX12_ride 34 = .ok (.ldc 197, 2) := by decide +kernel
theorem dX12_ride_36 : decode cX12_ride 36 = .ok (.invokevirtual 177, 3) := by decide +kernel
theorem dX12_ride_39 : decode cX12_ride 39 = .ok (.goto 8, 3) := by decide +kernel
theorem dX12_ride_42 : decode cX12_ride 42 = .ok (.aload_n 0, 1) := by decide +kernel
theorem dX12_ride_43 : decode cX12_ride 43 = .ok (.iload_n 1, 1) := by decide +kernel
theorem dX12_ride_44 : decode cX12_ride 44 = .ok (.invokevirtual 253, 3) := by decide +kernel
theorem dX12_ride_47 : decode cX12_ride 47 = .ok (.ireturn, 1) := by decide +kernel
theorem dX12_all_0 : decode cX12_all 0 = .ok (.aload_n 0, 1) := by decide +kernel
theorem dX12_all_1 : decode cX12_all 1 = .ok (.invokevirtual 243, 3) := by decide +kernel
theorem dX12_all_4 : decode cX12_all 4 = .ok (.aload_n 0, 1) := by decide +kernel
theorem dX12_all_5 : decode cX12_all 5 = .ok (.getfield 233, 3) := by decide +kernel
theorem dX12_all_8 : decode cX12_all 8 = .ok (.ifCond .eq 10, 3) := by decide +kernel
theorem dX12_all_11 : decode cX12_all 11 = .ok (.aload_n 0, 1) := by decide +kernel
theorem dX12_all_12 : decode cX12_all 12 = .ok (.getfield 230, 3) := by decide +kernel
theorem dX12_all_15 : decode cX12_all 15 = .ok (.goto 9, 3) := by decide +kernel
theorem dX12_all_18 : decode cX12_all 18 = .ok (.aload_n 0, 1) := by decide +kernel
theorem dX12_all_19 : decode cX12_all 19 = .ok (.ldc 197, 2) := by decide +kernel
theorem dX12_all_21 : decode cX12_all 21 = .ok (.invokevirtual 177, 3) := by decide +kernel
theorem dX12_all_24 : decode cX12_all 24 = .ok (.ireturn, 1) := by decide +kernel
theorem dX12_rings_0 : decode cX12_rings 0 = .ok (.bipush 60, 2) := by decide +kernel
theorem dX12_rings_2 : decode cX12_rings 2 = .ok (.bipush 20, 2) := by decide +kernel
theorem dX12_rings_4 : decode cX12_rings 4 = .ok (.iload_n 0, 1) := by decide +kernel
theorem dX12_rings_5 : decode cX12_rings 5 = .ok (.imul, 1) := by decide +kernel
theorem dX12_rings_6 : decode cX12_rings 6 = .ok (.iadd, 1) := by decide +kernel
theorem dX12_rings_7 : decode cX12_rings 7 = .ok (.ireturn, 1) := by decide +kernel
theorem dX12_asTheyAre_0 : decode cX12_asTheyAre 0 = .ok (.iconst 0, 1) := by decide +kernel
theorem dX12_asTheyAre_1 : decode cX12_asTheyAre 1 = .ok (.istore_n 1, 1) := by decide +kernel
theorem dX12_asTheyAre_2 : decode cX12_asTheyAre 2 = .ok (.iload_n 1, 1) := by decide +kernel
theorem dX12_asTheyAre_3 : decode cX12_asTheyAre 3 = .ok (.iconst 4, 1) := by decide +kernel
theorem dX12_asTheyAre_4 : decode cX12_asTheyAre 4 = .ok (.if_icmp .ge 21, 3) := by decide +kernel
theorem dX12_asTheyAre_7 : decode cX12_asTheyAre 7 = .ok (.aload_n 0, 1) := by decide +kernel
theorem dX12_asTheyAre_8 : decode cX12_asTheyAre 8 = .ok (.getfield 108, 3) := by decide +kernel
theorem dX12_asTheyAre_11 : decode cX12_asTheyAre 11 = .ok (.iload_n 1, 1) := by decide +kernel
theorem dX12_asTheyAre_12 : decode cX12_asTheyAre 12 = .ok (.aload_n 0, 1) := by decide +kernel
theorem dX12_asTheyAre_13 : decode cX12_asTheyAre 13 = .ok (.getfield 36, 3) := by decide +kernel
theorem dX12_asTheyAre_16 : decode cX12_asTheyAre 16 = .ok (.iload_n 1, 1) := by decide +kernel
theorem dX12_asTheyAre_17 : decode cX12_asTheyAre 17 = .ok (.iaload, 1) := by decide +kernel
theorem dX12_asTheyAre_18 : decode cX12_asTheyAre 18 = .ok (.iastore, 1) := by decide +kernel
theorem dX12_asTheyAre_19 : decode cX12_asTheyAre 19 = .ok (.iinc 1 1, 3) := by decide +kernel
theorem dX12_asTheyAre_22 : decode cX12_asTheyAre 22 = .ok (.goto (-20), 3) := by decide +kernel
theorem dX12_asTheyAre_25 : decode cX12_asTheyAre 25 = .ok (.return_, 1) := by decide +kernel
theorem dX12_startOf_0 : decode cX12_startOf 0 = .ok (.aload_n 0, 1) := by decide +kernel
theorem dX12_startOf_1 : decode cX12_startOf 1 = .ok (.getfield 108, 3) := by decide +kernel
theorem dX12_startOf_4 : decode cX12_startOf 4 = .ok (.aload_n 0, 1) := by decide +kernel
theorem dX12_startOf_5 : decode cX12_startOf 5 = .ok (.getfield 96, 3) := by decide +kernel
theorem dX12_startOf_8 : decode cX12_startOf 8 = .ok (.iload_n 1, 1) := by decide +kernel
theorem dX12_startOf_9 : decode cX12_startOf 9 = .ok (.iaload, 1) := by decide +kernel
theorem dX12_startOf_10 : decode cX12_startOf 10 = .ok (.iaload, 1) := by decide +kernel
theorem dX12_startOf_11 : decode cX12_startOf 11 = .ok (.invokestatic 256, 3) := by decide +kernel
theorem dX12_startOf_14 : decode cX12_startOf 14 = .ok (.aload_n 0, 1) := by decide +kernel
theorem dX12_startOf_15 : decode cX12_startOf 15 = .ok (.getfield 99, 3) := by decide +kernel
theorem dX12_startOf_18 : decode cX12_startOf 18 = .ok (.iload_n 1, 1) := by decide +kernel
theorem dX12_startOf_19 : decode cX12_startOf 19 = .ok (.iaload, 1) := by decide +kernel
theorem dX12_startOf_20 : decode cX12_startOf 20 = .ok (.isub, 1) := by decide +kernel
theorem dX12_startOf_21 : decode cX12_startOf 21 = .ok (.ireturn, 1) := by decide +kernel
theorem dX12_canFollow_0 : decode cX12_canFollow 0 = .ok (.aload_n 0, 1) := by decide +kernel
theorem dX12_canFollow_1 : decode cX12_canFollow 1 = .ok (.getfield 75, 3) := by decide +kernel
theorem dX12_canFollow_4 : decode cX12_canFollow 4 = .ok (.bipush 8, 2) := by decide +kernel
theorem dX12_canFollow_6 : decode cX12_canFollow 6 = .ok (.aload_n 0, 1) := by decide +kernel
theorem dX12_canFollow_7 : decode cX12_canFollow 7 = .ok (.getfield 33, 3) := by decide +kernel
theorem dX12_canFollow_10 : decode cX12_canFollow 10 = .ok (.aload_n 0, 1) := by decide +kernel
theorem dX12_canFollow_11 : decode cX12_canFollow 11 = .ok (.getfield 96, 3) := by decide +kernel
theorem dX12_canFollow_14 : decode cX12_canFollow 14 = .ok (.iload_n 1, 1) := by decide +kernel
theorem dX12_canFollow_15 : decode cX12_canFollow 15 = .ok (.iaload, 1) := by decide +kernel
theorem dX12_canFollow_16 : decode cX12_canFollow 16 = .ok (.iaload, 1) := by decide +kernel
theorem dX12_canFollow_17 : decode cX12_canFollow 17 = .ok (.imul, 1) := by decide +kernel
theorem dX12_canFollow_18 : decode cX12_canFollow 18 = .ok (.aload_n 0, 1) := by decide +kernel
theorem dX12_canFollow_19 : decode cX12_canFollow 19 = .ok (.getfield 45, 3) := by decide +kernel
theorem dX12_canFollow_22 : decode cX12_canFollow 22 = .ok (.aload_n 0, 1) := by decide +kernel
theorem dX12_canFollow_23 : decode cX12_canFollow 23 = .ok (.iload_n 2, 1) := by decide +kernel
theorem dX12_canFollow_24 : decode cX12_canFollow 24 = .ok (.iconst 0, 1) := by decide +kernel
theorem dX12_canFollow_25 : decode cX12_canFollow 25 = .ok (.invokevirtual 250, 3) := by decide +kernel
theorem dX12_canFollow_28 : decode cX12_canFollow 28 = .ok (.iaload, 1) := by decide +kernel
theorem dX12_canFollow_29 : decode cX12_canFollow 29 = .ok (.iadd, 1) := by decide +kernel
theorem dX12_canFollow_30 : decode cX12_canFollow 30 = .ok (.iaload, 1) := by decide +kernel
theorem dX12_canFollow_31 : decode cX12_canFollow 31 = .ok (.istore_n 3, 1) := by decide +kernel
theorem dX12_canFollow_32 : decode cX12_canFollow 32 = .ok (.iload_n 3, 1) := by decide +kernel
theorem dX12_canFollow_33 : decode cX12_canFollow 33 = .ok (.ldc 192, 2) := by decide +kernel
theorem dX12_canFollow_35 : decode cX12_canFollow 35 = .ok (.if_icmp .ge 36, 3) := by decide +kernel
theorem dX12_canFollow_38 : decode cX12_canFollow 38 = .ok (.aload_n 0, 1) := by decide +kernel
theorem dX12_canFollow_39 : decode cX12_canFollow 39 = .ok (.getfield 108, 3) := by decide +kernel
theorem dX12_canFollow_42 : decode cX12_canFollow 42 = .ok (.aload_n 0, 1) := by decide +kernel
theorem dX12_canFollow_43 : decode cX12_canFollow 43 = .ok (.getfield 96, 3) := by decide +kernel
theorem dX12_canFollow_46 : decode cX12_canFollow 46 = .ok (.iload_n 1, 1) := by decide +kernel
theorem dX12_canFollow_47 : decode cX12_canFollow 47 = .ok (.iaload, 1) := by decide +kernel
theorem dX12_canFollow_48 : decode cX12_canFollow 48 = .ok (.iaload, 1) := by decide +kernel
theorem dX12_canFollow_49 : decode cX12_canFollow 49 = .ok (.invokestatic 256, 3) := by decide +kernel
theorem dX12_canFollow_52 : decode cX12_canFollow 52 = .ok (.iload_n 3, 1) := by decide +kernel
theorem dX12_canFollow_53 : decode cX12_canFollow 53 = .ok (.iadd, 1) := by decide +kernel
theorem dX12_canFollow_54 : decode cX12_canFollow 54 = .ok (.aload_n 0, 1) := by decide +kernel
theorem dX12_canFollow_55 : decode cX12_canFollow 55 = .ok (.getfield 224, 3) := by decide +kernel
theorem dX12_canFollow_58 : decode cX12_canFollow 58 = .ok (.iadd, 1) := by decide +kernel
theorem dX12_canFollow_59 : decode cX12_canFollow 59 = .ok (.aload_n 0, 1) := by decide +kernel
theorem dX12_canFollow_60 : decode cX12_canFollow 60 = .ok (.iload_n 2, 1) := by decide +kernel
theorem dX12_canFollow_61 : decode cX12_canFollow 61 = .ok (.invokevirtual 259, 3) := by decide +kernel
theorem dX12_canFollow_64 : decode cX12_canFollow 64 = .ok (.if_icmp .gt 7, 3) := by decide +kernel
theorem dX12_canFollow_67 : decode cX12_canFollow 67 = .ok (.iconst 1, 1) := by decide +kernel
theorem dX12_canFollow_68 : decode cX12_canFollow 68 = .ok (.goto 4, 3) := by decide +kernel
theorem dX12_canFollow_71 : decode cX12_canFollow 71 = .ok (.iconst 0, 1) := by decide +kernel
theorem dX12_canFollow_72 : decode cX12_canFollow 72 = .ok (.ireturn, 1) := by decide +kernel
theorem dX12_start_0 : decode cX12_start 0 = .ok (.iload_n 1, 1) := by decide +kernel
theorem dX12_start_1 : decode cX12_start 1 = .ok (.ifCond .ge 10, 3) := by decide +kernel
theorem dX12_start_4 : decode cX12_start 4 = .ok (.aload_n 0, 1) := by decide +kernel
theorem dX12_start_5 : decode cX12_start 5 = .ok (.ldc 185, 2) := by decide +kernel
theorem dX12_start_7 : decode cX12_start 7 = .ok (.invokevirtual 177, 3) := by decide +kernel
theorem dX12_start_10 : decode cX12_start 10 = .ok (.ireturn, 1) := by decide +kernel
theorem dX12_start_11 : decode cX12_start 11 = .ok (.aload_n 0, 1) := by decide +kernel
theorem dX12_start_12 : decode cX12_start 12 = .ok (.invokevirtual 243, 3) := by decide +kernel
theorem dX12_start_15 : decode cX12_start 15 = .ok (.aload_n 0, 1) := by decide +kernel
theorem dX12_start_16 : decode cX12_start 16 = .ok (.invokevirtual 262, 3) := by decide +kernel
theorem dX12_start_19 : decode cX12_start 19 = .ok (.aload_n 0, 1) := by decide +kernel
theorem dX12_start_20 : decode cX12_start 20 = .ok (.getfield 233, 3) := by decide +kernel
theorem dX12_start_23 : decode cX12_start 23 = .ok (.ifCond .eq 19, 3) := by decide +kernel
theorem dX12_start_26 : decode cX12_start 26 = .ok (.iload_n 1, 1) := by decide +kernel
theorem dX12_start_27 : decode cX12_start 27 = .ok (.aload_n 0, 1) := by decide +kernel
theorem dX12_start_28 : decode cX12_start 28 = .ok (.getfield 230, 3) := by decide +kernel
theorem dX12_start_31 : decode cX12_start 31 = .ok (.if_icmp .ge 11, 3) := by decide +kernel
theorem dX12_start_34 : decode cX12_start 34 = .ok (.aload_n 0, 1) := by decide +kernel
theorem dX12_start_35 : decode cX12_start 35 = .ok (.iload_n 1, 1) := by decide +kernel
theorem dX12_start_36 : decode cX12_start 36 = .ok (.invokevirtual 259, 3) := by decide +kernel
theorem dX12_start_39 : decode cX12_start 39 = .ok (.goto 9, 3) := by decide +kernel
theorem dX12_start_42 : decode cX12_start 42 = .ok (.aload_n 0, 1) := by decide +kernel
theorem dX12_start_43 : decode cX12_start 43 = .ok (.ldc 197, 2) := by decide +kernel
theorem dX12_start_45 : decode cX12_start 45 = .ok (.invokevirtual 177, 3) := by decide +kernel
theorem dX12_start_48 : decode cX12_start 48 = .ok (.ireturn, 1) := by decide +kernel
theorem dX12_follows_0 : decode cX12_follows 0 = .ok (.iload_n 1, 1) := by decide +kernel
theorem dX12_follows_1 : decode cX12_follows 1 = .ok (.ifCond .lt 12, 3) := by decide +kernel
theorem dX12_follows_4 : decode cX12_follows 4 = .ok (.iload_n 2, 1) := by decide +kernel
theorem dX12_follows_5 : decode cX12_follows 5 = .ok (.ifCond .lt 8, 3) := by decide +kernel
theorem dX12_follows_8 : decode cX12_follows 8 = .ok (.iload_n 1, 1) := by decide +kernel
theorem dX12_follows_9 : decode cX12_follows 9 = .ok (.iload_n 2, 1) := by decide +kernel
theorem dX12_follows_10 : decode cX12_follows 10 = .ok (.if_icmp .ne 10, 3) := by decide +kernel
theorem dX12_follows_13 : decode cX12_follows 13 = .ok (.aload_n 0, 1) := by decide +kernel
theorem dX12_follows_14 : decode cX12_follows 14 = .ok (.ldc 185, 2) := by decide +kernel
theorem dX12_follows_16 : decode cX12_follows 16 = .ok (.invokevirtual 177, 3) := by decide +kernel
theorem dX12_follows_19 : decode cX12_follows 19 = .ok (.ireturn, 1) := by decide +kernel
theorem dX12_follows_20 : decode cX12_follows 20 = .ok (.aload_n 0, 1) := by decide +kernel
theorem dX12_follows_21 : decode cX12_follows 21 = .ok (.invokevirtual 243, 3) := by decide +kernel
theorem dX12_follows_24 : decode cX12_follows 24 = .ok (.aload_n 0, 1) := by decide +kernel
theorem dX12_follows_25 : decode cX12_follows 25 = .ok (.invokevirtual 262, 3) := by decide +kernel
theorem dX12_follows_28 : decode cX12_follows 28 = .ok (.aload_n 0, 1) := by decide +kernel
theorem dX12_follows_29 : decode cX12_follows 29 = .ok (.getfield 233, 3) := by decide +kernel
theorem dX12_follows_32 : decode cX12_follows 32 = .ok (.ifCond .eq 19, 3) := by decide +kernel
theorem dX12_follows_35 : decode cX12_follows 35 = .ok (.iload_n 1, 1) := by decide +kernel
theorem dX12_follows_36 : decode cX12_follows 36 = .ok (.aload_n 0, 1) := by decide +kernel
theorem dX12_follows_37 : decode cX12_follows 37 = .ok (.getfield 230, 3) := by decide +kernel
theorem dX12_follows_40 : decode cX12_follows 40 = .ok (.if_icmp .ge 11, 3) := by decide +kernel
theorem dX12_follows_43 : decode cX12_follows 43 = .ok (.iload_n 2, 1) := by decide +kernel
theorem dX12_follows_44 : decode cX12_follows 44 = .ok (.aload_n 0, 1) := by decide +kernel
theorem dX12_follows_45 : decode cX12_follows 45 = .ok (.getfield 230, 3) := by decide +kernel
theorem dX12_follows_48 : decode cX12_follows 48 = .ok (.if_icmp .lt 10, 3) := by decide +kernel
theorem dX12_follows_51 : decode cX12_follows 51 = .ok (.aload_n 0, 1) := by decide +kernel
theorem dX12_follows_52 : decode cX12_follows 52 = .ok (.ldc 197, 2) := by decide +kernel
theorem dX12_follows_54 : decode cX12_follows 54 = .ok (.invokevirtual 177, 3) := by decide +kernel
theorem dX12_follows_57 : decode cX12_follows 57 = .ok (.ireturn, 1) := by decide +kernel
theorem dX12_follows_58 : decode cX12_follows 58 = .ok (.aload_n 0, 1) := by decide +kernel
theorem dX12_follows_59 : decode cX12_follows 59 = .ok (.iload_n 1, 1) := by decide +kernel
theorem dX12_follows_60 : decode cX12_follows 60 = .ok (.iload_n 2, 1) := by decide +kernel
theorem dX12_follows_61 : decode cX12_follows 61 = .ok (.invokevirtual 265, 3) := by decide +kernel
theorem dX12_follows_64 : decode cX12_follows 64 = .ok (.ifCond .eq 7, 3) := by decide +kernel
theorem dX12_follows_67 : decode cX12_follows 67 = .ok (.iconst 1, 1) := by decide +kernel
theorem dX12_follows_68 : decode cX12_follows 68 = .ok (.goto 4, 3) := by decide +kernel
theorem dX12_follows_71 : decode cX12_follows 71 = .ok (.iconst 0, 1) := by decide +kernel
theorem dX12_follows_72 : decode cX12_follows 72 = .ok (.ireturn, 1) := by decide +kernel
theorem dX12_findMay_0 : decode cX12_findMay 0 = .ok (.iconst 0, 1) := by decide +kernel
theorem dX12_findMay_1 : decode cX12_findMay 1 = .ok (.istore_n 1, 1) := by decide +kernel
theorem dX12_findMay_2 : decode cX12_findMay 2 = .ok (.iload_n 1, 1) := by decide +kernel
theorem dX12_findMay_3 : decode cX12_findMay 3 = .ok (.aload_n 0, 1) := by decide +kernel
theorem dX12_findMay_4 : decode cX12_findMay 4 = .ok (.getfield 230, 3) := by decide +kernel
theorem dX12_findMay_7 : decode cX12_findMay 7 = .ok (.if_icmp .ge 62, 3) := by decide +kernel
theorem dX12_findMay_10 : decode cX12_findMay 10 = .ok (.aload_n 0, 1) := by decide +kernel
theorem dX12_findMay_11 : decode cX12_findMay 11 = .ok (.getfield 111, 3) := by decide +kernel
theorem dX12_findMay_14 : decode cX12_findMay 14 = .ok (.iload_n 1, 1) := by decide +kernel
theorem dX12_findMay_15 : decode cX12_findMay 15 = .ok (.iconst 0, 1) := by decide +kernel
theorem dX12_findMay_16 : decode cX12_findMay 16 = .ok (.iastore, 1) := by decide +kernel
theorem dX12_findMay_17 : decode cX12_findMay 17 = .ok (.iconst 0, 1) := by decide +kernel
theorem dX12_findMay_18 : decode cX12_findMay 18 = .ok (.istore_n 2, 1) := by decide +kernel
theorem dX12_findMay_19 : decode cX12_findMay 19 = .ok (.iload_n 2, 1) := by decide +kernel
theorem dX12_findMay_20 : decode cX12_findMay 20 = .ok (.aload_n 0, 1) := by decide +kernel
theorem dX12_findMay_21 : decode cX12_findMay 21 = .ok (.getfield 230, 3) := by decide +kernel
theorem dX12_findMay_24 : decode cX12_findMay 24 = .ok (.if_icmp .ge 39, 3) := by decide +kernel
theorem dX12_findMay_27 : decode cX12_findMay 27 = .ok (.aload_n 0, 1) := by decide +kernel
theorem dX12_findMay_28 : decode cX12_findMay 28 = .ok (.getfield 111, 3) := by decide +kernel
theorem dX12_findMay_31 : decode cX12_findMay 31 = .ok (.iload_n 1, 1) := by decide +kernel
theorem dX12_findMay_32 : decode cX12_findMay 32 = .ok (.dup2, 1) := by decide +kernel
theorem dX12_findMay_33 : decode cX12_findMay 33 = .ok (.iaload, 1) := by decide +kernel
theorem dX12_findMay_34 : decode cX12_findMay 34 = .ok (.iload_n 2, 1) := by decide +kernel
theorem dX12_findMay_35 : decode cX12_findMay 35 = .ok (.iload_n 1, 1) := by decide +kernel
theorem dX12_findMay_36 : decode cX12_findMay 36 = .ok (.if_icmp .eq 18, 3) := by decide +kernel
theorem dX12_findMay_39 : decode cX12_findMay 39 = .ok (.aload_n 0, 1) := by decide +kernel
theorem dX12_findMay_40 : decode cX12_findMay 40 = .ok (.iload_n 1, 1) := by decide +kernel
theorem dX12_findMay_41 : decode cX12_findMay 41 = .ok (.iload_n 2, 1) := by decide +kernel
theorem dX12_findMay_42 : decode cX12_findMay 42 = .ok (.invokevirtual 265, 3) := by decide +kernel
theorem dX12_findMay_45 : decode cX12_findMay 45 = .ok (.ifCond .eq 9, 3) := by decide +kernel
theorem dX12_findMay_48 : decode cX12_findMay 48 = .ok (.iconst 1, 1) := by decide +kernel
theorem dX12_findMay_49 : decode cX12_findMay 49 = .ok (.iload_n 2, 1) := by decide +kernel
theorem dX12_findMay_50 : decode cX12_findMay 50 = .ok (.ishl, 1) := by decide +kernel
theorem dX12_findMay_51 : decode cX12_findMay 51 = .ok (.goto 4, 3) := by decide +kernel
theorem dX12_findMay_54 : decode cX12_findMay 54 = .ok (.iconst 0, 1) := by decide +kernel
theorem dX12_findMay_55 : decode cX12_findMay 55 = .ok (.ior, 1) := by decide +kernel
theorem dX12_findMay_56 : decode cX12_findMay 56 = .ok (.iastore, 1) := by decide +kernel
theorem dX12_findMay_57 : decode cX12_findMay 57 = .ok (.iinc 2 1, 3) := by decide +kernel
theorem dX12_findMay_60 : decode cX12_findMay 60 = .ok (.goto (-41), 3) := by decide +kernel
theorem dX12_findMay_63 : decode cX12_findMay 63 = .ok (.iinc 1 1, 3) := by decide +kernel
theorem dX12_findMay_66 : decode cX12_findMay 66 = .ok (.goto (-64), 3) := by decide +kernel
theorem dX12_findMay_69 : decode cX12_findMay 69 = .ok (.return_, 1) := by decide +kernel
theorem dX12_findChains_0 : decode cX12_findChains 0 = .ok (.aload_n 0, 1) := by decide +kernel
theorem dX12_findChains_1 : decode cX12_findChains 1 = .ok (.invokevirtual 243, 3) := by decide +kernel
theorem dX12_findChains_4 : decode cX12_findChains 4 = .ok (.aload_n 0, 1) := by decide +kernel
theorem dX12_findChains_5 : decode cX12_findChains 5 = .ok (.invokevirtual 262, 3) := by decide +kernel
theorem dX12_findChains_8 : decode cX12_findChains 8 = .ok (.aload_n 0, 1) := by decide +kernel
theorem dX12_findChains_9 : decode cX12_findChains 9 = .ok (.invokevirtual 268, 3) := by decide +kernel
theorem dX12_findChains_12 : decode cX12_findChains 12 = .ok (.iconst 0, 1) := by decide +kernel
theorem dX12_findChains_13 : decode cX12_findChains 13 = .ok (.istore_n 1, 1) := by decide +kernel
theorem dX12_findChains_14 : decode cX12_findChains 14 = .ok (.iload_n 1, 1) := by decide +kernel
theorem dX12_findChains_15 : decode cX12_findChains 15 = .ok (.sipush 1024, 3) := by decide +kernel
theorem dX12_findChains_18 : decode cX12_findChains 18 = .ok (.if_icmp .ge 25, 3) := by decide +kernel
theorem dX12_findChains_21 : decode cX12_findChains 21 = .ok (.aload_n 0, 1) := by decide +kernel
theorem dX12_findChains_22 : decode cX12_findChains 22 = .ok (.getfield 114, 3) := by decide +kernel
theorem dX12_findChains_25 : decode cX12_findChains 25 = .ok (.sipush 1024, 3) := by decide +kernel
theorem dX12_findChains_28 : decode cX12_findChains 28 = .ok (.aload_n 0, 1) := by decide +kernel
theorem dX12_findChains_29 : decode cX12_findChains 29 = .ok (.getfield 230, 3) := by decide +kernel
theorem dX12_findChains_32 : decode cX12_findChains 32 = .ok (.imul, 1) := by decide +kernel
theorem dX12_findChains_33 : decode cX12_findChains 33 = .ok (.iload_n 1, 1) := by decide +kernel
theorem dX12_findChains_34 : decode cX12_findChains 34 = .ok (.iadd, 1) := by decide +kernel
theorem dX12_findChains_35 : decode cX12_findChains 35 = .ok (.iconst 0, 1) := by decide +kernel
theorem dX12_findChains_36 : decode cX12_findChains 36 = .ok (.iastore, 1) := by decide +kernel
theorem dX12_findChains_37 : decode cX12_findChains 37 = .ok (.iinc 1 1, 3) := by decide +kernel
theorem dX12_findChains_40 : decode cX12_findChains 40 = .ok (.goto (-26), 3) := by decide +kernel
theorem dX12_findChains_43 : decode cX12_findChains 43 = .ok (.aload_n 0, 1) := by decide +kernel
theorem dX12_findChains_44 : decode cX12_findChains 44 = .ok (.getfield 230, 3) := by decide +kernel
theorem dX12_findChains_47 : decode cX12_findChains 47 = .ok (.iconst 1, 1) := by decide +kernel
theorem dX12_findChains_48 : decode cX12_findChains 48 = .ok (.isub, 1) := by decide +kernel
theorem dX12_findChains_49 : decode cX12_findChains 49 = .ok (.istore_n 1, 1) := by decide +kernel
theorem dX12_findChains_50 : decode cX12_findChains 50 = .ok (.iload_n 1, 1) := by decide +kernel
theorem dX12_findChains_51 : decode cX12_findChains 51 = .ok (.ifCond .lt 135, 3) := by decide +kernel
theorem dX12_findChains_54 : decode cX12_findChains 54 = .ok (.iconst 0, 1) := by decide +kernel
theorem dX12_findChains_55 : decode cX12_findChains 55 = .ok (.istore_n 2, 1) := by decide +kernel
theorem dX12_findChains_56 : decode cX12_findChains 56 = .ok (.iload_n 2, 1) := by decide +kernel
theorem dX12_findChains_57 : decode cX12_findChains 57 = .ok (.iconst 1, 1) := by decide +kernel
theorem dX12_findChains_58 : decode cX12_findChains 58 = .ok (.aload_n 0, 1) := by decide +kernel
theorem dX12_findChains_59 : decode cX12_findChains 59 = .ok (.getfield 230, 3) := by decide +kernel
theorem dX12_findChains_62 : decode cX12_findChains 62 = .ok (.ishl, 1) := by decide +kernel
theorem dX12_findChains_63 : decode cX12_findChains 63 = .ok (.if_icmp .ge 117, 3) := by decide +kernel
theorem dX12_findChains_66 : decode cX12_findChains 66 = .ok (.aload_n 0, 1) := by decide +kernel
theorem dX12_findChains_67 : decode cX12_findChains 67 = .ok (.getfield 114, 3) := by decide +kernel
theorem dX12_findChains_70 : decode cX12_findChains 70 = .ok (.sipush 1024, 3) := by decide +kernel
theorem dX12_findChains_73 : decode cX12_findChains 73 = .ok (.iload_n 1, 1) := by decide +kernel
theorem dX12_findChains_74 : decode cX12_findChains 74 = .ok (.iconst 1, 1) := by decide +kernel
theorem dX12_findChains_75 : decode cX12_findChains 75 = .ok (.iadd, 1) := by decide +kernel
theorem dX12_findChains_76 : decode cX12_findChains 76 = .ok (.imul, 1) := by decide +kernel
theorem dX12_findChains_77 : decode cX12_findChains 77 = .ok (.iload_n 2, 1) := by decide +kernel
theorem dX12_findChains_78 : decode cX12_findChains 78 = .ok (.iadd, 1) := by decide +kernel
theorem dX12_findChains_79 : decode cX12_findChains 79 = .ok (.iaload, 1) := by decide +kernel
theorem dX12_findChains_80 : decode cX12_findChains 80 = .ok (.istore_n 3, 1) := by decide +kernel
theorem dX12_findChains_81 : decode cX12_findChains 81 = .ok (.iconst 0, 1) := by decide +kernel
theorem dX12_findChains_82 : decode cX12_findChains 82 = .ok (.istore 4, 2) := by decide +kernel
theorem dX12_findChains_84 : decode cX12_findChains 84 = .ok (.iload 4, 2) := by decide +kernel
theorem dX12_findChains_86 : decode cX12_findChains 86 = .ok (.aload_n 0, 1) := by decide +kernel
theorem dX12_findChains_87 : decode cX12_findChains 87 = .ok (.getfield 230, 3) := by decide +kernel
theorem dX12_findChains_90 : decode cX12_findChains 90 = .ok (.if_icmp .ge 71, 3) := by decide +kernel
theorem dX12_findChains_93 : decode cX12_findChains 93 = .ok (.aload_n 0, 1) := by decide +kernel
theorem dX12_findChains_94 : decode cX12_findChains 94 = .ok (.getfield 111, 3) := by decide +kernel
theorem dX12_findChains_97 : decode cX12_findChains 97 = .ok (.iload_n 1, 1) := by decide +kernel
theorem dX12_findChains_98 : decode cX12_findChains 98 = .ok (.iaload, 1) := by decide +kernel
theorem dX12_findChains_99 : decode cX12_findChains 99 = .ok (.iload 4, 2) := by decide +kernel
theorem dX12_findChains_101 : decode cX12_findChains 101 = .ok (.invokestatic 206, 3) := by decide +kernel
theorem dX12_findChains_104 : decode cX12_findChains 104 = .ok (.ifCond .eq 51, 3) := by decide +kernel
theorem dX12_findChains_107 : decode cX12_findChains 107 = .ok (.iload_n 2, 1) := by decide +kernel
theorem dX12_findChains_108 : decode cX12_findChains 108 = .ok (.iload 4, 2) := by decide +kernel
theorem dX12_findChains_110 : decode cX12_findChains 110 = .ok (.invokestatic 206, 3) := by decide +kernel
theorem dX12_findChains_113 : decode cX12_findChains 113 = .ok (.ifCond .eq 6, 3) := by decide +kernel
theorem dX12_findChains_116 : decode cX12_findChains 116 = .ok (.goto 39, 3) := by decide +kernel
theorem dX12_findChains_119 : decode cX12_findChains 119 = .ok (.iconst 1, 1) := by decide +kernel
theorem dX12_findChains_120 : decode cX12_findChains 120 = .ok (.aload_n 0, 1) := by decide +kernel
theorem dX12_findChains_121 : decode cX12_findChains 121 = .ok (.getfield 114, 3) := by decide +kernel
theorem dX12_findChains_124 : decode cX12_findChains 124 = .ok (.sipush 1024, 3) := by decide +kernel
theorem dX12_findChains_127 : decode cX12_findChains 127 = .ok (.iload_n 1, 1) := by decide +kernel
theorem dX12_findChains_128 : decode cX12_findChains 128 = .ok (.iconst 1, 1) := by decide +kernel
theorem dX12_findChains_129 : decode cX12_findChains 129 = .ok (.iadd, 1) := by decide +kernel
theorem dX12_findChains_130 : decode cX12_findChains 130 = .ok (.imul, 1) := by decide +kernel
theorem dX12_findChains_131 : decode cX12_findChains 131 = .ok (.iload_n 2, 1) := by decide +kernel
theorem dX12_findChains_132 : decode cX12_findChains 132 = .ok (.iconst 1, 1) := by decide +kernel
theorem dX12_findChains_133 : decode cX12_findChains 133 = .ok (.iload 4, 2) := by decide +kernel
theorem dX12_findChains_135 : decode cX12_findChains 135 = .ok (.ishl, 1) := by decide +kernel
theorem dX12_findChains_136 : decode cX12_findChains 136 = .ok (.ior, 1) := by decide +kernel
theorem dX12_findChains_137 : decode cX12_findChains 137 = .ok (.iadd, 1) := by decide +kernel
theorem dX12_findChains_138 : decode cX12_findChains 138 = .ok (.iaload, 1) := by decide +kernel
theorem dX12_findChains_139 : decode cX12_findChains 139 = .ok (.iadd, 1) := by decide +kernel
theorem dX12_findChains_140 : decode cX12_findChains 140 = .ok (.istore 5, 2) := by decide +kernel
theorem dX12_findChains_142 : decode cX12_findChains 142 = .ok (.iload 5, 2) := by decide +kernel
theorem dX12_findChains_144 : decode cX12_findChains 144 = .ok (.iload_n 3, 1) := by decide +kernel
theorem dX12_findChains_145 : decode cX12_findChains 145 = .ok (.if_icmp .le 8, 3) := by decide +kernel
theorem dX12_findChains_148 : decode cX12_findChains 148 = .ok (.iload 5, 2) := by decide +kernel
theorem dX12_findChains_150 : decode cX12_findChains 150 = .ok (.goto 4, 3) := by decide +kernel
theorem dX12_findChains_153 : decode cX12_findChains 153 = .ok (.iload_n 3, 1) := by decide +kernel
theorem dX12_findChains_154 : decode cX12_findChains 154 = .ok (.istore_n 3, 1) := by decide +kernel
theorem dX12_findChains_155 : decode cX12_findChains 155 = .ok (.iinc 4 1, 3) := by decide +kernel
theorem dX12_findChains_158 : decode cX12_findChains 158 = .ok (.goto (-74), 3) := by decide +kernel
theorem dX12_findChains_161 : decode cX12_findChains 161 = .ok (.aload_n 0, 1) := by decide +kernel
theorem dX12_findChains_162 : decode cX12_findChains 162 = .ok (.getfield 114, 3) := by decide +kernel
theorem dX12_findChains_165 : decode cX12_findChains 165 = .ok (.sipush 1024, 3) := by decide +kernel
theorem dX12_findChains_168 : decode cX12_findChains 168 = .ok (.iload_n 1, 1) := by decide +kernel
theorem dX12_findChains_169 : decode cX12_findChains 169 = .ok (.imul, 1) := by decide +kernel
theorem dX12_findChains_170 : decode cX12_findChains 170 = .ok (.iload_n 2, 1) := by decide +kernel
theorem dX12_findChains_171 : decode cX12_findChains 171 = .ok (.iadd, 1) := by decide +kernel
theorem dX12_findChains_172 : decode cX12_findChains 172 = .ok (.iload_n 3, 1) := by decide +kernel
theorem dX12_findChains_173 : decode cX12_findChains 173 = .ok (.iastore, 1) := by decide +kernel
theorem dX12_findChains_174 : decode cX12_findChains 174 = .ok (.iinc 2 1, 3) := by decide +kernel
theorem dX12_findChains_177 : decode cX12_findChains 177 = .ok (.goto (-121), 3) := by decide +kernel
theorem dX12_findChains_180 : decode cX12_findChains 180 = .ok (.iinc 1 (-1), 3) := by decide +kernel
theorem dX12_findChains_183 : decode cX12_findChains 183 = .ok (.goto (-133), 3) := by decide +kernel
theorem dX12_findChains_186 : decode cX12_findChains 186 = .ok (.iconst 0, 1) := by decide +kernel
theorem dX12_findChains_187 : decode cX12_findChains 187 = .ok (.istore_n 1, 1) := by decide +kernel
theorem dX12_findChains_188 : decode cX12_findChains 188 = .ok (.iconst 0, 1) := by decide +kernel
theorem dX12_findChains_189 : decode cX12_findChains 189 = .ok (.istore_n 2, 1) := by decide +kernel
theorem dX12_findChains_190 : decode cX12_findChains 190 = .ok (.iload_n 2, 1) := by decide +kernel
theorem dX12_findChains_191 : decode cX12_findChains 191 = .ok (.aload_n 0, 1) := by decide +kernel
theorem dX12_findChains_192 : decode cX12_findChains 192 = .ok (.getfield 230, 3) := by decide +kernel
theorem dX12_findChains_195 : decode cX12_findChains 195 = .ok (.if_icmp .ge 118, 3) := by decide +kernel
theorem dX12_findChains_198 : decode cX12_findChains 198 = .ok (.iconst 0, 1) := by decide +kernel
theorem dX12_findChains_199 : decode cX12_findChains 199 = .ok (.istore_n 3, 1) := by decide +kernel
theorem dX12_findChains_200 : decode cX12_findChains 200 = .ok (.iload_n 3, 1) := by decide +kernel
theorem dX12_findChains_201 : decode cX12_findChains 201 = .ok (.aload_n 0, 1) := by decide +kernel
theorem dX12_findChains_202 : decode cX12_findChains 202 = .ok (.getfield 230, 3) := by decide +kernel
theorem dX12_findChains_205 : decode cX12_findChains 205 = .ok (.if_icmp .ge 65, 3) := by decide +kernel
theorem dX12_findChains_208 : decode cX12_findChains 208 = .ok (.aload_n 0, 1) := by decide +kernel
theorem dX12_findChains_209 : decode cX12_findChains 209 = .ok (.getfield 111, 3) := by decide +kernel
theorem dX12_findChains_212 : decode cX12_findChains 212 = .ok (.iload_n 2, 1) := by decide +kernel
theorem dX12_findChains_213 : decode cX12_findChains 213 = .ok (.iaload, 1) := by decide +kernel
theorem dX12_findChains_214 : decode cX12_findChains 214 = .ok (.iload_n 3, 1) := by decide +kernel
theorem dX12_findChains_215 : decode cX12_findChains 215 = .ok (.invokestatic 206, 3) := by decide +kernel
theorem dX12_findChains_218 : decode cX12_findChains 218 = .ok (.ifCond .eq 46, 3) := by decide +kernel
theorem dX12_findChains_221 : decode cX12_findChains 221 = .ok (.iload_n 1, 1) := by decide +kernel
theorem dX12_findChains_222 : decode cX12_findChains 222 = .ok (.iload_n 3, 1) := by decide +kernel
theorem dX12_findChains_223 : decode cX12_findChains 223 = .ok (.invokestatic 206, 3) := by decide +kernel
theorem dX12_findChains_226 : decode cX12_findChains 226 = .ok (.ifCond .ne 38, 3) := by decide +kernel
theorem dX12_findChains_229 : decode cX12_findChains 229 = .ok (.iconst 1, 1) := by decide +kernel
theorem dX12_findChains_230 : decode cX12_findChains 230 = .ok (.aload_n 0, 1) := by decide +kernel
theorem dX12_findChains_231 : decode cX12_findChains 231 = .ok (.getfield 114, 3) := by decide +kernel
theorem dX12_findChains_234 : decode cX12_findChains 234 = .ok (.sipush 1024, 3) := by decide +kernel
theorem dX12_findChains_237 : decode cX12_findChains 237 = .ok (.iload_n 2, 1) := by decide +kernel
theorem dX12_findChains_238 : decode cX12_findChains 238 = .ok (.iconst 1, 1) := by decide +kernel
theorem dX12_findChains_239 : decode cX12_findChains 239 = .ok (.iadd, 1) := by decide +kernel
theorem dX12_findChains_240 : decode cX12_findChains 240 = .ok (.imul, 1) := by decide +kernel
theorem dX12_findChains_241 : decode cX12_findChains 241 = .ok (.iload_n 1, 1) := by decide +kernel
theorem dX12_findChains_242 : decode cX12_findChains 242 = .ok (.iconst 1, 1) := by decide +kernel
theorem dX12_findChains_243 : decode cX12_findChains 243 = .ok (.iload_n 3, 1) := by decide +kernel
theorem dX12_findChains_244 : decode cX12_findChains 244 = .ok (.ishl, 1) := by decide +kernel
theorem dX12_findChains_245 : decode cX12_findChains 245 = .ok (.ior, 1) := by decide +kernel
theorem dX12_findChains_246 : decode cX12_findChains 246 = .ok (.iadd, 1) := by decide +kernel
theorem dX12_findChains_247 : decode cX12_findChains 247 = .ok (.iaload, 1) := by decide +kernel
theorem dX12_findChains_248 : decode cX12_findChains 248 = .ok (.iadd, 1) := by decide +kernel
theorem dX12_findChains_249 : decode cX12_findChains 249 = .ok (.aload_n 0, 1) := by decide +kernel
theorem dX12_findChains_250 : decode cX12_findChains 250 = .ok (.getfield 114, 3) := by decide +kernel
theorem dX12_findChains_253 : decode cX12_findChains 253 = .ok (.sipush 1024, 3) := by decide +kernel
theorem dX12_findChains_256 : decode cX12_findChains 256 = .ok (.iload_n 2, 1) := by decide +kernel
theorem dX12_findChains_257 : decode cX12_findChains 257 = .ok (.imul, 1) := by decide +kernel
theorem dX12_findChains_258 : decode cX12_findChains 258 = .ok (.iload_n 1, 1) := by decide +kernel
theorem dX12_findChains_259 : decode cX12_findChains 259 = .ok (.iadd, 1) := by decide +kernel
theorem dX12_findChains_260 : decode cX12_findChains 260 = .ok (.iaload, 1) := by decide +kernel
theorem dX12_findChains_261 : decode cX12_findChains 261 = .ok (.if_icmp .ge 9, 3) := by decide +kernel
theorem dX12_findChains_264 : decode cX12_findChains 264 = .ok (.iinc 3 1, 3) := by decide +kernel
theorem dX12_findChains_267 : decode cX12_findChains 267 = .ok (.goto (-67), 3) := by decide +kernel
theorem dX12_findChains_270 : decode cX12_findChains 270 = .ok (.aload_n 0, 1) := by decide +kernel
theorem dX12_findChains_271 : decode cX12_findChains 271 = .ok (.getfield 117, 3) := by decide +kernel
theorem dX12_findChains_274 : decode cX12_findChains 274 = .ok (.iload_n 2, 1) := by decide +kernel
theorem dX12_findChains_275 : decode cX12_findChains 275 = .ok (.iload_n 3, 1) := by decide +kernel
theorem dX12_findChains_276 : decode cX12_findChains 276 = .ok (.aload_n 0, 1) := by decide +kernel
theorem dX12_findChains_277 : decode cX12_findChains 277 = .ok (.getfield 230, 3) := by decide +kernel
theorem dX12_findChains_280 : decode cX12_findChains 280 = .ok (.if_icmp .ge 7, 3) := by decide +kernel
theorem dX12_findChains_283 : decode cX12_findChains 283 = .ok (.iload_n 3, 1) := by decide +kernel
theorem dX12_findChains_284 : decode cX12_findChains 284 = .ok (.goto 4, 3) := by decide +kernel
theorem dX12_findChains_287 : decode cX12_findChains 287 = .ok (.iconst (-1), 1) := by decide +kernel
theorem dX12_findChains_288 : decode cX12_findChains 288 = .ok (.iastore, 1) := by decide +kernel
theorem dX12_findChains_289 : decode cX12_findChains 289 = .ok (.iload_n 1, 1) := by decide +kernel
theorem dX12_findChains_290 : decode cX12_findChains 290 = .ok (.iload_n 3, 1) := by decide +kernel
theorem dX12_findChains_291 : decode cX12_findChains 291 = .ok (.aload_n 0, 1) := by decide +kernel
theorem dX12_findChains_292 : decode cX12_findChains 292 = .ok (.getfield 230, 3) := by decide +kernel
theorem dX12_findChains_295 : decode cX12_findChains 295 = .ok (.if_icmp .ge 9, 3) := by decide +kernel
theorem dX12_findChains_298 : decode cX12_findChains 298 = .ok (.iconst 1, 1) := by decide +kernel
theorem dX12_findChains_299 : decode cX12_findChains 299 = .ok (.iload_n 3, 1) := by decide +kernel
theorem dX12_findChains_300 : decode cX12_findChains 300 = .ok (.ishl, 1) := by decide +kernel
theorem dX12_findChains_301 : decode cX12_findChains 301 = .ok (.goto 4, 3) := by decide +kernel
theorem dX12_findChains_304 : decode cX12_findChains 304 = .ok (.iconst 0, 1) := by decide +kernel
theorem dX12_findChains_305 : decode cX12_findChains 305 = .ok (.ior, 1) := by decide +kernel
theorem dX12_findChains_306 : decode cX12_findChains 306 = .ok (.istore_n 1, 1) := by decide +kernel
theorem dX12_findChains_307 : decode cX12_findChains 307 = .ok (.iinc 2 1, 3) := by decide +kernel
theorem dX12_findChains_310 : decode cX12_findChains 310 = .ok (.goto (-120), 3) := by decide +kernel
theorem dX12_findChains_313 : decode cX12_findChains 313 = .ok (.return_, 1) := by decide +kernel
theorem dX12_buses_0 : decode cX12_buses 0 = .ok (.aload_n 0, 1) := by decide +kernel
theorem dX12_buses_1 : decode cX12_buses 1 = .ok (.invokevirtual 243, 3) := by decide +kernel
theorem dX12_buses_4 : decode cX12_buses 4 = .ok (.aload_n 0, 1) := by decide +kernel
theorem dX12_buses_5 : decode cX12_buses 5 = .ok (.getfield 233, 3) := by decide +kernel
theorem dX12_buses_8 : decode cX12_buses 8 = .ok (.ifCond .ne 10, 3) := by decide +kernel
theorem dX12_buses_11 : decode cX12_buses 11 = .ok (.aload_n 0, 1) := by decide +kernel
theorem dX12_buses_12 : decode cX12_buses 12 = .ok (.ldc 197, 2) := by decide +kernel
theorem dX12_buses_14 : decode cX12_buses 14 = .ok (.invokevirtual 177, 3) := by decide +kernel
theorem dX12_buses_17 : decode cX12_buses 17 = .ok (.ireturn, 1) := by decide +kernel
theorem dX12_buses_18 : decode cX12_buses 18 = .ok (.aload_n 0, 1) := by decide +kernel
theorem dX12_buses_19 : decode cX12_buses 19 = .ok (.invokevirtual 271, 3) := by decide +kernel
theorem dX12_buses_22 : decode cX12_buses 22 = .ok (.aload_n 0, 1) := by decide +kernel
theorem dX12_buses_23 : decode cX12_buses 23 = .ok (.getfield 230, 3) := by decide +kernel
theorem dX12_buses_26 : decode cX12_buses 26 = .ok (.aload_n 0, 1) := by decide +kernel
theorem dX12_buses_27 : decode cX12_buses 27 = .ok (.getfield 114, 3) := by decide +kernel
theorem dX12_buses_30 : decode cX12_buses 30 = .ok (.iconst 0, 1) := by decide +kernel
theorem dX12_buses_31 : decode cX12_buses 31 = .ok (.iaload, 1) := by decide +kernel
theorem dX12_buses_32 : decode cX12_buses 32 = .ok (.isub, 1) := by decide +kernel
theorem dX12_buses_33 : decode cX12_buses 33 = .ok (.ireturn, 1) := by decide +kernel
theorem dX12_isFirst_0 : decode cX12_isFirst 0 = .ok (.iconst 0, 1) := by decide +kernel
theorem dX12_isFirst_1 : decode cX12_isFirst 1 = .ok (.istore_n 2, 1) := by decide +kernel
theorem dX12_isFirst_2 : decode cX12_isFirst 2 = .ok (.iload_n 2, 1) := by decide +kernel
theorem dX12_isFirst_3 : decode cX12_isFirst 3 = .ok (.aload_n 0, 1) := by decide +kernel
theorem dX12_isFirst_4 : decode cX12_isFirst 4 = .ok (.getfield 230, 3) := by decide +kernel
theorem dX12_isFirst_7 : decode cX12_isFirst 7 = .ok (.if_icmp .ge 21, 3) := by decide +kernel
theorem dX12_isFirst_10 : decode cX12_isFirst 10 = .ok (.aload_n 0, 1) := by decide +kernel
theorem dX12_isFirst_11 : decode cX12_isFirst 11 = .ok (.getfield 117, 3) := by decide +kernel
end
section
theorem dX12_isFirst_14 : decode cX12_isFirst 14 = .ok (.iload_n 2, 1) := by decide +kernel
theorem dX12_isFirst_15 : decode cX12_isFirst 15 = .ok (.iaload, 1) := by decide +kernel
theorem dX12_isFirst_16 : decode cX12_isFirst 16 = .ok (.iload_n 1, 1) := by decide +kernel
theorem dX12_isFirst_17 : decode cX12_isFirst 17 = .ok (.if_icmp .ne 5, 3) := by decide +kernel
theorem dX12_isFirst_20 : decode cX12_isFirst 20 = .ok (.iconst 0, 1) := by decide +kernel
theorem dX12_isFirst_21 : decode cX12_isFirst 21 = .ok (.ireturn, 1) := by decide +kernel
theorem dX12_isFirst_22 : decode cX12_isFirst 22 = .ok (.iinc 2 1, 3) := by decide +kernel
theorem dX12_isFirst_25 : decode cX12_isFirst 25 = .ok (.goto (-23), 3) := by decide +kernel
theorem dX12_isFirst_28 : decode cX12_isFirst 28 = .ok (.iconst 1, 1) := by decide +kernel
theorem dX12_isFirst_29 : decode cX12_isFirst 29 = .ok (.ireturn, 1) := by decide +kernel
theorem dX12_chain_0 : decode cX12_chain 0 = .ok (.iload_n 1, 1) := by decide +kernel
theorem dX12_chain_1 : decode cX12_chain 1 = .ok (.ifCond .lt 7, 3) := by decide +kernel
theorem dX12_chain_4 : decode cX12_chain 4 = .ok (.iload_n 2, 1) := by decide +kernel
theorem dX12_chain_5 : decode cX12_chain 5 = .ok (.ifCond .ge 10, 3) := by decide +kernel
theorem dX12_chain_8 : decode cX12_chain 8 = .ok (.aload_n 0, 1) := by decide +kernel
theorem dX12_chain_9 : decode cX12_chain 9 = .ok (.ldc 185, 2) := by decide +kernel
theorem dX12_chain_11 : decode cX12_chain 11 = .ok (.invokevirtual 177, 3) := by decide +kernel
theorem dX12_chain_14 : decode cX12_chain 14 = .ok (.ireturn, 1) := by decide +kernel
theorem dX12_chain_15 : decode cX12_chain 15 = .ok (.aload_n 0, 1) := by decide +kernel
theorem dX12_chain_16 : decode cX12_chain 16 = .ok (.invokevirtual 243, 3) := by decide +kernel
theorem dX12_chain_19 : decode cX12_chain 19 = .ok (.aload_n 0, 1) := by decide +kernel
theorem dX12_chain_20 : decode cX12_chain 20 = .ok (.getfield 233, 3) := by decide +kernel
theorem dX12_chain_23 : decode cX12_chain 23 = .ok (.ifCond .ne 10, 3) := by decide +kernel
theorem dX12_chain_26 : decode cX12_chain 26 = .ok (.aload_n 0, 1) := by decide +kernel
theorem dX12_chain_27 : decode cX12_chain 27 = .ok (.ldc 197, 2) := by decide +kernel
theorem dX12_chain_29 : decode cX12_chain 29 = .ok (.invokevirtual 177, 3) := by decide +kernel
theorem dX12_chain_32 : decode cX12_chain 32 = .ok (.ireturn, 1) := by decide +kernel
theorem dX12_chain_33 : decode cX12_chain 33 = .ok (.aload_n 0, 1) := by decide +kernel
theorem dX12_chain_34 : decode cX12_chain 34 = .ok (.invokevirtual 271, 3) := by decide +kernel
theorem dX12_chain_37 : decode cX12_chain 37 = .ok (.iconst (-1), 1) := by decide +kernel
theorem dX12_chain_38 : decode cX12_chain 38 = .ok (.istore_n 3, 1) := by decide +kernel
theorem dX12_chain_39 : decode cX12_chain 39 = .ok (.iconst 0, 1) := by decide +kernel
theorem dX12_chain_40 : decode cX12_chain 40 = .ok (.istore 4, 2) := by decide +kernel
theorem dX12_chain_42 : decode cX12_chain 42 = .ok (.iload 4, 2) := by decide +kernel
theorem dX12_chain_44 : decode cX12_chain 44 = .ok (.aload_n 0, 1) := by decide +kernel
theorem dX12_chain_45 : decode cX12_chain 45 = .ok (.getfield 230, 3) := by decide +kernel
theorem dX12_chain_48 : decode cX12_chain 48 = .ok (.if_icmp .ge 68, 3) := by decide +kernel
theorem dX12_chain_51 : decode cX12_chain 51 = .ok (.aload_n 0, 1) := by decide +kernel
theorem dX12_chain_52 : decode cX12_chain 52 = .ok (.iload 4, 2) := by decide +kernel
theorem dX12_chain_54 : decode cX12_chain 54 = .ok (.invokevirtual 274, 3) := by decide +kernel
theorem dX12_chain_57 : decode cX12_chain 57 = .ok (.ifCond .ne 6, 3) := by decide +kernel
theorem dX12_chain_60 : decode cX12_chain 60 = .ok (.goto 50, 3) := by decide +kernel
theorem dX12_chain_63 : decode cX12_chain 63 = .ok (.iinc 3 1, 3) := by decide +kernel
theorem dX12_chain_66 : decode cX12_chain 66 = .ok (.iload_n 3, 1) := by decide +kernel
theorem dX12_chain_67 : decode cX12_chain 67 = .ok (.iload_n 1, 1) := by decide +kernel
theorem dX12_chain_68 : decode cX12_chain 68 = .ok (.if_icmp .eq 6, 3) := by decide +kernel
theorem dX12_chain_71 : decode cX12_chain 71 = .ok (.goto 39, 3) := by decide +kernel
theorem dX12_chain_74 : decode cX12_chain 74 = .ok (.iload 4, 2) := by decide +kernel
theorem dX12_chain_76 : decode cX12_chain 76 = .ok (.istore 5, 2) := by decide +kernel
theorem dX12_chain_78 : decode cX12_chain 78 = .ok (.iconst 0, 1) := by decide +kernel
theorem dX12_chain_79 : decode cX12_chain 79 = .ok (.istore 6, 2) := by decide +kernel
theorem dX12_chain_81 : decode cX12_chain 81 = .ok (.iload 6, 2) := by decide +kernel
theorem dX12_chain_83 : decode cX12_chain 83 = .ok (.iload_n 2, 1) := by decide +kernel
theorem dX12_chain_84 : decode cX12_chain 84 = .ok (.if_icmp .ge 23, 3) := by decide +kernel
theorem dX12_chain_87 : decode cX12_chain 87 = .ok (.iload 5, 2) := by decide +kernel
theorem dX12_chain_89 : decode cX12_chain 89 = .ok (.ifCond .lt 18, 3) := by decide +kernel
theorem dX12_chain_92 : decode cX12_chain 92 = .ok (.aload_n 0, 1) := by decide +kernel
theorem dX12_chain_93 : decode cX12_chain 93 = .ok (.getfield 117, 3) := by decide +kernel
theorem dX12_chain_96 : decode cX12_chain 96 = .ok (.iload 5, 2) := by decide +kernel
theorem dX12_chain_98 : decode cX12_chain 98 = .ok (.iaload, 1) := by decide +kernel
theorem dX12_chain_99 : decode cX12_chain 99 = .ok (.istore 5, 2) := by decide +kernel
theorem dX12_chain_101 : decode cX12_chain 101 = .ok (.iinc 6 1, 3) := by decide +kernel
theorem dX12_chain_104 : decode cX12_chain 104 = .ok (.goto (-23), 3) := by decide +kernel
theorem dX12_chain_107 : decode cX12_chain 107 = .ok (.iload 5, 2) := by decide +kernel
theorem dX12_chain_109 : decode cX12_chain 109 = .ok (.ireturn, 1) := by decide +kernel
theorem dX12_chain_110 : decode cX12_chain 110 = .ok (.iinc 4 1, 3) := by decide +kernel
theorem dX12_chain_113 : decode cX12_chain 113 = .ok (.goto (-71), 3) := by decide +kernel
theorem dX12_chain_116 : decode cX12_chain 116 = .ok (.aload_n 0, 1) := by decide +kernel
theorem dX12_chain_117 : decode cX12_chain 117 = .ok (.ldc 197, 2) := by decide +kernel
theorem dX12_chain_119 : decode cX12_chain 119 = .ok (.invokevirtual 177, 3) := by decide +kernel
theorem dX12_chain_122 : decode cX12_chain 122 = .ok (.ireturn, 1) := by decide +kernel
theorem dX12_aides_0 : decode cX12_aides 0 = .ok (.aload_n 0, 1) := by decide +kernel
theorem dX12_aides_1 : decode cX12_aides 1 = .ok (.invokevirtual 243, 3) := by decide +kernel
theorem dX12_aides_4 : decode cX12_aides 4 = .ok (.aload_n 0, 1) := by decide +kernel
theorem dX12_aides_5 : decode cX12_aides 5 = .ok (.getfield 233, 3) := by decide +kernel
theorem dX12_aides_8 : decode cX12_aides 8 = .ok (.ifCond .ne 10, 3) := by decide +kernel
theorem dX12_aides_11 : decode cX12_aides 11 = .ok (.aload_n 0, 1) := by decide +kernel
theorem dX12_aides_12 : decode cX12_aides 12 = .ok (.ldc 197, 2) := by decide +kernel
theorem dX12_aides_14 : decode cX12_aides 14 = .ok (.invokevirtual 177, 3) := by decide +kernel
theorem dX12_aides_17 : decode cX12_aides 17 = .ok (.ireturn, 1) := by decide +kernel
theorem dX12_aides_18 : decode cX12_aides 18 = .ok (.aload_n 0, 1) := by decide +kernel
theorem dX12_aides_19 : decode cX12_aides 19 = .ok (.invokevirtual 271, 3) := by decide +kernel
theorem dX12_aides_22 : decode cX12_aides 22 = .ok (.iconst 0, 1) := by decide +kernel
theorem dX12_aides_23 : decode cX12_aides 23 = .ok (.istore_n 1, 1) := by decide +kernel
theorem dX12_aides_24 : decode cX12_aides 24 = .ok (.iconst 0, 1) := by decide +kernel
theorem dX12_aides_25 : decode cX12_aides 25 = .ok (.istore_n 2, 1) := by decide +kernel
theorem dX12_aides_26 : decode cX12_aides 26 = .ok (.iload_n 2, 1) := by decide +kernel
theorem dX12_aides_27 : decode cX12_aides 27 = .ok (.aload_n 0, 1) := by decide +kernel
theorem dX12_aides_28 : decode cX12_aides 28 = .ok (.getfield 230, 3) := by decide +kernel
theorem dX12_aides_31 : decode cX12_aides 31 = .ok (.if_icmp .ge 80, 3) := by decide +kernel
theorem dX12_aides_34 : decode cX12_aides 34 = .ok (.aload_n 0, 1) := by decide +kernel
theorem dX12_aides_35 : decode cX12_aides 35 = .ok (.iload_n 2, 1) := by decide +kernel
theorem dX12_aides_36 : decode cX12_aides 36 = .ok (.invokevirtual 274, 3) := by decide +kernel
theorem dX12_aides_39 : decode cX12_aides 39 = .ok (.ifCond .ne 6, 3) := by decide +kernel
theorem dX12_aides_42 : decode cX12_aides 42 = .ok (.goto 63, 3) := by decide +kernel
theorem dX12_aides_45 : decode cX12_aides 45 = .ok (.iconst 0, 1) := by decide +kernel
theorem dX12_aides_46 : decode cX12_aides 46 = .ok (.istore_n 3, 1) := by decide +kernel
theorem dX12_aides_47 : decode cX12_aides 47 = .ok (.iload_n 2, 1) := by decide +kernel
theorem dX12_aides_48 : decode cX12_aides 48 = .ok (.istore 4, 2) := by decide +kernel
theorem dX12_aides_50 : decode cX12_aides 50 = .ok (.iload 4, 2) := by decide +kernel
theorem dX12_aides_52 : decode cX12_aides 52 = .ok (.ifCond .lt 41, 3) := by decide +kernel
theorem dX12_aides_55 : decode cX12_aides 55 = .ok (.iload_n 3, 1) := by decide +kernel
theorem dX12_aides_56 : decode cX12_aides 56 = .ok (.ifCond .ne 19, 3) := by decide +kernel
theorem dX12_aides_59 : decode cX12_aides 59 = .ok (.aload_n 0, 1) := by decide +kernel
theorem dX12_aides_60 : decode cX12_aides 60 = .ok (.getfield 30, 3) := by decide +kernel
theorem dX12_aides_63 : decode cX12_aides 63 = .ok (.aload_n 0, 1) := by decide +kernel
theorem dX12_aides_64 : decode cX12_aides 64 = .ok (.getfield 96, 3) := by decide +kernel
theorem dX12_aides_67 : decode cX12_aides 67 = .ok (.iload 4, 2) := by decide +kernel
theorem dX12_aides_69 : decode cX12_aides 69 = .ok (.iaload, 1) := by decide +kernel
theorem dX12_aides_70 : decode cX12_aides 70 = .ok (.iaload, 1) := by decide +kernel
theorem dX12_aides_71 : decode cX12_aides 71 = .ok (.iconst 3, 1) := by decide +kernel
theorem dX12_aides_72 : decode cX12_aides 72 = .ok (.if_icmp .ne 7, 3) := by decide +kernel
theorem dX12_aides_75 : decode cX12_aides 75 = .ok (.iconst 1, 1) := by decide +kernel
theorem dX12_aides_76 : decode cX12_aides 76 = .ok (.goto 4, 3) := by decide +kernel
theorem dX12_aides_79 : decode cX12_aides 79 = .ok (.iconst 0, 1) := by decide +kernel
theorem dX12_aides_80 : decode cX12_aides 80 = .ok (.istore_n 3, 1) := by decide +kernel
theorem dX12_aides_81 : decode cX12_aides 81 = .ok (.aload_n 0, 1) := by decide +kernel
theorem dX12_aides_82 : decode cX12_aides 82 = .ok (.getfield 117, 3) := by decide +kernel
theorem dX12_aides_85 : decode cX12_aides 85 = .ok (.iload 4, 2) := by decide +kernel
theorem dX12_aides_87 : decode cX12_aides 87 = .ok (.iaload, 1) := by decide +kernel
theorem dX12_aides_88 : decode cX12_aides 88 = .ok (.istore 4, 2) := by decide +kernel
theorem dX12_aides_90 : decode cX12_aides 90 = .ok (.goto (-40), 3) := by decide +kernel
theorem dX12_aides_93 : decode cX12_aides 93 = .ok (.iload_n 1, 1) := by decide +kernel
theorem dX12_aides_94 : decode cX12_aides 94 = .ok (.iload_n 3, 1) := by decide +kernel
theorem dX12_aides_95 : decode cX12_aides 95 = .ok (.ifCond .eq 7, 3) := by decide +kernel
theorem dX12_aides_98 : decode cX12_aides 98 = .ok (.iconst 1, 1) := by decide +kernel
theorem dX12_aides_99 : decode cX12_aides 99 = .ok (.goto 4, 3) := by decide +kernel
theorem dX12_aides_102 : decode cX12_aides 102 = .ok (.iconst 0, 1) := by decide +kernel
theorem dX12_aides_103 : decode cX12_aides 103 = .ok (.iadd, 1) := by decide +kernel
theorem dX12_aides_104 : decode cX12_aides 104 = .ok (.istore_n 1, 1) := by decide +kernel
theorem dX12_aides_105 : decode cX12_aides 105 = .ok (.iinc 2 1, 3) := by decide +kernel
theorem dX12_aides_108 : decode cX12_aides 108 = .ok (.goto (-82), 3) := by decide +kernel
theorem dX12_aides_111 : decode cX12_aides 111 = .ok (.iload_n 1, 1) := by decide +kernel
theorem dX12_aides_112 : decode cX12_aides 112 = .ok (.ireturn, 1) := by decide +kernel
theorem dX12_feed_0 : decode cX12_feed 0 = .ok (.iload_n 3, 1) := by decide +kernel
theorem dX12_feed_1 : decode cX12_feed 1 = .ok (.iconst 1, 1) := by decide +kernel
theorem dX12_feed_2 : decode cX12_feed 2 = .ok (.bipush 8, 2) := by decide +kernel
theorem dX12_feed_4 : decode cX12_feed 4 = .ok (.invokestatic 159, 3) := by decide +kernel
theorem dX12_feed_7 : decode cX12_feed 7 = .ok (.ifCond .ne 10, 3) := by decide +kernel
theorem dX12_feed_10 : decode cX12_feed 10 = .ok (.aload_n 0, 1) := by decide +kernel
theorem dX12_feed_11 : decode cX12_feed 11 = .ok (.ldc 185, 2) := by decide +kernel
theorem dX12_feed_13 : decode cX12_feed 13 = .ok (.invokevirtual 177, 3) := by decide +kernel
theorem dX12_feed_16 : decode cX12_feed 16 = .ok (.ireturn, 1) := by decide +kernel
theorem dX12_feed_17 : decode cX12_feed 17 = .ok (.aload_n 0, 1) := by decide +kernel
theorem dX12_feed_18 : decode cX12_feed 18 = .ok (.getfield 277, 3) := by decide +kernel
theorem dX12_feed_21 : decode cX12_feed 21 = .ok (.iload_n 3, 1) := by decide +kernel
theorem dX12_feed_22 : decode cX12_feed 22 = .ok (.iadd, 1) := by decide +kernel
theorem dX12_feed_23 : decode cX12_feed 23 = .ok (.bipush 60, 2) := by decide +kernel
theorem dX12_feed_25 : decode cX12_feed 25 = .ok (.if_icmp .le 10, 3) := by decide +kernel
theorem dX12_feed_28 : decode cX12_feed 28 = .ok (.aload_n 0, 1) := by decide +kernel
theorem dX12_feed_29 : decode cX12_feed 29 = .ok (.ldc 176, 2) := by decide +kernel
theorem dX12_feed_31 : decode cX12_feed 31 = .ok (.invokevirtual 177, 3) := by decide +kernel
theorem dX12_feed_34 : decode cX12_feed 34 = .ok (.ireturn, 1) := by decide +kernel
theorem dX12_feed_35 : decode cX12_feed 35 = .ok (.iconst 0, 1) := by decide +kernel
theorem dX12_feed_36 : decode cX12_feed 36 = .ok (.istore 4, 2) := by decide +kernel
theorem dX12_feed_38 : decode cX12_feed 38 = .ok (.iload 4, 2) := by decide +kernel
theorem dX12_feed_40 : decode cX12_feed 40 = .ok (.iload_n 3, 1) := by decide +kernel
theorem dX12_feed_41 : decode cX12_feed 41 = .ok (.if_icmp .ge 40, 3) := by decide +kernel
theorem dX12_feed_44 : decode cX12_feed 44 = .ok (.aload_n 0, 1) := by decide +kernel
theorem dX12_feed_45 : decode cX12_feed 45 = .ok (.getfield 63, 3) := by decide +kernel
theorem dX12_feed_48 : decode cX12_feed 48 = .ok (.aload_n 0, 1) := by decide +kernel
theorem dX12_feed_49 : decode cX12_feed 49 = .ok (.getfield 277, 3) := by decide +kernel
theorem dX12_feed_52 : decode cX12_feed 52 = .ok (.lload_n 1, 1) := by decide +kernel
theorem dX12_feed_53 : decode cX12_feed 53 = .ok (.bipush 8, 2) := by decide +kernel
theorem dX12_feed_55 : decode cX12_feed 55 = .ok (.iload 4, 2) := by decide +kernel
theorem dX12_feed_57 : decode cX12_feed 57 = .ok (.imul, 1) := by decide +kernel
theorem dX12_feed_58 : decode cX12_feed 58 = .ok (.lshr, 1) := by decide +kernel
theorem dX12_feed_59 : decode cX12_feed 59 = .ok (.ldc2_w 280, 3) := by decide +kernel
theorem dX12_feed_62 : decode cX12_feed 62 = .ok (.land, 1) := by decide +kernel
theorem dX12_feed_63 : decode cX12_feed 63 = .ok (.l2i, 1) := by decide +kernel
theorem dX12_feed_64 : decode cX12_feed 64 = .ok (.iastore, 1) := by decide +kernel
theorem dX12_feed_65 : decode cX12_feed 65 = .ok (.aload_n 0, 1) := by decide +kernel
theorem dX12_feed_66 : decode cX12_feed 66 = .ok (.dup, 1) := by decide +kernel
theorem dX12_feed_67 : decode cX12_feed 67 = .ok (.getfield 277, 3) := by decide +kernel
theorem dX12_feed_70 : decode cX12_feed 70 = .ok (.iconst 1, 1) := by decide +kernel
theorem dX12_feed_71 : decode cX12_feed 71 = .ok (.iadd, 1) := by decide +kernel
theorem dX12_feed_72 : decode cX12_feed 72 = .ok (.putfield 277, 3) := by decide +kernel
theorem dX12_feed_75 : decode cX12_feed 75 = .ok (.iinc 4 1, 3) := by decide +kernel
theorem dX12_feed_78 : decode cX12_feed 78 = .ok (.goto (-40), 3) := by decide +kernel
theorem dX12_feed_81 : decode cX12_feed 81 = .ok (.aload_n 0, 1) := by decide +kernel
theorem dX12_feed_82 : decode cX12_feed 82 = .ok (.getfield 277, 3) := by decide +kernel
theorem dX12_feed_85 : decode cX12_feed 85 = .ok (.ireturn, 1) := by decide +kernel
theorem dX12_letterOf_0 : decode cX12_letterOf 0 = .ok (.iload_n 0, 1) := by decide +kernel
theorem dX12_letterOf_1 : decode cX12_letterOf 1 = .ok (.bipush 115, 2) := by decide +kernel
theorem dX12_letterOf_3 : decode cX12_letterOf 3 = .ok (.if_icmp .ne 7, 3) := by decide +kernel
theorem dX12_letterOf_6 : decode cX12_letterOf 6 = .ok (.iconst 0, 1) := by decide +kernel
theorem dX12_letterOf_7 : decode cX12_letterOf 7 = .ok (.goto 34, 3) := by decide +kernel
theorem dX12_letterOf_10 : decode cX12_letterOf 10 = .ok (.iload_n 0, 1) := by decide +kernel
theorem dX12_letterOf_11 : decode cX12_letterOf 11 = .ok (.bipush 108, 2) := by decide +kernel
theorem dX12_letterOf_13 : decode cX12_letterOf 13 = .ok (.if_icmp .ne 7, 3) := by decide +kernel
theorem dX12_letterOf_16 : decode cX12_letterOf 16 = .ok (.iconst 1, 1) := by decide +kernel
theorem dX12_letterOf_17 : decode cX12_letterOf 17 = .ok (.goto 24, 3) := by decide +kernel
theorem dX12_letterOf_20 : decode cX12_letterOf 20 = .ok (.iload_n 0, 1) := by decide +kernel
theorem dX12_letterOf_21 : decode cX12_letterOf 21 = .ok (.bipush 117, 2) := by decide +kernel
theorem dX12_letterOf_23 : decode cX12_letterOf 23 = .ok (.if_icmp .ne 7, 3) := by decide +kernel
theorem dX12_letterOf_26 : decode cX12_letterOf 26 = .ok (.iconst 2, 1) := by decide +kernel
theorem dX12_letterOf_27 : decode cX12_letterOf 27 = .ok (.goto 14, 3) := by decide +kernel
theorem dX12_letterOf_30 : decode cX12_letterOf 30 = .ok (.iload_n 0, 1) := by decide +kernel
theorem dX12_letterOf_31 : decode cX12_letterOf 31 = .ok (.bipush 120, 2) := by decide +kernel
theorem dX12_letterOf_33 : decode cX12_letterOf 33 = .ok (.if_icmp .ne 7, 3) := by decide +kernel
theorem dX12_letterOf_36 : decode cX12_letterOf 36 = .ok (.iconst 3, 1) := by decide +kernel
theorem dX12_letterOf_37 : decode cX12_letterOf 37 = .ok (.goto 4, 3) := by decide +kernel
theorem dX12_letterOf_40 : decode cX12_letterOf 40 = .ok (.iconst (-1), 1) := by decide +kernel
theorem dX12_letterOf_41 : decode cX12_letterOf 41 = .ok (.ireturn, 1) := by decide +kernel
theorem dX12_mayStand_0 : decode cX12_mayStand 0 = .ok (.aload_n 0, 1) := by decide +kernel
theorem dX12_mayStand_1 : decode cX12_mayStand 1 = .ok (.getfield 63, 3) := by decide +kernel
theorem dX12_mayStand_4 : decode cX12_mayStand 4 = .ok (.iload_n 1, 1) := by decide +kernel
theorem dX12_mayStand_5 : decode cX12_mayStand 5 = .ok (.iaload, 1) := by decide +kernel
theorem dX12_mayStand_6 : decode cX12_mayStand 6 = .ok (.istore_n 2, 1) := by decide +kernel
theorem dX12_mayStand_7 : decode cX12_mayStand 7 = .ok (.iload_n 1, 1) := by decide +kernel
theorem dX12_mayStand_8 : decode cX12_mayStand 8 = .ok (.iconst 5, 1) := by decide +kernel
theorem dX12_mayStand_9 : decode cX12_mayStand 9 = .ok (.irem, 1) := by decide +kernel
theorem dX12_mayStand_10 : decode cX12_mayStand 10 = .ok (.tableswitch 99 0 3 #[30, 49, 58, 70], 30) := by decide +kernel
theorem dX12_mayStand_40 : decode cX12_mayStand 40 = .ok (.iload_n 2, 1) := by decide +kernel
theorem dX12_mayStand_41 : decode cX12_mayStand 41 = .ok (.invokestatic 282, 3) := by decide +kernel
theorem dX12_mayStand_44 : decode cX12_mayStand 44 = .ok (.ifCond .lt 13, 3) := by decide +kernel
theorem dX12_mayStand_47 : decode cX12_mayStand 47 = .ok (.iload_n 1, 1) := by decide +kernel
theorem dX12_mayStand_48 : decode cX12_mayStand 48 = .ok (.bipush 40, 2) := by decide +kernel
theorem dX12_mayStand_50 : decode cX12_mayStand 50 = .ok (.if_icmp .ge 7, 3) := by decide +kernel
theorem dX12_mayStand_53 : decode cX12_mayStand 53 = .ok (.iconst 1, 1) := by decide +kernel
theorem dX12_mayStand_54 : decode cX12_mayStand 54 = .ok (.goto 4, 3) := by decide +kernel
theorem dX12_mayStand_57 : decode cX12_mayStand 57 = .ok (.iconst 0, 1) := by decide +kernel
theorem dX12_mayStand_58 : decode cX12_mayStand 58 = .ok (.ireturn, 1) := by decide +kernel
theorem dX12_mayStand_59 : decode cX12_mayStand 59 = .ok (.iload_n 2, 1) := by decide +kernel
theorem dX12_mayStand_60 : decode cX12_mayStand 60 = .ok (.bipush 48, 2) := by decide +kernel
theorem dX12_mayStand_62 : decode cX12_mayStand 62 = .ok (.bipush 54, 2) := by decide +kernel
theorem dX12_mayStand_64 : decode cX12_mayStand 64 = .ok (.invokestatic 159, 3) := by decide +kernel
theorem dX12_mayStand_67 : decode cX12_mayStand 67 = .ok (.ireturn, 1) := by decide +kernel
theorem dX12_mayStand_68 : decode cX12_mayStand 68 = .ok (.iload_n 2, 1) := by decide +kernel
theorem dX12_mayStand_69 : decode cX12_mayStand 69 = .ok (.bipush 45, 2) := by decide +kernel
theorem dX12_mayStand_71 : decode cX12_mayStand 71 = .ok (.if_icmp .ne 7, 3) := by decide +kernel
theorem dX12_mayStand_74 : decode cX12_mayStand 74 = .ok (.iconst 1, 1) := by decide +kernel
theorem dX12_mayStand_75 : decode cX12_mayStand 75 = .ok (.goto 4, 3) := by decide +kernel
theorem dX12_mayStand_78 : decode cX12_mayStand 78 = .ok (.iconst 0, 1) := by decide +kernel
theorem dX12_mayStand_79 : decode cX12_mayStand 79 = .ok (.ireturn, 1) := by decide +kernel
theorem dX12_mayStand_80 : decode cX12_mayStand 80 = .ok (.iload_n 2, 1) := by decide +kernel
theorem dX12_mayStand_81 : decode cX12_mayStand 81 = .ok (.bipush 48, 2) := by decide +kernel
theorem dX12_mayStand_83 : decode cX12_mayStand 83 = .ok (.bipush 54, 2) := by decide +kernel
theorem dX12_mayStand_85 : decode cX12_mayStand 85 = .ok (.invokestatic 159, 3) := by decide +kernel
theorem dX12_mayStand_88 : decode cX12_mayStand 88 = .ok (.ifCond .eq 19, 3) := by decide +kernel
theorem dX12_mayStand_91 : decode cX12_mayStand 91 = .ok (.iload_n 2, 1) := by decide +kernel
theorem dX12_mayStand_92 : decode cX12_mayStand 92 = .ok (.aload_n 0, 1) := by decide +kernel
theorem dX12_mayStand_93 : decode cX12_mayStand 93 = .ok (.getfield 63, 3) := by decide +kernel
theorem dX12_mayStand_96 : decode cX12_mayStand 96 = .ok (.iload_n 1, 1) := by decide +kernel
theorem dX12_mayStand_97 : decode cX12_mayStand 97 = .ok (.iconst 2, 1) := by decide +kernel
theorem dX12_mayStand_98 : decode cX12_mayStand 98 = .ok (.isub, 1) := by decide +kernel
theorem dX12_mayStand_99 : decode cX12_mayStand 99 = .ok (.iaload, 1) := by decide +kernel
theorem dX12_mayStand_100 : decode cX12_mayStand 100 = .ok (.if_icmp .lt 7, 3) := by decide +kernel
theorem dX12_mayStand_103 : decode cX12_mayStand 103 = .ok (.iconst 1, 1) := by decide +kernel
theorem dX12_mayStand_104 : decode cX12_mayStand 104 = .ok (.goto 4, 3) := by decide +kernel
theorem dX12_mayStand_107 : decode cX12_mayStand 107 = .ok (.iconst 0, 1) := by decide +kernel
theorem dX12_mayStand_108 : decode cX12_mayStand 108 = .ok (.ireturn, 1) := by decide +kernel
theorem dX12_mayStand_109 : decode cX12_mayStand 109 = .ok (.iload_n 2, 1) := by decide +kernel
theorem dX12_mayStand_110 : decode cX12_mayStand 110 = .ok (.bipush 59, 2) := by decide +kernel
theorem dX12_mayStand_112 : decode cX12_mayStand 112 = .ok (.if_icmp .ne 7, 3) := by decide +kernel
theorem dX12_mayStand_115 : decode cX12_mayStand 115 = .ok (.iconst 1, 1) := by decide +kernel
theorem dX12_mayStand_116 : decode cX12_mayStand 116 = .ok (.goto 4, 3) := by decide +kernel
theorem dX12_mayStand_119 : decode cX12_mayStand 119 = .ok (.iconst 0, 1) := by decide +kernel
theorem dX12_mayStand_120 : decode cX12_mayStand 120 = .ok (.ireturn, 1) := by decide +kernel
theorem dX12_text_0 : decode cX12_text 0 = .ok (.aload_n 0, 1) := by decide +kernel
theorem dX12_text_1 : decode cX12_text 1 = .ok (.getfield 277, 3) := by decide +kernel
theorem dX12_text_4 : decode cX12_text 4 = .ok (.istore_n 1, 1) := by decide +kernel
theorem dX12_text_5 : decode cX12_text 5 = .ok (.aload_n 0, 1) := by decide +kernel
theorem dX12_text_6 : decode cX12_text 6 = .ok (.iconst 0, 1) := by decide +kernel
theorem dX12_text_7 : decode cX12_text 7 = .ok (.putfield 277, 3) := by decide +kernel
theorem dX12_text_10 : decode cX12_text 10 = .ok (.iconst 0, 1) := by decide +kernel
theorem dX12_text_11 : decode cX12_text 11 = .ok (.istore_n 2, 1) := by decide +kernel
theorem dX12_text_12 : decode cX12_text 12 = .ok (.iload_n 2, 1) := by decide +kernel
theorem dX12_text_13 : decode cX12_text 13 = .ok (.iload_n 1, 1) := by decide +kernel
theorem dX12_text_14 : decode cX12_text 14 = .ok (.if_icmp .ge 27, 3) := by decide +kernel
theorem dX12_text_17 : decode cX12_text 17 = .ok (.aload_n 0, 1) := by decide +kernel
theorem dX12_text_18 : decode cX12_text 18 = .ok (.iload_n 2, 1) := by decide +kernel
theorem dX12_text_19 : decode cX12_text 19 = .ok (.invokevirtual 285, 3) := by decide +kernel
theorem dX12_text_22 : decode cX12_text 22 = .ok (.ifCond .ne 13, 3) := by decide +kernel
theorem dX12_text_25 : decode cX12_text 25 = .ok (.aload_n 0, 1) := by decide +kernel
theorem dX12_text_26 : decode cX12_text 26 = .ok (.ldc_w 288, 3) := by decide +kernel
theorem dX12_text_29 : decode cX12_text 29 = .ok (.iload_n 2, 1) := by decide +kernel
theorem dX12_text_30 : decode cX12_text 30 = .ok (.isub, 1) := by decide +kernel
theorem dX12_text_31 : decode cX12_text 31 = .ok (.invokevirtual 177, 3) := by decide +kernel
theorem dX12_text_34 : decode cX12_text 34 = .ok (.ireturn, 1) := by decide +kernel
theorem dX12_text_35 : decode cX12_text 35 = .ok (.iinc 2 1, 3) := by decide +kernel
theorem dX12_text_38 : decode cX12_text 38 = .ok (.goto (-26), 3) := by decide +kernel
theorem dX12_text_41 : decode cX12_text 41 = .ok (.iload_n 1, 1) := by decide +kernel
theorem dX12_text_42 : decode cX12_text 42 = .ok (.iconst 5, 1) := by decide +kernel
theorem dX12_text_43 : decode cX12_text 43 = .ok (.irem, 1) := by decide +kernel
theorem dX12_text_44 : decode cX12_text 44 = .ok (.ifCond .eq 13, 3) := by decide +kernel
theorem dX12_text_47 : decode cX12_text 47 = .ok (.aload_n 0, 1) := by decide +kernel
theorem dX12_text_48 : decode cX12_text 48 = .ok (.ldc_w 288, 3) := by decide +kernel
theorem dX12_text_51 : decode cX12_text 51 = .ok (.iload_n 1, 1) := by decide +kernel
theorem dX12_text_52 : decode cX12_text 52 = .ok (.isub, 1) := by decide +kernel
theorem dX12_text_53 : decode cX12_text 53 = .ok (.invokevirtual 177, 3) := by decide +kernel
theorem dX12_text_56 : decode cX12_text 56 = .ok (.ireturn, 1) := by decide +kernel
theorem dX12_text_57 : decode cX12_text 57 = .ok (.aload_n 0, 1) := by decide +kernel
theorem dX12_text_58 : decode cX12_text 58 = .ok (.iload_n 1, 1) := by decide +kernel
theorem dX12_text_59 : decode cX12_text 59 = .ok (.iconst 5, 1) := by decide +kernel
theorem dX12_text_60 : decode cX12_text 60 = .ok (.idiv, 1) := by decide +kernel
theorem dX12_text_61 : decode cX12_text 61 = .ok (.putfield 289, 3) := by decide +kernel
theorem dX12_text_64 : decode cX12_text 64 = .ok (.iconst 0, 1) := by decide +kernel
theorem dX12_text_65 : decode cX12_text 65 = .ok (.istore_n 2, 1) := by decide +kernel
theorem dX12_text_66 : decode cX12_text 66 = .ok (.iload_n 2, 1) := by decide +kernel
theorem dX12_text_67 : decode cX12_text 67 = .ok (.aload_n 0, 1) := by decide +kernel
theorem dX12_text_68 : decode cX12_text 68 = .ok (.getfield 289, 3) := by decide +kernel
theorem dX12_text_71 : decode cX12_text 71 = .ok (.if_icmp .ge 64, 3) := by decide +kernel
theorem dX12_text_74 : decode cX12_text 74 = .ok (.aload_n 0, 1) := by decide +kernel
theorem dX12_text_75 : decode cX12_text 75 = .ok (.getfield 54, 3) := by decide +kernel
theorem dX12_text_78 : decode cX12_text 78 = .ok (.iload_n 2, 1) := by decide +kernel
theorem dX12_text_79 : decode cX12_text 79 = .ok (.aload_n 0, 1) := by decide +kernel
theorem dX12_text_80 : decode cX12_text 80 = .ok (.getfield 63, 3) := by decide +kernel
theorem dX12_text_83 : decode cX12_text 83 = .ok (.iconst 5, 1) := by decide +kernel
theorem dX12_text_84 : decode cX12_text 84 = .ok (.iload_n 2, 1) := by decide +kernel
theorem dX12_text_85 : decode cX12_text 85 = .ok (.imul, 1) := by decide +kernel
theorem dX12_text_86 : decode cX12_text 86 = .ok (.iaload, 1) := by decide +kernel
theorem dX12_text_87 : decode cX12_text 87 = .ok (.invokestatic 282, 3) := by decide +kernel
theorem dX12_text_90 : decode cX12_text 90 = .ok (.iastore, 1) := by decide +kernel
theorem dX12_text_91 : decode cX12_text 91 = .ok (.aload_n 0, 1) := by decide +kernel
theorem dX12_text_92 : decode cX12_text 92 = .ok (.getfield 57, 3) := by decide +kernel
theorem dX12_text_95 : decode cX12_text 95 = .ok (.iload_n 2, 1) := by decide +kernel
theorem dX12_text_96 : decode cX12_text 96 = .ok (.aload_n 0, 1) := by decide +kernel
theorem dX12_text_97 : decode cX12_text 97 = .ok (.getfield 63, 3) := by decide +kernel
theorem dX12_text_100 : decode cX12_text 100 = .ok (.iconst 5, 1) := by decide +kernel
theorem dX12_text_101 : decode cX12_text 101 = .ok (.iload_n 2, 1) := by decide +kernel
theorem dX12_text_102 : decode cX12_text 102 = .ok (.imul, 1) := by decide +kernel
theorem dX12_text_103 : decode cX12_text 103 = .ok (.iconst 1, 1) := by decide +kernel
theorem dX12_text_104 : decode cX12_text 104 = .ok (.iadd, 1) := by decide +kernel
theorem dX12_text_105 : decode cX12_text 105 = .ok (.iaload, 1) := by decide +kernel
theorem dX12_text_106 : decode cX12_text 106 = .ok (.bipush 48, 2) := by decide +kernel
theorem dX12_text_108 : decode cX12_text 108 = .ok (.isub, 1) := by decide +kernel
theorem dX12_text_109 : decode cX12_text 109 = .ok (.iastore, 1) := by decide +kernel
theorem dX12_text_110 : decode cX12_text 110 = .ok (.aload_n 0, 1) := by decide +kernel
theorem dX12_text_111 : decode cX12_text 111 = .ok (.getfield 60, 3) := by decide +kernel
theorem dX12_text_114 : decode cX12_text 114 = .ok (.iload_n 2, 1) := by decide +kernel
theorem dX12_text_115 : decode cX12_text 115 = .ok (.aload_n 0, 1) := by decide +kernel
theorem dX12_text_116 : decode cX12_text 116 = .ok (.getfield 63, 3) := by decide +kernel
theorem dX12_text_119 : decode cX12_text 119 = .ok (.iconst 5, 1) := by decide +kernel
theorem dX12_text_120 : decode cX12_text 120 = .ok (.iload_n 2, 1) := by decide +kernel
theorem dX12_text_121 : decode cX12_text 121 = .ok (.imul, 1) := by decide +kernel
theorem dX12_text_122 : decode cX12_text 122 = .ok (.iconst 3, 1) := by decide +kernel
theorem dX12_text_123 : decode cX12_text 123 = .ok (.iadd, 1) := by decide +kernel
theorem dX12_text_124 : decode cX12_text 124 = .ok (.iaload, 1) := by decide +kernel
theorem dX12_text_125 : decode cX12_text 125 = .ok (.bipush 48, 2) := by decide +kernel
theorem dX12_text_127 : decode cX12_text 127 = .ok (.isub, 1) := by decide +kernel
theorem dX12_text_128 : decode cX12_text 128 = .ok (.iastore, 1) := by decide +kernel
theorem dX12_text_129 : decode cX12_text 129 = .ok (.iinc 2 1, 3) := by decide +kernel
theorem dX12_text_132 : decode cX12_text 132 = .ok (.goto (-66), 3) := by decide +kernel
theorem dX12_text_135 : decode cX12_text 135 = .ok (.aload_n 0, 1) := by decide +kernel
theorem dX12_text_136 : decode cX12_text 136 = .ok (.invokevirtual 189, 3) := by decide +kernel
theorem dX12_text_139 : decode cX12_text 139 = .ok (.aload_n 0, 1) := by decide +kernel
theorem dX12_text_140 : decode cX12_text 140 = .ok (.getfield 289, 3) := by decide +kernel
theorem dX12_text_143 : decode cX12_text 143 = .ok (.ireturn, 1) := by decide +kernel
theorem dX12_isAllowed_0 : decode cX12_isAllowed 0 = .ok (.iconst 0, 1) := by decide +kernel
theorem dX12_isAllowed_1 : decode cX12_isAllowed 1 = .ok (.istore_n 3, 1) := by decide +kernel
theorem dX12_isAllowed_2 : decode cX12_isAllowed 2 = .ok (.iload_n 3, 1) := by decide +kernel
theorem dX12_isAllowed_3 : decode cX12_isAllowed 3 = .ok (.aload_n 0, 1) := by decide +kernel
theorem dX12_isAllowed_4 : decode cX12_isAllowed 4 = .ok (.getfield 289, 3) := by decide +kernel
theorem dX12_isAllowed_7 : decode cX12_isAllowed 7 = .ok (.if_icmp .ge 48, 3) := by decide +kernel
theorem dX12_isAllowed_10 : decode cX12_isAllowed 10 = .ok (.aload_n 0, 1) := by decide +kernel
theorem dX12_isAllowed_11 : decode cX12_isAllowed 11 = .ok (.getfield 30, 3) := by decide +kernel
theorem dX12_isAllowed_14 : decode cX12_isAllowed 14 = .ok (.iload_n 1, 1) := by decide +kernel
theorem dX12_isAllowed_15 : decode cX12_isAllowed 15 = .ok (.iaload, 1) := by decide +kernel
theorem dX12_isAllowed_16 : decode cX12_isAllowed 16 = .ok (.aload_n 0, 1) := by decide +kernel
theorem dX12_isAllowed_17 : decode cX12_isAllowed 17 = .ok (.getfield 54, 3) := by decide +kernel
theorem dX12_isAllowed_20 : decode cX12_isAllowed 20 = .ok (.iload_n 3, 1) := by decide +kernel
theorem dX12_isAllowed_21 : decode cX12_isAllowed 21 = .ok (.iaload, 1) := by decide +kernel
theorem dX12_isAllowed_22 : decode cX12_isAllowed 22 = .ok (.invokestatic 201, 3) := by decide +kernel
theorem dX12_isAllowed_25 : decode cX12_isAllowed 25 = .ok (.ifCond .eq 24, 3) := by decide +kernel
theorem dX12_isAllowed_28 : decode cX12_isAllowed 28 = .ok (.iload_n 2, 1) := by decide +kernel
theorem dX12_isAllowed_29 : decode cX12_isAllowed 29 = .ok (.aload_n 0, 1) := by decide +kernel
theorem dX12_isAllowed_30 : decode cX12_isAllowed 30 = .ok (.getfield 57, 3) := by decide +kernel
theorem dX12_isAllowed_33 : decode cX12_isAllowed 33 = .ok (.iload_n 3, 1) := by decide +kernel
theorem dX12_isAllowed_34 : decode cX12_isAllowed 34 = .ok (.iaload, 1) := by decide +kernel
theorem dX12_isAllowed_35 : decode cX12_isAllowed 35 = .ok (.aload_n 0, 1) := by decide +kernel
theorem dX12_isAllowed_36 : decode cX12_isAllowed 36 = .ok (.getfield 60, 3) := by decide +kernel
theorem dX12_isAllowed_39 : decode cX12_isAllowed 39 = .ok (.iload_n 3, 1) := by decide +kernel
theorem dX12_isAllowed_40 : decode cX12_isAllowed 40 = .ok (.iaload, 1) := by decide +kernel
theorem dX12_isAllowed_41 : decode cX12_isAllowed 41 = .ok (.invokestatic 159, 3) := by decide +kernel
theorem dX12_isAllowed_44 : decode cX12_isAllowed 44 = .ok (.ifCond .ne 5, 3) := by decide +kernel
theorem dX12_isAllowed_47 : decode cX12_isAllowed 47 = .ok (.iconst 0, 1) := by decide +kernel
theorem dX12_isAllowed_48 : decode cX12_isAllowed 48 = .ok (.ireturn, 1) := by decide +kernel
theorem dX12_isAllowed_49 : decode cX12_isAllowed 49 = .ok (.iinc 3 1, 3) := by decide +kernel
theorem dX12_isAllowed_52 : decode cX12_isAllowed 52 = .ok (.goto (-50), 3) := by decide +kernel
theorem dX12_isAllowed_55 : decode cX12_isAllowed 55 = .ok (.iconst 1, 1) := by decide +kernel
theorem dX12_isAllowed_56 : decode cX12_isAllowed 56 = .ok (.ireturn, 1) := by decide +kernel
theorem dX12_allowed_0 : decode cX12_allowed 0 = .ok (.aload_n 0, 1) := by decide +kernel
theorem dX12_allowed_1 : decode cX12_allowed 1 = .ok (.iload_n 1, 1) := by decide +kernel
theorem dX12_allowed_2 : decode cX12_allowed 2 = .ok (.invokevirtual 198, 3) := by decide +kernel
theorem dX12_allowed_5 : decode cX12_allowed 5 = .ok (.ifCond .eq 13, 3) := by decide +kernel
theorem dX12_allowed_8 : decode cX12_allowed 8 = .ok (.iload_n 2, 1) := by decide +kernel
theorem dX12_allowed_9 : decode cX12_allowed 9 = .ok (.iconst 0, 1) := by decide +kernel
theorem dX12_allowed_10 : decode cX12_allowed 10 = .ok (.bipush 6, 2) := by decide +kernel
theorem dX12_allowed_12 : decode cX12_allowed 12 = .ok (.invokestatic 159, 3) := by decide +kernel
theorem dX12_allowed_15 : decode cX12_allowed 15 = .ok (.ifCond .ne 10, 3) := by decide +kernel
theorem dX12_allowed_18 : decode cX12_allowed 18 = .ok (.aload_n 0, 1) := by decide +kernel
theorem dX12_allowed_19 : decode cX12_allowed 19 = .ok (.ldc 185, 2) := by decide +kernel
theorem dX12_allowed_21 : decode cX12_allowed 21 = .ok (.invokevirtual 177, 3) := by decide +kernel
theorem dX12_allowed_24 : decode cX12_allowed 24 = .ok (.ireturn, 1) := by decide +kernel
theorem dX12_allowed_25 : decode cX12_allowed 25 = .ok (.aload_n 0, 1) := by decide +kernel
theorem dX12_allowed_26 : decode cX12_allowed 26 = .ok (.iload_n 1, 1) := by decide +kernel
theorem dX12_allowed_27 : decode cX12_allowed 27 = .ok (.iload_n 2, 1) := by decide +kernel
theorem dX12_allowed_28 : decode cX12_allowed 28 = .ok (.invokevirtual 292, 3) := by decide +kernel
theorem dX12_allowed_31 : decode cX12_allowed 31 = .ok (.ifCond .eq 7, 3) := by decide +kernel
theorem dX12_allowed_34 : decode cX12_allowed 34 = .ok (.iconst 1, 1) := by decide +kernel
theorem dX12_allowed_35 : decode cX12_allowed 35 = .ok (.goto 4, 3) := by decide +kernel
theorem dX12_allowed_38 : decode cX12_allowed 38 = .ok (.iconst 0, 1) := by decide +kernel
theorem dX12_allowed_39 : decode cX12_allowed 39 = .ok (.ireturn, 1) := by decide +kernel
theorem dX12_costOf_0 : decode cX12_costOf 0 = .ok (.iconst 0, 1) := by decide +kernel
theorem dX12_costOf_1 : decode cX12_costOf 1 = .ok (.istore_n 1, 1) := by decide +kernel
theorem dX12_costOf_2 : decode cX12_costOf 2 = .ok (.iconst 0, 1) := by decide +kernel
theorem dX12_costOf_3 : decode cX12_costOf 3 = .ok (.istore_n 2, 1) := by decide +kernel
theorem dX12_costOf_4 : decode cX12_costOf 4 = .ok (.iload_n 2, 1) := by decide +kernel
theorem dX12_costOf_5 : decode cX12_costOf 5 = .ok (.aload_n 0, 1) := by decide +kernel
theorem dX12_costOf_6 : decode cX12_costOf 6 = .ok (.getfield 163, 3) := by decide +kernel
theorem dX12_costOf_9 : decode cX12_costOf 9 = .ok (.if_icmp .ge 49, 3) := by decide +kernel
theorem dX12_costOf_12 : decode cX12_costOf 12 = .ok (.aload_n 0, 1) := by decide +kernel
theorem dX12_costOf_13 : decode cX12_costOf 13 = .ok (.getfield 108, 3) := by decide +kernel
theorem dX12_costOf_16 : decode cX12_costOf 16 = .ok (.iload_n 2, 1) := by decide +kernel
theorem dX12_costOf_17 : decode cX12_costOf 17 = .ok (.iaload, 1) := by decide +kernel
theorem dX12_costOf_18 : decode cX12_costOf 18 = .ok (.aload_n 0, 1) := by decide +kernel
theorem dX12_costOf_19 : decode cX12_costOf 19 = .ok (.getfield 39, 3) := by decide +kernel
theorem dX12_costOf_22 : decode cX12_costOf 22 = .ok (.iload_n 2, 1) := by decide +kernel
theorem dX12_costOf_23 : decode cX12_costOf 23 = .ok (.iaload, 1) := by decide +kernel
theorem dX12_costOf_24 : decode cX12_costOf 24 = .ok (.isub, 1) := by decide +kernel
theorem dX12_costOf_25 : decode cX12_costOf 25 = .ok (.istore_n 3, 1) := by decide +kernel
theorem dX12_costOf_26 : decode cX12_costOf 26 = .ok (.iload_n 1, 1) := by decide +kernel
theorem dX12_costOf_27 : decode cX12_costOf 27 = .ok (.bipush 20, 2) := by decide +kernel
theorem dX12_costOf_29 : decode cX12_costOf 29 = .ok (.aload_n 0, 1) := by decide +kernel
theorem dX12_costOf_30 : decode cX12_costOf 30 = .ok (.aload_n 0, 1) := by decide +kernel
theorem dX12_costOf_31 : decode cX12_costOf 31 = .ok (.iload_n 2, 1) := by decide +kernel
theorem dX12_costOf_32 : decode cX12_costOf 32 = .ok (.invokevirtual 209, 3) := by decide +kernel
theorem dX12_costOf_35 : decode cX12_costOf 35 = .ok (.invokevirtual 215, 3) := by decide +kernel
theorem dX12_costOf_38 : decode cX12_costOf 38 = .ok (.imul, 1) := by decide +kernel
theorem dX12_costOf_39 : decode cX12_costOf 39 = .ok (.iload_n 3, 1) := by decide +kernel
theorem dX12_costOf_40 : decode cX12_costOf 40 = .ok (.ifCond .ge 8, 3) := by decide +kernel
theorem dX12_costOf_43 : decode cX12_costOf 43 = .ok (.iload_n 3, 1) := by decide +kernel
theorem dX12_costOf_44 : decode cX12_costOf 44 = .ok (.ineg, 1) := by decide +kernel
theorem dX12_costOf_45 : decode cX12_costOf 45 = .ok (.goto 4, 3) := by decide +kernel
theorem dX12_costOf_48 : decode cX12_costOf 48 = .ok (.iload_n 3, 1) := by decide +kernel
theorem dX12_costOf_49 : decode cX12_costOf 49 = .ok (.imul, 1) := by decide +kernel
theorem dX12_costOf_50 : decode cX12_costOf 50 = .ok (.iadd, 1) := by decide +kernel
theorem dX12_costOf_51 : decode cX12_costOf 51 = .ok (.istore_n 1, 1) := by decide +kernel
theorem dX12_costOf_52 : decode cX12_costOf 52 = .ok (.iinc 2 1, 3) := by decide +kernel
theorem dX12_costOf_55 : decode cX12_costOf 55 = .ok (.goto (-51), 3) := by decide +kernel
theorem dX12_costOf_58 : decode cX12_costOf 58 = .ok (.iload_n 1, 1) := by decide +kernel
theorem dX12_costOf_59 : decode cX12_costOf 59 = .ok (.ireturn, 1) := by decide +kernel
theorem dX12_cost_0 : decode cX12_cost 0 = .ok (.aload_n 0, 1) := by decide +kernel
theorem dX12_cost_1 : decode cX12_cost 1 = .ok (.invokevirtual 262, 3) := by decide +kernel
theorem dX12_cost_4 : decode cX12_cost 4 = .ok (.aload_n 0, 1) := by decide +kernel
theorem dX12_cost_5 : decode cX12_cost 5 = .ok (.invokevirtual 295, 3) := by decide +kernel
theorem dX12_cost_8 : decode cX12_cost 8 = .ok (.ireturn, 1) := by decide +kernel
theorem dX12_fewest_0 : decode cX12_fewest 0 = .ok (.aload_n 0, 1) := by decide +kernel
theorem dX12_fewest_1 : decode cX12_fewest 1 = .ok (.invokevirtual 268, 3) := by decide +kernel
theorem dX12_fewest_4 : decode cX12_fewest 4 = .ok (.iconst 0, 1) := by decide +kernel
theorem dX12_fewest_5 : decode cX12_fewest 5 = .ok (.istore_n 1, 1) := by decide +kernel
theorem dX12_fewest_6 : decode cX12_fewest 6 = .ok (.iload_n 1, 1) := by decide +kernel
theorem dX12_fewest_7 : decode cX12_fewest 7 = .ok (.aload_n 0, 1) := by decide +kernel
theorem dX12_fewest_8 : decode cX12_fewest 8 = .ok (.getfield 230, 3) := by decide +kernel
theorem dX12_fewest_11 : decode cX12_fewest 11 = .ok (.if_icmp .ge 16, 3) := by decide +kernel
theorem dX12_fewest_14 : decode cX12_fewest 14 = .ok (.aload_n 0, 1) := by decide +kernel
theorem dX12_fewest_15 : decode cX12_fewest 15 = .ok (.getfield 120, 3) := by decide +kernel
theorem dX12_fewest_18 : decode cX12_fewest 18 = .ok (.iload_n 1, 1) := by decide +kernel
theorem dX12_fewest_19 : decode cX12_fewest 19 = .ok (.iconst (-1), 1) := by decide +kernel
theorem dX12_fewest_20 : decode cX12_fewest 20 = .ok (.iastore, 1) := by decide +kernel
theorem dX12_fewest_21 : decode cX12_fewest 21 = .ok (.iinc 1 1, 3) := by decide +kernel
theorem dX12_fewest_24 : decode cX12_fewest 24 = .ok (.goto (-18), 3) := by decide +kernel
theorem dX12_fewest_27 : decode cX12_fewest 27 = .ok (.aload_n 0, 1) := by decide +kernel
theorem dX12_fewest_28 : decode cX12_fewest 28 = .ok (.getfield 230, 3) := by decide +kernel
theorem dX12_fewest_31 : decode cX12_fewest 31 = .ok (.istore_n 1, 1) := by decide +kernel
theorem dX12_fewest_32 : decode cX12_fewest 32 = .ok (.iconst 0, 1) := by decide +kernel
theorem dX12_fewest_33 : decode cX12_fewest 33 = .ok (.istore_n 2, 1) := by decide +kernel
theorem dX12_fewest_34 : decode cX12_fewest 34 = .ok (.iload_n 2, 1) := by decide +kernel
theorem dX12_fewest_35 : decode cX12_fewest 35 = .ok (.aload_n 0, 1) := by decide +kernel
theorem dX12_fewest_36 : decode cX12_fewest 36 = .ok (.getfield 230, 3) := by decide +kernel
theorem dX12_fewest_39 : decode cX12_fewest 39 = .ok (.if_icmp .ge 20, 3) := by decide +kernel
theorem dX12_fewest_42 : decode cX12_fewest 42 = .ok (.aload_n 0, 1) := by decide +kernel
theorem dX12_fewest_43 : decode cX12_fewest 43 = .ok (.iload_n 2, 1) := by decide +kernel
theorem dX12_fewest_44 : decode cX12_fewest 44 = .ok (.invokevirtual 299, 3) := by decide +kernel
theorem dX12_fewest_47 : decode cX12_fewest 47 = .ok (.ifCond .eq 6, 3) := by decide +kernel
theorem dX12_fewest_50 : decode cX12_fewest 50 = .ok (.iinc 1 (-1), 3) := by decide +kernel
theorem dX12_fewest_53 : decode cX12_fewest 53 = .ok (.iinc 2 1, 3) := by decide +kernel
theorem dX12_fewest_56 : decode cX12_fewest 56 = .ok (.goto (-22), 3) := by decide +kernel
theorem dX12_fewest_59 : decode cX12_fewest 59 = .ok (.iload_n 1, 1) := by decide +kernel
theorem dX12_fewest_60 : decode cX12_fewest 60 = .ok (.ireturn, 1) := by decide +kernel
theorem dX12_isFound_0 : decode cX12_isFound 0 = .ok (.iconst 0, 1) := by decide +kernel
theorem dX12_isFound_1 : decode cX12_isFound 1 = .ok (.istore_n 2, 1) := by decide +kernel
theorem dX12_isFound_2 : decode cX12_isFound 2 = .ok (.iload_n 2, 1) := by decide +kernel
theorem dX12_isFound_3 : decode cX12_isFound 3 = .ok (.aload_n 0, 1) := by decide +kernel
theorem dX12_isFound_4 : decode cX12_isFound 4 = .ok (.getfield 230, 3) := by decide +kernel
theorem dX12_isFound_7 : decode cX12_isFound 7 = .ok (.if_icmp .ge 16, 3) := by decide +kernel
theorem dX12_isFound_10 : decode cX12_isFound 10 = .ok (.aload_n 0, 1) := by decide +kernel
theorem dX12_isFound_11 : decode cX12_isFound 11 = .ok (.getfield 123, 3) := by decide +kernel
theorem dX12_isFound_14 : decode cX12_isFound 14 = .ok (.iload_n 2, 1) := by decide +kernel
theorem dX12_isFound_15 : decode cX12_isFound 15 = .ok (.iconst (-1), 1) := by decide +kernel
theorem dX12_isFound_16 : decode cX12_isFound 16 = .ok (.iastore, 1) := by decide +kernel
theorem dX12_isFound_17 : decode cX12_isFound 17 = .ok (.iinc 2 1, 3) := by decide +kernel
theorem dX12_isFound_20 : decode cX12_isFound 20 = .ok (.goto (-18), 3) := by decide +kernel
theorem dX12_isFound_23 : decode cX12_isFound 23 = .ok (.iconst 1, 1) := by decide +kernel
theorem dX12_isFound_24 : decode cX12_isFound 24 = .ok (.istore_n 2, 1) := by decide +kernel
theorem dX12_isFound_25 : decode cX12_isFound 25 = .ok (.aload_n 0, 1) := by decide +kernel
theorem dX12_isFound_26 : decode cX12_isFound 26 = .ok (.getfield 126, 3) := by decide +kernel
theorem dX12_isFound_29 : decode cX12_isFound 29 = .ok (.iconst 0, 1) := by decide +kernel
theorem dX12_isFound_30 : decode cX12_isFound 30 = .ok (.iload_n 1, 1) := by decide +kernel
theorem dX12_isFound_31 : decode cX12_isFound 31 = .ok (.iastore, 1) := by decide +kernel
theorem dX12_isFound_32 : decode cX12_isFound 32 = .ok (.iconst 0, 1) := by decide +kernel
theorem dX12_isFound_33 : decode cX12_isFound 33 = .ok (.istore_n 3, 1) := by decide +kernel
theorem dX12_isFound_34 : decode cX12_isFound 34 = .ok (.iconst 0, 1) := by decide +kernel
theorem dX12_isFound_35 : decode cX12_isFound 35 = .ok (.istore 4, 2) := by decide +kernel
theorem dX12_isFound_37 : decode cX12_isFound 37 = .ok (.iload_n 3, 1) := by decide +kernel
theorem dX12_isFound_38 : decode cX12_isFound 38 = .ok (.iload_n 2, 1) := by decide +kernel
theorem dX12_isFound_39 : decode cX12_isFound 39 = .ok (.if_icmp .ge 119, 3) := by decide +kernel
theorem dX12_isFound_42 : decode cX12_isFound 42 = .ok (.aload_n 0, 1) := by decide +kernel
theorem dX12_isFound_43 : decode cX12_isFound 43 = .ok (.getfield 126, 3) := by decide +kernel
theorem dX12_isFound_46 : decode cX12_isFound 46 = .ok (.iload_n 3, 1) := by decide +kernel
theorem dX12_isFound_47 : decode cX12_isFound 47 = .ok (.iaload, 1) := by decide +kernel
theorem dX12_isFound_48 : decode cX12_isFound 48 = .ok (.istore 5, 2) := by decide +kernel
theorem dX12_isFound_50 : decode cX12_isFound 50 = .ok (.iinc 3 1, 3) := by decide +kernel
theorem dX12_isFound_53 : decode cX12_isFound 53 = .ok (.iconst 0, 1) := by decide +kernel
theorem dX12_isFound_54 : decode cX12_isFound 54 = .ok (.istore 6, 2) := by decide +kernel
theorem dX12_isFound_56 : decode cX12_isFound 56 = .ok (.iload 6, 2) := by decide +kernel
theorem dX12_isFound_58 : decode cX12_isFound 58 = .ok (.aload_n 0, 1) := by decide +kernel
theorem dX12_isFound_59 : decode cX12_isFound 59 = .ok (.getfield 230, 3) := by decide +kernel
theorem dX12_isFound_62 : decode cX12_isFound 62 = .ok (.if_icmp .ge 93, 3) := by decide +kernel
theorem dX12_isFound_65 : decode cX12_isFound 65 = .ok (.aload_n 0, 1) := by decide +kernel
theorem dX12_isFound_66 : decode cX12_isFound 66 = .ok (.getfield 111, 3) := by decide +kernel
theorem dX12_isFound_69 : decode cX12_isFound 69 = .ok (.iload 5, 2) := by decide +kernel
theorem dX12_isFound_71 : decode cX12_isFound 71 = .ok (.iaload, 1) := by decide +kernel
theorem dX12_isFound_72 : decode cX12_isFound 72 = .ok (.iload 6, 2) := by decide +kernel
theorem dX12_isFound_74 : decode cX12_isFound 74 = .ok (.invokestatic 206, 3) := by decide +kernel
theorem dX12_isFound_77 : decode cX12_isFound 77 = .ok (.ifCond .eq 72, 3) := by decide +kernel
theorem dX12_isFound_80 : decode cX12_isFound 80 = .ok (.iload 4, 2) := by decide +kernel
theorem dX12_isFound_82 : decode cX12_isFound 82 = .ok (.iload 6, 2) := by decide +kernel
theorem dX12_isFound_84 : decode cX12_isFound 84 = .ok (.invokestatic 206, 3) := by decide +kernel
theorem dX12_isFound_87 : decode cX12_isFound 87 = .ok (.ifCond .eq 6, 3) := by decide +kernel
theorem dX12_isFound_90 : decode cX12_isFound 90 = .ok (.goto 59, 3) := by decide +kernel
theorem dX12_isFound_93 : decode cX12_isFound 93 = .ok (.iload 4, 2) := by decide +kernel
theorem dX12_isFound_95 : decode cX12_isFound 95 = .ok (.iconst 1, 1) := by decide +kernel
theorem dX12_isFound_96 : decode cX12_isFound 96 = .ok (.iload 6, 2) := by decide +kernel
theorem dX12_isFound_98 : decode cX12_isFound 98 = .ok (.ishl, 1) := by decide +kernel
theorem dX12_isFound_99 : decode cX12_isFound 99 = .ok (.ior, 1) := by decide +kernel
theorem dX12_isFound_100 : decode cX12_isFound 100 = .ok (.istore 4, 2) := by decide +kernel
theorem dX12_isFound_102 : decode cX12_isFound 102 = .ok (.aload_n 0, 1) := by decide +kernel
theorem dX12_isFound_103 : decode cX12_isFound 103 = .ok (.getfield 123, 3) := by decide +kernel
theorem dX12_isFound_106 : decode cX12_isFound 106 = .ok (.iload 6, 2) := by decide +kernel
theorem dX12_isFound_108 : decode cX12_isFound 108 = .ok (.iload 5, 2) := by decide +kernel
theorem dX12_isFound_110 : decode cX12_isFound 110 = .ok (.iastore, 1) := by decide +kernel
theorem dX12_isFound_111 : decode cX12_isFound 111 = .ok (.aload_n 0, 1) := by decide +kernel
theorem dX12_isFound_112 : decode cX12_isFound 112 = .ok (.getfield 120, 3) := by decide +kernel
theorem dX12_isFound_115 : decode cX12_isFound 115 = .ok (.iload 6, 2) := by decide +kernel
theorem dX12_isFound_117 : decode cX12_isFound 117 = .ok (.iaload, 1) := by decide +kernel
theorem dX12_isFound_118 : decode cX12_isFound 118 = .ok (.ifCond .lt 22, 3) := by decide +kernel
theorem dX12_isFound_121 : decode cX12_isFound 121 = .ok (.aload_n 0, 1) := by decide +kernel
theorem dX12_isFound_122 : decode cX12_isFound 122 = .ok (.getfield 126, 3) := by decide +kernel
theorem dX12_isFound_125 : decode cX12_isFound 125 = .ok (.iload_n 2, 1) := by decide +kernel
theorem dX12_isFound_126 : decode cX12_isFound 126 = .ok (.aload_n 0, 1) := by decide +kernel
theorem dX12_isFound_127 : decode cX12_isFound 127 = .ok (.getfield 120, 3) := by decide +kernel
theorem dX12_isFound_130 : decode cX12_isFound 130 = .ok (.iload 6, 2) := by decide +kernel
theorem dX12_isFound_132 : decode cX12_isFound 132 = .ok (.iaload, 1) := by decide +kernel
theorem dX12_isFound_133 : decode cX12_isFound 133 = .ok (.iastore, 1) := by decide +kernel
theorem dX12_isFound_134 : decode cX12_isFound 134 = .ok (.iinc 2 1, 3) := by decide +kernel
theorem dX12_isFound_137 : decode cX12_isFound 137 = .ok (.goto 12, 3) := by decide +kernel
theorem dX12_isFound_140 : decode cX12_isFound 140 = .ok (.aload_n 0, 1) := by decide +kernel
theorem dX12_isFound_141 : decode cX12_isFound 141 = .ok (.iload 6, 2) := by decide +kernel
theorem dX12_isFound_143 : decode cX12_isFound 143 = .ok (.iload_n 1, 1) := by decide +kernel
theorem dX12_isFound_144 : decode cX12_isFound 144 = .ok (.invokevirtual 302, 3) := by decide +kernel
theorem dX12_isFound_147 : decode cX12_isFound 147 = .ok (.iconst 1, 1) := by decide +kernel
theorem dX12_isFound_148 : decode cX12_isFound 148 = .ok (.ireturn, 1) := by decide +kernel
theorem dX12_isFound_149 : decode cX12_isFound 149 = .ok (.iinc 6 1, 3) := by decide +kernel
theorem dX12_isFound_152 : decode cX12_isFound 152 = .ok (.goto (-96), 3) := by decide +kernel
theorem dX12_isFound_155 : decode cX12_isFound 155 = .ok (.goto (-118), 3) := by decide +kernel
theorem dX12_isFound_158 : decode cX12_isFound 158 = .ok (.iconst 0, 1) := by decide +kernel
theorem dX12_isFound_159 : decode cX12_isFound 159 = .ok (.ireturn, 1) := by decide +kernel
theorem dX12_turn_0 : decode cX12_turn 0 = .ok (.iload_n 1, 1) := by decide +kernel
theorem dX12_turn_1 : decode cX12_turn 1 = .ok (.istore_n 3, 1) := by decide +kernel
theorem dX12_turn_2 : decode cX12_turn 2 = .ok (.iconst 1, 1) := by decide +kernel
theorem dX12_turn_3 : decode cX12_turn 3 = .ok (.istore 4, 2) := by decide +kernel
theorem dX12_turn_5 : decode cX12_turn 5 = .ok (.iload 4, 2) := by decide +kernel
theorem dX12_turn_7 : decode cX12_turn 7 = .ok (.ifCond .eq 75, 3) := by decide +kernel
theorem dX12_turn_10 : decode cX12_turn 10 = .ok (.aload_n 0, 1) := by decide +kernel
theorem dX12_turn_11 : decode cX12_turn 11 = .ok (.getfield 123, 3) := by decide +kernel
theorem dX12_turn_14 : decode cX12_turn 14 = .ok (.iload_n 3, 1) := by decide +kernel
theorem dX12_turn_15 : decode cX12_turn 15 = .ok (.iaload, 1) := by decide +kernel
theorem dX12_turn_16 : decode cX12_turn 16 = .ok (.istore 5, 2) := by decide +kernel
theorem dX12_turn_18 : decode cX12_turn 18 = .ok (.iconst (-1), 1) := by decide +kernel
theorem dX12_turn_19 : decode cX12_turn 19 = .ok (.istore 6, 2) := by decide +kernel
theorem dX12_turn_21 : decode cX12_turn 21 = .ok (.iconst 0, 1) := by decide +kernel
theorem dX12_turn_22 : decode cX12_turn 22 = .ok (.istore 7, 2) := by decide +kernel
theorem dX12_turn_24 : decode cX12_turn 24 = .ok (.iload 7, 2) := by decide +kernel
theorem dX12_turn_26 : decode cX12_turn 26 = .ok (.aload_n 0, 1) := by decide +kernel
theorem dX12_turn_27 : decode cX12_turn 27 = .ok (.getfield 230, 3) := by decide +kernel
theorem dX12_turn_30 : decode cX12_turn 30 = .ok (.if_icmp .ge 25, 3) := by decide +kernel
theorem dX12_turn_33 : decode cX12_turn 33 = .ok (.aload_n 0, 1) := by decide +kernel
theorem dX12_turn_34 : decode cX12_turn 34 = .ok (.getfield 120, 3) := by decide +kernel
theorem dX12_turn_37 : decode cX12_turn 37 = .ok (.iload 7, 2) := by decide +kernel
theorem dX12_turn_39 : decode cX12_turn 39 = .ok (.iaload, 1) := by decide +kernel
theorem dX12_turn_40 : decode cX12_turn 40 = .ok (.iload 5, 2) := by decide +kernel
theorem dX12_turn_42 : decode cX12_turn 42 = .ok (.if_icmp .ne 7, 3) := by decide +kernel
theorem dX12_turn_45 : decode cX12_turn 45 = .ok (.iload 7, 2) := by decide +kernel
theorem dX12_turn_47 : decode cX12_turn 47 = .ok (.istore 6, 2) := by decide +kernel
theorem dX12_turn_49 : decode cX12_turn 49 = .ok (.iinc 7 1, 3) := by decide +kernel
theorem dX12_turn_52 : decode cX12_turn 52 = .ok (.goto (-28), 3) := by decide +kernel
theorem dX12_turn_55 : decode cX12_turn 55 = .ok (.aload_n 0, 1) := by decide +kernel
theorem dX12_turn_56 : decode cX12_turn 56 = .ok (.getfield 120, 3) := by decide +kernel
theorem dX12_turn_59 : decode cX12_turn 59 = .ok (.iload_n 3, 1) := by decide +kernel
theorem dX12_turn_60 : decode cX12_turn 60 = .ok (.iload 5, 2) := by decide +kernel
theorem dX12_turn_62 : decode cX12_turn 62 = .ok (.iastore, 1) := by decide +kernel
theorem dX12_turn_63 : decode cX12_turn 63 = .ok (.iload 5, 2) := by decide +kernel
theorem dX12_turn_65 : decode cX12_turn 65 = .ok (.iload_n 2, 1) := by decide +kernel
theorem dX12_turn_66 : decode cX12_turn 66 = .ok (.if_icmp .eq 7, 3) := by decide +kernel
theorem dX12_turn_69 : decode cX12_turn 69 = .ok (.iconst 1, 1) := by decide +kernel
theorem dX12_turn_70 : decode cX12_turn 70 = .ok (.goto 4, 3) := by decide +kernel
theorem dX12_turn_73 : decode cX12_turn 73 = .ok (.iconst 0, 1) := by decide +kernel
theorem dX12_turn_74 : decode cX12_turn 74 = .ok (.istore 4, 2) := by decide +kernel
theorem dX12_turn_76 : decode cX12_turn 76 = .ok (.iload 6, 2) := by decide +kernel
theorem dX12_turn_78 : decode cX12_turn 78 = .ok (.istore_n 3, 1) := by decide +kernel
theorem dX12_turn_79 : decode cX12_turn 79 = .ok (.goto (-74), 3) := by decide +kernel
theorem dX12_turn_82 : decode cX12_turn 82 = .ok (.return_, 1) := by decide +kernel
theorem dX12_findTrades_0 : decode cX12_findTrades 0 = .ok (.aload_n 0, 1) := by decide +kernel
theorem dX12_findTrades_1 : decode cX12_findTrades 1 = .ok (.invokevirtual 243, 3) := by decide +kernel
theorem dX12_findTrades_4 : decode cX12_findTrades 4 = .ok (.aload_n 0, 1) := by decide +kernel
theorem dX12_findTrades_5 : decode cX12_findTrades 5 = .ok (.getfield 233, 3) := by decide +kernel
theorem dX12_findTrades_8 : decode cX12_findTrades 8 = .ok (.ifCond .ne 5, 3) := by decide +kernel
theorem dX12_findTrades_11 : decode cX12_findTrades 11 = .ok (.iconst 0, 1) := by decide +kernel
theorem dX12_findTrades_12 : decode cX12_findTrades 12 = .ok (.ireturn, 1) := by decide +kernel
theorem dX12_findTrades_13 : decode cX12_findTrades 13 = .ok (.aload_n 0, 1) := by decide +kernel
theorem dX12_findTrades_14 : decode cX12_findTrades 14 = .ok (.getfield 173, 3) := by decide +kernel
theorem dX12_findTrades_17 : decode cX12_findTrades 17 = .ok (.ifCond .eq 16, 3) := by decide +kernel
theorem dX12_findTrades_20 : decode cX12_findTrades 20 = .ok (.aload_n 0, 1) := by decide +kernel
theorem dX12_findTrades_21 : decode cX12_findTrades 21 = .ok (.getfield 305, 3) := by decide +kernel
theorem dX12_findTrades_24 : decode cX12_findTrades 24 = .ok (.ifCond .le 7, 3) := by decide +kernel
theorem dX12_findTrades_27 : decode cX12_findTrades 27 = .ok (.iconst 1, 1) := by decide +kernel
theorem dX12_findTrades_28 : decode cX12_findTrades 28 = .ok (.goto 4, 3) := by decide +kernel
theorem dX12_findTrades_31 : decode cX12_findTrades 31 = .ok (.iconst 0, 1) := by decide +kernel
theorem dX12_findTrades_32 : decode cX12_findTrades 32 = .ok (.ireturn, 1) := by decide +kernel
theorem dX12_findTrades_33 : decode cX12_findTrades 33 = .ok (.aload_n 0, 1) := by decide +kernel
theorem dX12_findTrades_34 : decode cX12_findTrades 34 = .ok (.iconst 1, 1) := by decide +kernel
theorem dX12_findTrades_35 : decode cX12_findTrades 35 = .ok (.putfield 173, 3) := by decide +kernel
theorem dX12_findTrades_38 : decode cX12_findTrades 38 = .ok (.aload_n 0, 1) := by decide +kernel
theorem dX12_findTrades_39 : decode cX12_findTrades 39 = .ok (.iconst 0, 1) := by decide +kernel
theorem dX12_findTrades_40 : decode cX12_findTrades 40 = .ok (.putfield 305, 3) := by decide +kernel
theorem dX12_findTrades_43 : decode cX12_findTrades 43 = .ok (.iconst 0, 1) := by decide +kernel
theorem dX12_findTrades_44 : decode cX12_findTrades 44 = .ok (.istore_n 1, 1) := by decide +kernel
theorem dX12_findTrades_45 : decode cX12_findTrades 45 = .ok (.iload_n 1, 1) := by decide +kernel
theorem dX12_findTrades_46 : decode cX12_findTrades 46 = .ok (.bipush 11, 2) := by decide +kernel
theorem dX12_findTrades_48 : decode cX12_findTrades 48 = .ok (.if_icmp .ge 18, 3) := by decide +kernel
theorem dX12_findTrades_51 : decode cX12_findTrades 51 = .ok (.aload_n 0, 1) := by decide +kernel
theorem dX12_findTrades_52 : decode cX12_findTrades 52 = .ok (.getfield 129, 3) := by decide +kernel
theorem dX12_findTrades_55 : decode cX12_findTrades 55 = .ok (.iload_n 1, 1) := by decide +kernel
theorem dX12_findTrades_56 : decode cX12_findTrades 56 = .ok (.ldc_w 308, 3) := by decide +kernel
theorem dX12_findTrades_59 : decode cX12_findTrades 59 = .ok (.iastore, 1) := by decide +kernel
theorem dX12_findTrades_60 : decode cX12_findTrades 60 = .ok (.iinc 1 1, 3) := by decide +kernel
theorem dX12_findTrades_63 : decode cX12_findTrades 63 = .ok (.goto (-18), 3) := by decide +kernel
theorem dX12_findTrades_66 : decode cX12_findTrades 66 = .ok (.iconst 1, 1) := by decide +kernel
theorem dX12_findTrades_67 : decode cX12_findTrades 67 = .ok (.istore_n 1, 1) := by decide +kernel
theorem dX12_findTrades_68 : decode cX12_findTrades 68 = .ok (.iconst 0, 1) := by decide +kernel
theorem dX12_findTrades_69 : decode cX12_findTrades 69 = .ok (.istore_n 2, 1) := by decide +kernel
theorem dX12_findTrades_70 : decode cX12_findTrades 70 = .ok (.iload_n 2, 1) := by decide +kernel
theorem dX12_findTrades_71 : decode cX12_findTrades 71 = .ok (.aload_n 0, 1) := by decide +kernel
theorem dX12_findTrades_72 : decode cX12_findTrades 72 = .ok (.getfield 163, 3) := by decide +kernel
theorem dX12_findTrades_75 : decode cX12_findTrades 75 = .ok (.if_icmp .ge 14, 3) := by decide +kernel
theorem dX12_findTrades_78 : decode cX12_findTrades 78 = .ok (.iload_n 1, 1) := by decide +kernel
theorem dX12_findTrades_79 : decode cX12_findTrades 79 = .ok (.bipush 7, 2) := by decide +kernel
theorem dX12_findTrades_81 : decode cX12_findTrades 81 = .ok (.imul, 1) := by decide +kernel
theorem dX12_findTrades_82 : decode cX12_findTrades 82 = .ok (.istore_n 1, 1) := by decide +kernel
theorem dX12_findTrades_83 : decode cX12_findTrades 83 = .ok (.iinc 2 1, 3) := by decide +kernel
theorem dX12_findTrades_86 : decode cX12_findTrades 86 = .ok (.goto (-16), 3) := by decide +kernel
theorem dX12_findTrades_89 : decode cX12_findTrades 89 = .ok (.iconst 0, 1) := by decide +kernel
theorem dX12_findTrades_90 : decode cX12_findTrades 90 = .ok (.istore_n 2, 1) := by decide +kernel
theorem dX12_findTrades_91 : decode cX12_findTrades 91 = .ok (.iload_n 2, 1) := by decide +kernel
theorem dX12_findTrades_92 : decode cX12_findTrades 92 = .ok (.iload_n 1, 1) := by decide +kernel
theorem dX12_findTrades_93 : decode cX12_findTrades 93 = .ok (.if_icmp .ge 155, 3) := by decide +kernel
theorem dX12_findTrades_96 : decode cX12_findTrades 96 = .ok (.iload_n 2, 1) := by decide +kernel
theorem dX12_findTrades_97 : decode cX12_findTrades 97 = .ok (.istore_n 3, 1) := by decide +kernel
theorem dX12_findTrades_98 : decode cX12_findTrades 98 = .ok (.iconst 1, 1) := by decide +kernel
theorem dX12_findTrades_99 : decode cX12_findTrades 99 = .ok (.istore 4, 2) := by decide +kernel
theorem dX12_findTrades_101 : decode cX12_findTrades 101 = .ok (.aload_n 0, 1) := by decide +kernel
theorem dX12_findTrades_102 : decode cX12_findTrades 102 = .ok (.getfield 163, 3) := by decide +kernel
theorem dX12_findTrades_105 : decode cX12_findTrades 105 = .ok (.iconst 1, 1) := by decide +kernel
theorem dX12_findTrades_106 : decode cX12_findTrades 106 = .ok (.isub, 1) := by decide +kernel
theorem dX12_findTrades_107 : decode cX12_findTrades 107 = .ok (.istore 5, 2) := by decide +kernel
theorem dX12_findTrades_109 : decode cX12_findTrades 109 = .ok (.iload 5, 2) := by decide +kernel
theorem dX12_findTrades_111 : decode cX12_findTrades 111 = .ok (.ifCond .lt 53, 3) := by decide +kernel
theorem dX12_findTrades_114 : decode cX12_findTrades 114 = .ok (.aload_n 0, 1) := by decide +kernel
theorem dX12_findTrades_115 : decode cX12_findTrades 115 = .ok (.getfield 108, 3) := by decide +kernel
theorem dX12_findTrades_118 : decode cX12_findTrades 118 = .ok (.iload 5, 2) := by decide +kernel
theorem dX12_findTrades_120 : decode cX12_findTrades 120 = .ok (.iload_n 3, 1) := by decide +kernel
theorem dX12_findTrades_121 : decode cX12_findTrades 121 = .ok (.bipush 7, 2) := by decide +kernel
theorem dX12_findTrades_123 : decode cX12_findTrades 123 = .ok (.irem, 1) := by decide +kernel
theorem dX12_findTrades_124 : decode cX12_findTrades 124 = .ok (.iastore, 1) := by decide +kernel
theorem dX12_findTrades_125 : decode cX12_findTrades 125 = .ok (.iload_n 3, 1) := by decide +kernel
theorem dX12_findTrades_126 : decode cX12_findTrades 126 = .ok (.bipush 7, 2) := by decide +kernel
theorem dX12_findTrades_128 : decode cX12_findTrades 128 = .ok (.idiv, 1) := by decide +kernel
theorem dX12_findTrades_129 : decode cX12_findTrades 129 = .ok (.istore_n 3, 1) := by decide +kernel
theorem dX12_findTrades_130 : decode cX12_findTrades 130 = .ok (.iload 4, 2) := by decide +kernel
theorem dX12_findTrades_132 : decode cX12_findTrades 132 = .ok (.ifCond .eq 23, 3) := by decide +kernel
theorem dX12_findTrades_135 : decode cX12_findTrades 135 = .ok (.aload_n 0, 1) := by decide +kernel
theorem dX12_findTrades_136 : decode cX12_findTrades 136 = .ok (.iload 5, 2) := by decide +kernel
theorem dX12_findTrades_138 : decode cX12_findTrades 138 = .ok (.aload_n 0, 1) := by decide +kernel
theorem dX12_findTrades_139 : decode cX12_findTrades 139 = .ok (.getfield 108, 3) := by decide +kernel
theorem dX12_findTrades_142 : decode cX12_findTrades 142 = .ok (.iload 5, 2) := by decide +kernel
theorem dX12_findTrades_144 : decode cX12_findTrades 144 = .ok (.iaload, 1) := by decide +kernel
theorem dX12_findTrades_145 : decode cX12_findTrades 145 = .ok (.invokevirtual 292, 3) := by decide +kernel
theorem dX12_findTrades_148 : decode cX12_findTrades 148 = .ok (.ifCond .eq 7, 3) := by decide +kernel
theorem dX12_findTrades_151 : decode cX12_findTrades 151 = .ok (.iconst 1, 1) := by decide +kernel
theorem dX12_findTrades_152 : decode cX12_findTrades 152 = .ok (.goto 4, 3) := by decide +kernel
theorem dX12_findTrades_155 : decode cX12_findTrades 155 = .ok (.iconst 0, 1) := by decide +kernel
theorem dX12_findTrades_156 : decode cX12_findTrades 156 = .ok (.istore 4, 2) := by decide +kernel
theorem dX12_findTrades_158 : decode cX12_findTrades 158 = .ok (.iinc 5 (-1), 3) := by decide +kernel
theorem dX12_findTrades_161 : decode cX12_findTrades 161 = .ok (.goto (-52), 3) := by decide +kernel
theorem dX12_findTrades_164 : decode cX12_findTrades 164 = .ok (.iload 4, 2) := by decide +kernel
theorem dX12_findTrades_166 : decode cX12_findTrades 166 = .ok (.ifCond .ne 6, 3) := by decide +kernel
theorem dX12_findTrades_169 : decode cX12_findTrades 169 = .ok (.goto 73, 3) := by decide +kernel
theorem dX12_findTrades_172 : decode cX12_findTrades 172 = .ok (.aload_n 0, 1) := by decide +kernel
theorem dX12_findTrades_173 : decode cX12_findTrades 173 = .ok (.invokevirtual 295, 3) := by decide +kernel
theorem dX12_findTrades_176 : decode cX12_findTrades 176 = .ok (.istore 5, 2) := by decide +kernel
theorem dX12_findTrades_178 : decode cX12_findTrades 178 = .ok (.aload_n 0, 1) := by decide +kernel
theorem dX12_findTrades_179 : decode cX12_findTrades 179 = .ok (.invokevirtual 309, 3) := by decide +kernel
theorem dX12_findTrades_182 : decode cX12_findTrades 182 = .ok (.istore 6, 2) := by decide +kernel
theorem dX12_findTrades_184 : decode cX12_findTrades 184 = .ok (.iload 5, 2) := by decide +kernel
theorem dX12_findTrades_186 : decode cX12_findTrades 186 = .ok (.aload_n 0, 1) := by decide +kernel
theorem dX12_findTrades_187 : decode cX12_findTrades 187 = .ok (.getfield 129, 3) := by decide +kernel
theorem dX12_findTrades_190 : decode cX12_findTrades 190 = .ok (.iload 6, 2) := by decide +kernel
theorem dX12_findTrades_192 : decode cX12_findTrades 192 = .ok (.iaload, 1) := by decide +kernel
theorem dX12_findTrades_193 : decode cX12_findTrades 193 = .ok (.if_icmp .lt 6, 3) := by decide +kernel
theorem dX12_findTrades_196 : decode cX12_findTrades 196 = .ok (.goto 46, 3) := by decide +kernel
theorem dX12_findTrades_199 : decode cX12_findTrades 199 = .ok (.aload_n 0, 1) := by decide +kernel
theorem dX12_findTrades_200 : decode cX12_findTrades 200 = .ok (.getfield 129, 3) := by decide +kernel
theorem dX12_findTrades_203 : decode cX12_findTrades 203 = .ok (.iload 6, 2) := by decide +kernel
theorem dX12_findTrades_205 : decode cX12_findTrades 205 = .ok (.iload 5, 2) := by decide +kernel
theorem dX12_findTrades_207 : decode cX12_findTrades 207 = .ok (.iastore, 1) := by decide +kernel
theorem dX12_findTrades_208 : decode cX12_findTrades 208 = .ok (.iconst 0, 1) := by decide +kernel
theorem dX12_findTrades_209 : decode cX12_findTrades 209 = .ok (.istore 7, 2) := by decide +kernel
theorem dX12_findTrades_211 : decode cX12_findTrades 211 = .ok (.iload 7, 2) := by decide +kernel
theorem dX12_findTrades_213 : decode cX12_findTrades 213 = .ok (.iconst 4, 1) := by decide +kernel
theorem dX12_findTrades_214 : decode cX12_findTrades 214 = .ok (.if_icmp .ge 28, 3) := by decide +kernel
theorem dX12_findTrades_217 : decode cX12_findTrades 217 = .ok (.aload_n 0, 1) := by decide +kernel
theorem dX12_findTrades_218 : decode cX12_findTrades 218 = .ok (.getfield 141, 3) := by decide +kernel
theorem dX12_findTrades_221 : decode cX12_findTrades 221 = .ok (.iconst 4, 1) := by decide +kernel
theorem dX12_findTrades_222 : decode cX12_findTrades 222 = .ok (.iload 6, 2) := by decide +kernel
theorem dX12_findTrades_224 : decode cX12_findTrades 224 = .ok (.imul, 1) := by decide +kernel
theorem dX12_findTrades_225 : decode cX12_findTrades 225 = .ok (.iload 7, 2) := by decide +kernel
theorem dX12_findTrades_227 : decode cX12_findTrades 227 = .ok (.iadd, 1) := by decide +kernel
theorem dX12_findTrades_228 : decode cX12_findTrades 228 = .ok (.aload_n 0, 1) := by decide +kernel
theorem dX12_findTrades_229 : decode cX12_findTrades 229 = .ok (.getfield 108, 3) := by decide +kernel
theorem dX12_findTrades_232 : decode cX12_findTrades 232 = .ok (.iload 7, 2) := by decide +kernel
theorem dX12_findTrades_234 : decode cX12_findTrades 234 = .ok (.iaload, 1) := by decide +kernel
theorem dX12_findTrades_235 : decode cX12_findTrades 235 = .ok (.iastore, 1) := by decide +kernel
theorem dX12_findTrades_236 : decode cX12_findTrades 236 = .ok (.iinc 7 1, 3) := by decide +kernel
theorem dX12_findTrades_239 : decode cX12_findTrades 239 = .ok (.goto (-28), 3) := by decide +kernel
theorem dX12_findTrades_242 : decode cX12_findTrades 242 = .ok (.iinc 2 1, 3) := by decide +kernel
theorem dX12_findTrades_245 : decode cX12_findTrades 245 = .ok (.goto (-154), 3) := by decide +kernel
theorem dX12_findTrades_248 : decode cX12_findTrades 248 = .ok (.ldc_w 308, 3) := by decide +kernel
theorem dX12_findTrades_251 : decode cX12_findTrades 251 = .ok (.istore_n 2, 1) := by decide +kernel
theorem dX12_findTrades_252 : decode cX12_findTrades 252 = .ok (.iconst 0, 1) := by decide +kernel
theorem dX12_findTrades_253 : decode cX12_findTrades 253 = .ok (.istore_n 3, 1) := by decide +kernel
theorem dX12_findTrades_254 : decode cX12_findTrades 254 = .ok (.iload_n 3, 1) := by decide +kernel
theorem dX12_findTrades_255 : decode cX12_findTrades 255 = .ok (.bipush 11, 2) := by decide +kernel
theorem dX12_findTrades_257 : decode cX12_findTrades 257 = .ok (.if_icmp .ge 99, 3) := by decide +kernel
theorem dX12_findTrades_260 : decode cX12_findTrades 260 = .ok (.aload_n 0, 1) := by decide +kernel
theorem dX12_findTrades_261 : decode cX12_findTrades 261 = .ok (.getfield 129, 3) := by decide +kernel
theorem dX12_findTrades_264 : decode cX12_findTrades 264 = .ok (.iload_n 3, 1) := by decide +kernel
theorem dX12_findTrades_265 : decode cX12_findTrades 265 = .ok (.iaload, 1) := by decide +kernel
theorem dX12_findTrades_266 : decode cX12_findTrades 266 = .ok (.iload_n 2, 1) := by decide +kernel
theorem dX12_findTrades_267 : decode cX12_findTrades 267 = .ok (.if_icmp .lt 6, 3) := by decide +kernel
theorem dX12_findTrades_270 : decode cX12_findTrades 270 = .ok (.goto 80, 3) := by decide +kernel
theorem dX12_findTrades_273 : decode cX12_findTrades 273 = .ok (.aload_n 0, 1) := by decide +kernel
theorem dX12_findTrades_274 : decode cX12_findTrades 274 = .ok (.getfield 129, 3) := by decide +kernel
theorem dX12_findTrades_277 : decode cX12_findTrades 277 = .ok (.iload_n 3, 1) := by decide +kernel
theorem dX12_findTrades_278 : decode cX12_findTrades 278 = .ok (.iaload, 1) := by decide +kernel
theorem dX12_findTrades_279 : decode cX12_findTrades 279 = .ok (.istore_n 2, 1) := by decide +kernel
theorem dX12_findTrades_280 : decode cX12_findTrades 280 = .ok (.aload_n 0, 1) := by decide +kernel
theorem dX12_findTrades_281 : decode cX12_findTrades 281 = .ok (.getfield 132, 3) := by decide +kernel
theorem dX12_findTrades_284 : decode cX12_findTrades 284 = .ok (.aload_n 0, 1) := by decide +kernel
theorem dX12_findTrades_285 : decode cX12_findTrades 285 = .ok (.getfield 305, 3) := by decide +kernel
theorem dX12_findTrades_288 : decode cX12_findTrades 288 = .ok (.iload_n 3, 1) := by decide +kernel
theorem dX12_findTrades_289 : decode cX12_findTrades 289 = .ok (.iastore, 1) := by decide +kernel
theorem dX12_findTrades_290 : decode cX12_findTrades 290 = .ok (.aload_n 0, 1) := by decide +kernel
theorem dX12_findTrades_291 : decode cX12_findTrades 291 = .ok (.getfield 135, 3) := by decide +kernel
theorem dX12_findTrades_294 : decode cX12_findTrades 294 = .ok (.aload_n 0, 1) := by decide +kernel
theorem dX12_findTrades_295 : decode cX12_findTrades 295 = .ok (.getfield 305, 3) := by decide +kernel
theorem dX12_findTrades_298 : decode cX12_findTrades 298 = .ok (.iload_n 2, 1) := by decide +kernel
theorem dX12_findTrades_299 : decode cX12_findTrades 299 = .ok (.iastore, 1) := by decide +kernel
theorem dX12_findTrades_300 : decode cX12_findTrades 300 = .ok (.iconst 0, 1) := by decide +kernel
theorem dX12_findTrades_301 : decode cX12_findTrades 301 = .ok (.istore 4, 2) := by decide +kernel
theorem dX12_findTrades_303 : decode cX12_findTrades 303 = .ok (.iload 4, 2) := by decide +kernel
theorem dX12_findTrades_305 : decode cX12_findTrades 305 = .ok (.iconst 4, 1) := by decide +kernel
theorem dX12_findTrades_306 : decode cX12_findTrades 306 = .ok (.if_icmp .ge 34, 3) := by decide +kernel
theorem dX12_findTrades_309 : decode cX12_findTrades 309 = .ok (.aload_n 0, 1) := by decide +kernel
theorem dX12_findTrades_310 : decode cX12_findTrades 310 = .ok (.getfield 138, 3) := by decide +kernel
theorem dX12_findTrades_313 : decode cX12_findTrades 313 = .ok (.iconst 4, 1) := by decide +kernel
theorem dX12_findTrades_314 : decode cX12_findTrades 314 = .ok (.aload_n 0, 1) := by decide +kernel
theorem dX12_findTrades_315 : decode cX12_findTrades 315 = .ok (.getfield 305, 3) := by decide +kernel
theorem dX12_findTrades_318 : decode cX12_findTrades 318 = .ok (.imul, 1) := by decide +kernel
theorem dX12_findTrades_319 : decode cX12_findTrades 319 = .ok (.iload 4, 2) := by decide +kernel
theorem dX12_findTrades_321 : decode cX12_findTrades 321 = .ok (.iadd, 1) := by decide +kernel
theorem dX12_findTrades_322 : decode cX12_findTrades 322 = .ok (.aload_n 0, 1) := by decide +kernel
theorem dX12_findTrades_323 : decode cX12_findTrades 323 = .ok (.getfield 141, 3) := by decide +kernel
theorem dX12_findTrades_326 : decode cX12_findTrades 326 = .ok (.iconst 4, 1) := by decide +kernel
theorem dX12_findTrades_327 : decode cX12_findTrades 327 = .ok (.iload_n 3, 1) := by decide +kernel
theorem dX12_findTrades_328 : decode cX12_findTrades 328 = .ok (.imul, 1) := by decide +kernel
theorem dX12_findTrades_329 : decode cX12_findTrades 329 = .ok (.iload 4, 2) := by decide +kernel
theorem dX12_findTrades_331 : decode cX12_findTrades 331 = .ok (.iadd, 1) := by decide +kernel
theorem dX12_findTrades_332 : decode cX12_findTrades 332 = .ok (.iaload, 1) := by decide +kernel
theorem dX12_findTrades_333 : decode cX12_findTrades 333 = .ok (.iastore, 1) := by decide +kernel
theorem dX12_findTrades_334 : decode cX12_findTrades 334 = .ok (.iinc 4 1, 3) := by decide +kernel
theorem dX12_findTrades_337 : decode cX12_findTrades 337 = .ok (.goto (-34), 3) := by decide +kernel
theorem dX12_findTrades_340 : decode cX12_findTrades 340 = .ok (.aload_n 0, 1) := by decide +kernel
theorem dX12_findTrades_341 : decode cX12_findTrades 341 = .ok (.dup, 1) := by decide +kernel
theorem dX12_findTrades_342 : decode cX12_findTrades 342 = .ok (.getfield 305, 3) := by decide +kernel
theorem dX12_findTrades_345 : decode cX12_findTrades 345 = .ok (.iconst 1, 1) := by decide +kernel
theorem dX12_findTrades_346 : decode cX12_findTrades 346 = .ok (.iadd, 1) := by decide +kernel
theorem dX12_findTrades_347 : decode cX12_findTrades 347 = .ok (.putfield 305, 3) := by decide +kernel
theorem dX12_findTrades_350 : decode cX12_findTrades 350 = .ok (.iinc 3 1, 3) := by decide +kernel
theorem dX12_findTrades_353 : decode cX12_findTrades 353 = .ok (.goto (-99), 3) := by decide +kernel
theorem dX12_findTrades_356 : decode cX12_findTrades 356 = .ok (.aload_n 0, 1) := by decide +kernel
theorem dX12_findTrades_357 : decode cX12_findTrades 357 = .ok (.getfield 305, 3) := by decide +kernel
theorem dX12_findTrades_360 : decode cX12_findTrades 360 = .ok (.ifCond .le 7, 3) := by decide +kernel
theorem dX12_findTrades_363 : decode cX12_findTrades 363 = .ok (.iconst 1, 1) := by decide +kernel
theorem dX12_findTrades_364 : decode cX12_findTrades 364 = .ok (.goto 4, 3) := by decide +kernel
theorem dX12_findTrades_367 : decode cX12_findTrades 367 = .ok (.iconst 0, 1) := by decide +kernel
theorem dX12_findTrades_368 : decode cX12_findTrades 368 = .ok (.ireturn, 1) := by decide +kernel
theorem dX12_trades_0 : decode cX12_trades 0 = .ok (.aload_n 0, 1) := by decide +kernel
theorem dX12_trades_1 : decode cX12_trades 1 = .ok (.invokevirtual 312, 3) := by decide +kernel
theorem dX12_trades_4 : decode cX12_trades 4 = .ok (.ifCond .eq 10, 3) := by decide +kernel
theorem dX12_trades_7 : decode cX12_trades 7 = .ok (.aload_n 0, 1) := by decide +kernel
theorem dX12_trades_8 : decode cX12_trades 8 = .ok (.getfield 305, 3) := by decide +kernel
theorem dX12_trades_11 : decode cX12_trades 11 = .ok (.goto 9, 3) := by decide +kernel
theorem dX12_trades_14 : decode cX12_trades 14 = .ok (.aload_n 0, 1) := by decide +kernel
theorem dX12_trades_15 : decode cX12_trades 15 = .ok (.ldc 197, 2) := by decide +kernel
theorem dX12_trades_17 : decode cX12_trades 17 = .ok (.invokevirtual 177, 3) := by decide +kernel
theorem dX12_trades_20 : decode cX12_trades 20 = .ok (.ireturn, 1) := by decide +kernel
theorem dX12_trade_0 : decode cX12_trade 0 = .ok (.iload_n 1, 1) := by decide +kernel
theorem dX12_trade_1 : decode cX12_trade 1 = .ok (.ifCond .lt 17, 3) := by decide +kernel
theorem dX12_trade_4 : decode cX12_trade 4 = .ok (.iload_n 2, 1) := by decide +kernel
theorem dX12_trade_5 : decode cX12_trade 5 = .ok (.ifCond .lt 13, 3) := by decide +kernel
theorem dX12_trade_8 : decode cX12_trade 8 = .ok (.iload_n 2, 1) := by decide +kernel
theorem dX12_trade_9 : decode cX12_trade 9 = .ok (.iconst 1, 1) := by decide +kernel
theorem dX12_trade_10 : decode cX12_trade 10 = .ok (.aload_n 0, 1) := by decide +kernel
theorem dX12_trade_11 : decode cX12_trade 11 = .ok (.getfield 163, 3) := by decide +kernel
theorem dX12_trade_14 : decode cX12_trade 14 = .ok (.iadd, 1) := by decide +kernel
theorem dX12_trade_15 : decode cX12_trade 15 = .ok (.if_icmp .le 10, 3) := by decide +kernel
theorem dX12_trade_18 : decode cX12_trade 18 = .ok (.aload_n 0, 1) := by decide +kernel
theorem dX12_trade_19 : decode cX12_trade 19 = .ok (.ldc 185, 2) := by decide +kernel
theorem dX12_trade_21 : decode cX12_trade 21 = .ok (.invokevirtual 177, 3) := by decide +kernel
theorem dX12_trade_24 : decode cX12_trade 24 = .ok (.ireturn, 1) := by decide +kernel
theorem dX12_trade_25 : decode cX12_trade 25 = .ok (.aload_n 0, 1) := by decide +kernel
theorem dX12_trade_26 : decode cX12_trade 26 = .ok (.invokevirtual 312, 3) := by decide +kernel
theorem dX12_trade_29 : decode cX12_trade 29 = .ok (.ifCond .eq 11, 3) := by decide +kernel
theorem dX12_trade_32 : decode cX12_trade 32 = .ok (.iload_n 1, 1) := by decide +kernel
theorem dX12_trade_33 : decode cX12_trade 33 = .ok (.aload_n 0, 1) := by decide +kernel
theorem dX12_trade_34 : decode cX12_trade 34 = .ok (.getfield 305, 3) := by decide +kernel
theorem dX12_trade_37 : decode cX12_trade 37 = .ok (.if_icmp .lt 10, 3) := by decide +kernel
theorem dX12_trade_40 : decode cX12_trade 40 = .ok (.aload_n 0, 1) := by decide +kernel
theorem dX12_trade_41 : decode cX12_trade 41 = .ok (.ldc 197, 2) := by decide +kernel
theorem dX12_trade_43 : decode cX12_trade 43 = .ok (.invokevirtual 177, 3) := by decide +kernel
theorem dX12_trade_46 : decode cX12_trade 46 = .ok (.ireturn, 1) := by decide +kernel
theorem dX12_trade_47 : decode cX12_trade 47 = .ok (.iload_n 2, 1) := by decide +kernel
theorem dX12_trade_48 : decode cX12_trade 48 = .ok (.ifCond .ne 12, 3) := by decide +kernel
theorem dX12_trade_51 : decode cX12_trade 51 = .ok (.aload_n 0, 1) := by decide +kernel
theorem dX12_trade_52 : decode cX12_trade 52 = .ok (.getfield 132, 3) := by decide +kernel
theorem dX12_trade_55 : decode cX12_trade 55 = .ok (.iload_n 1, 1) := by decide +kernel
theorem dX12_trade_56 : decode cX12_trade 56 = .ok (.iaload, 1) := by decide +kernel
theorem dX12_trade_57 : decode cX12_trade 57 = .ok (.goto 29, 3) := by decide +kernel
theorem dX12_trade_60 : decode cX12_trade 60 = .ok (.iload_n 2, 1) := by decide +kernel
theorem dX12_trade_61 : decode cX12_trade 61 = .ok (.iconst 1, 1) := by decide +kernel
theorem dX12_trade_62 : decode cX12_trade 62 = .ok (.if_icmp .ne 12, 3) := by decide +kernel
theorem dX12_trade_65 : decode cX12_trade 65 = .ok (.aload_n 0, 1) := by decide +kernel
theorem dX12_trade_66 : decode cX12_trade 66 = .ok (.getfield 135, 3) := by decide +kernel
theorem dX12_trade_69 : decode cX12_trade 69 = .ok (.iload_n 1, 1) := by decide +kernel
theorem dX12_trade_70 : decode cX12_trade 70 = .ok (.iaload, 1) := by decide +kernel
theorem dX12_trade_71 : decode cX12_trade 71 = .ok (.goto 15, 3) := by decide +kernel
theorem dX12_trade_74 : decode cX12_trade 74 = .ok (.aload_n 0, 1) := by decide +kernel
theorem dX12_trade_75 : decode cX12_trade 75 = .ok (.getfield 138, 3) := by decide +kernel
theorem dX12_trade_78 : decode cX12_trade 78 = .ok (.iconst 4, 1) := by decide +kernel
theorem dX12_trade_79 : decode cX12_trade 79 = .ok (.iload_n 1, 1) := by decide +kernel
theorem dX12_trade_80 : decode cX12_trade 80 = .ok (.imul, 1) := by decide +kernel
theorem dX12_trade_81 : decode cX12_trade 81 = .ok (.iload_n 2, 1) := by decide +kernel
theorem dX12_trade_82 : decode cX12_trade 82 = .ok (.iadd, 1) := by decide +kernel
theorem dX12_trade_83 : decode cX12_trade 83 = .ok (.iconst 2, 1) := by decide +kernel
theorem dX12_trade_84 : decode cX12_trade 84 = .ok (.isub, 1) := by decide +kernel
theorem dX12_trade_85 : decode cX12_trade 85 = .ok (.iaload, 1) := by decide +kernel
theorem dX12_trade_86 : decode cX12_trade 86 = .ok (.ireturn, 1) := by decide +kernel
theorem dX12_take_0 : decode cX12_take 0 = .ok (.iload_n 1, 1) := by decide +kernel
theorem dX12_take_1 : decode cX12_take 1 = .ok (.ifCond .ge 10, 3) := by decide +kernel
theorem dX12_take_4 : decode cX12_take 4 = .ok (.aload_n 0, 1) := by decide +kernel
theorem dX12_take_5 : decode cX12_take 5 = .ok (.ldc 185, 2) := by decide +kernel
theorem dX12_take_7 : decode cX12_take 7 = .ok (.invokevirtual 177, 3) := by decide +kernel
theorem dX12_take_10 : decode cX12_take 10 = .ok (.ireturn, 1) := by decide +kernel
theorem dX12_take_11 : decode cX12_take 11 = .ok (.aload_n 0, 1) := by decide +kernel
theorem dX12_take_12 : decode cX12_take 12 = .ok (.invokevirtual 312, 3) := by decide +kernel
theorem dX12_take_15 : decode cX12_take 15 = .ok (.ifCond .eq 11, 3) := by decide +kernel
theorem dX12_take_18 : decode cX12_take 18 = .ok (.iload_n 1, 1) := by decide +kernel
theorem dX12_take_19 : decode cX12_take 19 = .ok (.aload_n 0, 1) := by decide +kernel
theorem dX12_take_20 : decode cX12_take 20 = .ok (.getfield 305, 3) := by decide +kernel
theorem dX12_take_23 : decode cX12_take 23 = .ok (.if_icmp .lt 10, 3) := by decide +kernel
theorem dX12_take_26 : decode cX12_take 26 = .ok (.aload_n 0, 1) := by decide +kernel
theorem dX12_take_27 : decode cX12_take 27 = .ok (.ldc 197, 2) := by decide +kernel
theorem dX12_take_29 : decode cX12_take 29 = .ok (.invokevirtual 177, 3) := by decide +kernel
theorem dX12_take_32 : decode cX12_take 32 = .ok (.ireturn, 1) := by decide +kernel
theorem dX12_take_33 : decode cX12_take 33 = .ok (.iconst 0, 1) := by decide +kernel
theorem dX12_take_34 : decode cX12_take 34 = .ok (.istore_n 2, 1) := by decide +kernel
theorem dX12_take_35 : decode cX12_take 35 = .ok (.iload_n 2, 1) := by decide +kernel
theorem dX12_take_36 : decode cX12_take 36 = .ok (.aload_n 0, 1) := by decide +kernel
end
section
theorem dX12_take_37 : decode cX12_take 37 = .ok (.getfield 163, 3) := by decide +kernel
theorem dX12_take_40 : decode cX12_take 40 = .ok (.if_icmp .ge 25, 3) := by decide +kernel
theorem dX12_take_43 : decode cX12_take 43 = .ok (.aload_n 0, 1) := by decide +kernel
theorem dX12_take_44 : decode cX12_take 44 = .ok (.getfield 36, 3) := by decide +kernel
theorem dX12_take_47 : decode cX12_take 47 = .ok (.iload_n 2, 1) := by decide +kernel
theorem dX12_take_48 : decode cX12_take 48 = .ok (.aload_n 0, 1) := by decide +kernel
theorem dX12_take_49 : decode cX12_take 49 = .ok (.getfield 138, 3) := by decide +kernel
theorem dX12_take_52 : decode cX12_take 52 = .ok (.iconst 4, 1) := by decide +kernel
theorem dX12_take_53 : decode cX12_take 53 = .ok (.iload_n 1, 1) := by decide +kernel
theorem dX12_take_54 : decode cX12_take 54 = .ok (.imul, 1) := by decide +kernel
theorem dX12_take_55 : decode cX12_take 55 = .ok (.iload_n 2, 1) := by decide +kernel
theorem dX12_take_56 : decode cX12_take 56 = .ok (.iadd, 1) := by decide +kernel
theorem dX12_take_57 : decode cX12_take 57 = .ok (.iaload, 1) := by decide +kernel
theorem dX12_take_58 : decode cX12_take 58 = .ok (.iastore, 1) := by decide +kernel
theorem dX12_take_59 : decode cX12_take 59 = .ok (.iinc 2 1, 3) := by decide +kernel
theorem dX12_take_62 : decode cX12_take 62 = .ok (.goto (-27), 3) := by decide +kernel
theorem dX12_take_65 : decode cX12_take 65 = .ok (.aload_n 0, 1) := by decide +kernel
theorem dX12_take_66 : decode cX12_take 66 = .ok (.getfield 132, 3) := by decide +kernel
theorem dX12_take_69 : decode cX12_take 69 = .ok (.iload_n 1, 1) := by decide +kernel
theorem dX12_take_70 : decode cX12_take 70 = .ok (.iaload, 1) := by decide +kernel
theorem dX12_take_71 : decode cX12_take 71 = .ok (.ireturn, 1) := by decide +kernel
theorem dX12_morning_0 : decode cX12_morning 0 = .ok (.iload_n 1, 1) := by decide +kernel
theorem dX12_morning_1 : decode cX12_morning 1 = .ok (.ifCond .lt 23, 3) := by decide +kernel
theorem dX12_morning_4 : decode cX12_morning 4 = .ok (.iload_n 2, 1) := by decide +kernel
theorem dX12_morning_5 : decode cX12_morning 5 = .ok (.iconst 0, 1) := by decide +kernel
theorem dX12_morning_6 : decode cX12_morning 6 = .ok (.bipush 60, 2) := by decide +kernel
theorem dX12_morning_8 : decode cX12_morning 8 = .ok (.invokestatic 159, 3) := by decide +kernel
theorem dX12_morning_11 : decode cX12_morning 11 = .ok (.ifCond .eq 13, 3) := by decide +kernel
theorem dX12_morning_14 : decode cX12_morning 14 = .ok (.iload_n 3, 1) := by decide +kernel
theorem dX12_morning_15 : decode cX12_morning 15 = .ok (.iconst 0, 1) := by decide +kernel
theorem dX12_morning_16 : decode cX12_morning 16 = .ok (.bipush 10, 2) := by decide +kernel
theorem dX12_morning_18 : decode cX12_morning 18 = .ok (.invokestatic 159, 3) := by decide +kernel
theorem dX12_morning_21 : decode cX12_morning 21 = .ok (.ifCond .ne 10, 3) := by decide +kernel
theorem dX12_morning_24 : decode cX12_morning 24 = .ok (.aload_n 0, 1) := by decide +kernel
theorem dX12_morning_25 : decode cX12_morning 25 = .ok (.ldc 185, 2) := by decide +kernel
theorem dX12_morning_27 : decode cX12_morning 27 = .ok (.invokevirtual 177, 3) := by decide +kernel
theorem dX12_morning_30 : decode cX12_morning 30 = .ok (.ireturn, 1) := by decide +kernel
theorem dX12_morning_31 : decode cX12_morning 31 = .ok (.aload_n 0, 1) := by decide +kernel
theorem dX12_morning_32 : decode cX12_morning 32 = .ok (.invokevirtual 243, 3) := by decide +kernel
theorem dX12_morning_35 : decode cX12_morning 35 = .ok (.aload_n 0, 1) := by decide +kernel
theorem dX12_morning_36 : decode cX12_morning 36 = .ok (.getfield 233, 3) := by decide +kernel
theorem dX12_morning_39 : decode cX12_morning 39 = .ok (.ifCond .eq 11, 3) := by decide +kernel
theorem dX12_morning_42 : decode cX12_morning 42 = .ok (.iload_n 1, 1) := by decide +kernel
theorem dX12_morning_43 : decode cX12_morning 43 = .ok (.aload_n 0, 1) := by decide +kernel
theorem dX12_morning_44 : decode cX12_morning 44 = .ok (.getfield 230, 3) := by decide +kernel
theorem dX12_morning_47 : decode cX12_morning 47 = .ok (.if_icmp .lt 10, 3) := by decide +kernel
theorem dX12_morning_50 : decode cX12_morning 50 = .ok (.aload_n 0, 1) := by decide +kernel
theorem dX12_morning_51 : decode cX12_morning 51 = .ok (.ldc 197, 2) := by decide +kernel
theorem dX12_morning_53 : decode cX12_morning 53 = .ok (.invokevirtual 177, 3) := by decide +kernel
theorem dX12_morning_56 : decode cX12_morning 56 = .ok (.ireturn, 1) := by decide +kernel
theorem dX12_morning_57 : decode cX12_morning 57 = .ok (.aload_n 0, 1) := by decide +kernel
theorem dX12_morning_58 : decode cX12_morning 58 = .ok (.invokevirtual 271, 3) := by decide +kernel
theorem dX12_morning_61 : decode cX12_morning 61 = .ok (.iconst 0, 1) := by decide +kernel
theorem dX12_morning_62 : decode cX12_morning 62 = .ok (.istore 4, 2) := by decide +kernel
theorem dX12_morning_64 : decode cX12_morning 64 = .ok (.iload 4, 2) := by decide +kernel
theorem dX12_morning_66 : decode cX12_morning 66 = .ok (.aload_n 0, 1) := by decide +kernel
theorem dX12_morning_67 : decode cX12_morning 67 = .ok (.getfield 230, 3) := by decide +kernel
theorem dX12_morning_70 : decode cX12_morning 70 = .ok (.if_icmp .ge 46, 3) := by decide +kernel
theorem dX12_morning_73 : decode cX12_morning 73 = .ok (.iconst 0, 1) := by decide +kernel
theorem dX12_morning_74 : decode cX12_morning 74 = .ok (.istore 5, 2) := by decide +kernel
theorem dX12_morning_76 : decode cX12_morning 76 = .ok (.iload 5, 2) := by decide +kernel
theorem dX12_morning_78 : decode cX12_morning 78 = .ok (.bipush 11, 2) := by decide +kernel
theorem dX12_morning_80 : decode cX12_morning 80 = .ok (.if_icmp .ge 30, 3) := by decide +kernel
theorem dX12_morning_83 : decode cX12_morning 83 = .ok (.aload_n 0, 1) := by decide +kernel
theorem dX12_morning_84 : decode cX12_morning 84 = .ok (.getfield 147, 3) := by decide +kernel
theorem dX12_morning_87 : decode cX12_morning 87 = .ok (.bipush 11, 2) := by decide +kernel
theorem dX12_morning_89 : decode cX12_morning 89 = .ok (.iload 4, 2) := by decide +kernel
theorem dX12_morning_91 : decode cX12_morning 91 = .ok (.imul, 1) := by decide +kernel
theorem dX12_morning_92 : decode cX12_morning 92 = .ok (.iload 5, 2) := by decide +kernel
theorem dX12_morning_94 : decode cX12_morning 94 = .ok (.iadd, 1) := by decide +kernel
theorem dX12_morning_95 : decode cX12_morning 95 = .ok (.aload_n 0, 1) := by decide +kernel
theorem dX12_morning_96 : decode cX12_morning 96 = .ok (.iload 4, 2) := by decide +kernel
theorem dX12_morning_98 : decode cX12_morning 98 = .ok (.iload 5, 2) := by decide +kernel
theorem dX12_morning_100 : decode cX12_morning 100 = .ok (.invokevirtual 250, 3) := by decide +kernel
theorem dX12_morning_103 : decode cX12_morning 103 = .ok (.iastore, 1) := by decide +kernel
theorem dX12_morning_104 : decode cX12_morning 104 = .ok (.iinc 5 1, 3) := by decide +kernel
theorem dX12_morning_107 : decode cX12_morning 107 = .ok (.goto (-31), 3) := by decide +kernel
theorem dX12_morning_110 : decode cX12_morning 110 = .ok (.iinc 4 1, 3) := by decide +kernel
theorem dX12_morning_113 : decode cX12_morning 113 = .ok (.goto (-49), 3) := by decide +kernel
theorem dX12_morning_116 : decode cX12_morning 116 = .ok (.aload_n 0, 1) := by decide +kernel
theorem dX12_morning_117 : decode cX12_morning 117 = .ok (.iload_n 3, 1) := by decide +kernel
theorem dX12_morning_118 : decode cX12_morning 118 = .ok (.invokevirtual 193, 3) := by decide +kernel
theorem dX12_morning_121 : decode cX12_morning 121 = .ok (.iconst 0, 1) := by decide +kernel
theorem dX12_morning_122 : decode cX12_morning 122 = .ok (.istore 4, 2) := by decide +kernel
theorem dX12_morning_124 : decode cX12_morning 124 = .ok (.iconst 0, 1) := by decide +kernel
theorem dX12_morning_125 : decode cX12_morning 125 = .ok (.istore 5, 2) := by decide +kernel
theorem dX12_morning_127 : decode cX12_morning 127 = .ok (.iload 5, 2) := by decide +kernel
theorem dX12_morning_129 : decode cX12_morning 129 = .ok (.aload_n 0, 1) := by decide +kernel
theorem dX12_morning_130 : decode cX12_morning 130 = .ok (.getfield 230, 3) := by decide +kernel
theorem dX12_morning_133 : decode cX12_morning 133 = .ok (.if_icmp .ge 197, 3) := by decide +kernel
theorem dX12_morning_136 : decode cX12_morning 136 = .ok (.aload_n 0, 1) := by decide +kernel
theorem dX12_morning_137 : decode cX12_morning 137 = .ok (.iload 5, 2) := by decide +kernel
theorem dX12_morning_139 : decode cX12_morning 139 = .ok (.invokevirtual 274, 3) := by decide +kernel
theorem dX12_morning_142 : decode cX12_morning 142 = .ok (.ifCond .ne 6, 3) := by decide +kernel
theorem dX12_morning_145 : decode cX12_morning 145 = .ok (.goto 179, 3) := by decide +kernel
theorem dX12_morning_148 : decode cX12_morning 148 = .ok (.iconst (-1), 1) := by decide +kernel
theorem dX12_morning_149 : decode cX12_morning 149 = .ok (.istore 6, 2) := by decide +kernel
theorem dX12_morning_151 : decode cX12_morning 151 = .ok (.iload 5, 2) := by decide +kernel
theorem dX12_morning_153 : decode cX12_morning 153 = .ok (.istore 7, 2) := by decide +kernel
theorem dX12_morning_155 : decode cX12_morning 155 = .ok (.iload 7, 2) := by decide +kernel
theorem dX12_morning_157 : decode cX12_morning 157 = .ok (.ifCond .lt 167, 3) := by decide +kernel
theorem dX12_morning_160 : decode cX12_morning 160 = .ok (.aload_n 0, 1) := by decide +kernel
theorem dX12_morning_161 : decode cX12_morning 161 = .ok (.iload 7, 2) := by decide +kernel
theorem dX12_morning_163 : decode cX12_morning 163 = .ok (.invokevirtual 259, 3) := by decide +kernel
theorem dX12_morning_166 : decode cX12_morning 166 = .ok (.istore 8, 2) := by decide +kernel
theorem dX12_morning_168 : decode cX12_morning 168 = .ok (.iload 6, 2) := by decide +kernel
theorem dX12_morning_170 : decode cX12_morning 170 = .ok (.ifCond .lt 65, 3) := by decide +kernel
theorem dX12_morning_173 : decode cX12_morning 173 = .ok (.aload_n 0, 1) := by decide +kernel
theorem dX12_morning_174 : decode cX12_morning 174 = .ok (.getfield 144, 3) := by decide +kernel
theorem dX12_morning_177 : decode cX12_morning 177 = .ok (.iload 6, 2) := by decide +kernel
theorem dX12_morning_179 : decode cX12_morning 179 = .ok (.iaload, 1) := by decide +kernel
theorem dX12_morning_180 : decode cX12_morning 180 = .ok (.aload_n 0, 1) := by decide +kernel
theorem dX12_morning_181 : decode cX12_morning 181 = .ok (.getfield 75, 3) := by decide +kernel
theorem dX12_morning_184 : decode cX12_morning 184 = .ok (.bipush 8, 2) := by decide +kernel
theorem dX12_morning_186 : decode cX12_morning 186 = .ok (.aload_n 0, 1) := by decide +kernel
theorem dX12_morning_187 : decode cX12_morning 187 = .ok (.getfield 33, 3) := by decide +kernel
theorem dX12_morning_190 : decode cX12_morning 190 = .ok (.aload_n 0, 1) := by decide +kernel
theorem dX12_morning_191 : decode cX12_morning 191 = .ok (.getfield 96, 3) := by decide +kernel
theorem dX12_morning_194 : decode cX12_morning 194 = .ok (.iload 6, 2) := by decide +kernel
theorem dX12_morning_196 : decode cX12_morning 196 = .ok (.iaload, 1) := by decide +kernel
theorem dX12_morning_197 : decode cX12_morning 197 = .ok (.iaload, 1) := by decide +kernel
theorem dX12_morning_198 : decode cX12_morning 198 = .ok (.imul, 1) := by decide +kernel
theorem dX12_morning_199 : decode cX12_morning 199 = .ok (.aload_n 0, 1) := by decide +kernel
theorem dX12_morning_200 : decode cX12_morning 200 = .ok (.getfield 45, 3) := by decide +kernel
theorem dX12_morning_203 : decode cX12_morning 203 = .ok (.aload_n 0, 1) := by decide +kernel
theorem dX12_morning_204 : decode cX12_morning 204 = .ok (.getfield 147, 3) := by decide +kernel
theorem dX12_morning_207 : decode cX12_morning 207 = .ok (.bipush 11, 2) := by decide +kernel
theorem dX12_morning_209 : decode cX12_morning 209 = .ok (.iload 7, 2) := by decide +kernel
theorem dX12_morning_211 : decode cX12_morning 211 = .ok (.imul, 1) := by decide +kernel
theorem dX12_morning_212 : decode cX12_morning 212 = .ok (.iaload, 1) := by decide +kernel
theorem dX12_morning_213 : decode cX12_morning 213 = .ok (.iaload, 1) := by decide +kernel
theorem dX12_morning_214 : decode cX12_morning 214 = .ok (.iadd, 1) := by decide +kernel
theorem dX12_morning_215 : decode cX12_morning 215 = .ok (.iaload, 1) := by decide +kernel
theorem dX12_morning_216 : decode cX12_morning 216 = .ok (.iadd, 1) := by decide +kernel
theorem dX12_morning_217 : decode cX12_morning 217 = .ok (.istore 9, 2) := by decide +kernel
theorem dX12_morning_219 : decode cX12_morning 219 = .ok (.iload 9, 2) := by decide +kernel
theorem dX12_morning_221 : decode cX12_morning 221 = .ok (.iload 8, 2) := by decide +kernel
theorem dX12_morning_223 : decode cX12_morning 223 = .ok (.if_icmp .le 8, 3) := by decide +kernel
theorem dX12_morning_226 : decode cX12_morning 226 = .ok (.iload 9, 2) := by decide +kernel
theorem dX12_morning_228 : decode cX12_morning 228 = .ok (.goto 5, 3) := by decide +kernel
theorem dX12_morning_231 : decode cX12_morning 231 = .ok (.iload 8, 2) := by decide +kernel
theorem dX12_morning_233 : decode cX12_morning 233 = .ok (.istore 8, 2) := by decide +kernel
theorem dX12_morning_235 : decode cX12_morning 235 = .ok (.iload 8, 2) := by decide +kernel
theorem dX12_morning_237 : decode cX12_morning 237 = .ok (.iload 7, 2) := by decide +kernel
theorem dX12_morning_239 : decode cX12_morning 239 = .ok (.iload_n 1, 1) := by decide +kernel
theorem dX12_morning_240 : decode cX12_morning 240 = .ok (.if_icmp .ne 7, 3) := by decide +kernel
theorem dX12_morning_243 : decode cX12_morning 243 = .ok (.iload_n 2, 1) := by decide +kernel
theorem dX12_morning_244 : decode cX12_morning 244 = .ok (.goto 4, 3) := by decide +kernel
theorem dX12_morning_247 : decode cX12_morning 247 = .ok (.iconst 0, 1) := by decide +kernel
theorem dX12_morning_248 : decode cX12_morning 248 = .ok (.iadd, 1) := by decide +kernel
theorem dX12_morning_249 : decode cX12_morning 249 = .ok (.istore 8, 2) := by decide +kernel
theorem dX12_morning_251 : decode cX12_morning 251 = .ok (.aload_n 0, 1) := by decide +kernel
theorem dX12_morning_252 : decode cX12_morning 252 = .ok (.getfield 144, 3) := by decide +kernel
theorem dX12_morning_255 : decode cX12_morning 255 = .ok (.iload 7, 2) := by decide +kernel
theorem dX12_morning_257 : decode cX12_morning 257 = .ok (.iload 8, 2) := by decide +kernel
theorem dX12_morning_259 : decode cX12_morning 259 = .ok (.aload_n 0, 1) := by decide +kernel
theorem dX12_morning_260 : decode cX12_morning 260 = .ok (.iload 7, 2) := by decide +kernel
theorem dX12_morning_262 : decode cX12_morning 262 = .ok (.invokevirtual 316, 3) := by decide +kernel
theorem dX12_morning_265 : decode cX12_morning 265 = .ok (.iadd, 1) := by decide +kernel
theorem dX12_morning_266 : decode cX12_morning 266 = .ok (.iastore, 1) := by decide +kernel
theorem dX12_morning_267 : decode cX12_morning 267 = .ok (.iload 7, 2) := by decide +kernel
theorem dX12_morning_269 : decode cX12_morning 269 = .ok (.istore 6, 2) := by decide +kernel
theorem dX12_morning_271 : decode cX12_morning 271 = .ok (.aload_n 0, 1) := by decide +kernel
theorem dX12_morning_272 : decode cX12_morning 272 = .ok (.getfield 144, 3) := by decide +kernel
theorem dX12_morning_275 : decode cX12_morning 275 = .ok (.iload 7, 2) := by decide +kernel
theorem dX12_morning_277 : decode cX12_morning 277 = .ok (.iaload, 1) := by decide +kernel
theorem dX12_morning_278 : decode cX12_morning 278 = .ok (.aload_n 0, 1) := by decide +kernel
theorem dX12_morning_279 : decode cX12_morning 279 = .ok (.getfield 108, 3) := by decide +kernel
theorem dX12_morning_282 : decode cX12_morning 282 = .ok (.aload_n 0, 1) := by decide +kernel
theorem dX12_morning_283 : decode cX12_morning 283 = .ok (.getfield 96, 3) := by decide +kernel
theorem dX12_morning_286 : decode cX12_morning 286 = .ok (.iload 7, 2) := by decide +kernel
theorem dX12_morning_288 : decode cX12_morning 288 = .ok (.iaload, 1) := by decide +kernel
theorem dX12_morning_289 : decode cX12_morning 289 = .ok (.iaload, 1) := by decide +kernel
theorem dX12_morning_290 : decode cX12_morning 290 = .ok (.invokestatic 256, 3) := by decide +kernel
theorem dX12_morning_293 : decode cX12_morning 293 = .ok (.if_icmp .le 19, 3) := by decide +kernel
theorem dX12_morning_296 : decode cX12_morning 296 = .ok (.iload 4, 2) := by decide +kernel
theorem dX12_morning_298 : decode cX12_morning 298 = .ok (.aload_n 0, 1) := by decide +kernel
theorem dX12_morning_299 : decode cX12_morning 299 = .ok (.aload_n 0, 1) := by decide +kernel
theorem dX12_morning_300 : decode cX12_morning 300 = .ok (.getfield 93, 3) := by decide +kernel
theorem dX12_morning_303 : decode cX12_morning 303 = .ok (.iload 7, 2) := by decide +kernel
theorem dX12_morning_305 : decode cX12_morning 305 = .ok (.iaload, 1) := by decide +kernel
theorem dX12_morning_306 : decode cX12_morning 306 = .ok (.invokevirtual 215, 3) := by decide +kernel
theorem dX12_morning_309 : decode cX12_morning 309 = .ok (.iadd, 1) := by decide +kernel
theorem dX12_morning_310 : decode cX12_morning 310 = .ok (.istore 4, 2) := by decide +kernel
theorem dX12_morning_312 : decode cX12_morning 312 = .ok (.aload_n 0, 1) := by decide +kernel
theorem dX12_morning_313 : decode cX12_morning 313 = .ok (.getfield 117, 3) := by decide +kernel
theorem dX12_morning_316 : decode cX12_morning 316 = .ok (.iload 7, 2) := by decide +kernel
theorem dX12_morning_318 : decode cX12_morning 318 = .ok (.iaload, 1) := by decide +kernel
theorem dX12_morning_319 : decode cX12_morning 319 = .ok (.istore 7, 2) := by decide +kernel
theorem dX12_morning_321 : decode cX12_morning 321 = .ok (.goto (-166), 3) := by decide +kernel
theorem dX12_morning_324 : decode cX12_morning 324 = .ok (.iinc 5 1, 3) := by decide +kernel
theorem dX12_morning_327 : decode cX12_morning 327 = .ok (.goto (-200), 3) := by decide +kernel
theorem dX12_morning_330 : decode cX12_morning 330 = .ok (.aload_n 0, 1) := by decide +kernel
theorem dX12_morning_331 : decode cX12_morning 331 = .ok (.aload_n 0, 1) := by decide +kernel
theorem dX12_morning_332 : decode cX12_morning 332 = .ok (.getfield 230, 3) := by decide +kernel
theorem dX12_morning_335 : decode cX12_morning 335 = .ok (.putfield 319, 3) := by decide +kernel
theorem dX12_morning_338 : decode cX12_morning 338 = .ok (.iload 4, 2) := by decide +kernel
theorem dX12_morning_340 : decode cX12_morning 340 = .ok (.ireturn, 1) := by decide +kernel
theorem dX12_withSnow_0 : decode cX12_withSnow 0 = .ok (.iconst 0, 1) := by decide +kernel
theorem dX12_withSnow_1 : decode cX12_withSnow 1 = .ok (.istore_n 2, 1) := by decide +kernel
theorem dX12_withSnow_2 : decode cX12_withSnow 2 = .ok (.iconst 0, 1) := by decide +kernel
theorem dX12_withSnow_3 : decode cX12_withSnow 3 = .ok (.istore_n 3, 1) := by decide +kernel
theorem dX12_withSnow_4 : decode cX12_withSnow 4 = .ok (.aload_n 0, 1) := by decide +kernel
theorem dX12_withSnow_5 : decode cX12_withSnow 5 = .ok (.getfield 147, 3) := by decide +kernel
theorem dX12_withSnow_8 : decode cX12_withSnow 8 = .ok (.bipush 11, 2) := by decide +kernel
theorem dX12_withSnow_10 : decode cX12_withSnow 10 = .ok (.iload_n 1, 1) := by decide +kernel
theorem dX12_withSnow_11 : decode cX12_withSnow 11 = .ok (.imul, 1) := by decide +kernel
theorem dX12_withSnow_12 : decode cX12_withSnow 12 = .ok (.iload_n 3, 1) := by decide +kernel
theorem dX12_withSnow_13 : decode cX12_withSnow 13 = .ok (.iadd, 1) := by decide +kernel
theorem dX12_withSnow_14 : decode cX12_withSnow 14 = .ok (.iaload, 1) := by decide +kernel
theorem dX12_withSnow_15 : decode cX12_withSnow 15 = .ok (.ifCond .lt 84, 3) := by decide +kernel
theorem dX12_withSnow_18 : decode cX12_withSnow 18 = .ok (.aload_n 0, 1) := by decide +kernel
theorem dX12_withSnow_19 : decode cX12_withSnow 19 = .ok (.getfield 147, 3) := by decide +kernel
theorem dX12_withSnow_22 : decode cX12_withSnow 22 = .ok (.bipush 11, 2) := by decide +kernel
theorem dX12_withSnow_24 : decode cX12_withSnow 24 = .ok (.iload_n 1, 1) := by decide +kernel
theorem dX12_withSnow_25 : decode cX12_withSnow 25 = .ok (.imul, 1) := by decide +kernel
theorem dX12_withSnow_26 : decode cX12_withSnow 26 = .ok (.iload_n 3, 1) := by decide +kernel
theorem dX12_withSnow_27 : decode cX12_withSnow 27 = .ok (.iadd, 1) := by decide +kernel
theorem dX12_withSnow_28 : decode cX12_withSnow 28 = .ok (.iaload, 1) := by decide +kernel
theorem dX12_withSnow_29 : decode cX12_withSnow 29 = .ok (.istore 4, 2) := by decide +kernel
theorem dX12_withSnow_31 : decode cX12_withSnow 31 = .ok (.aload_n 0, 1) := by decide +kernel
theorem dX12_withSnow_32 : decode cX12_withSnow 32 = .ok (.getfield 147, 3) := by decide +kernel
theorem dX12_withSnow_35 : decode cX12_withSnow 35 = .ok (.bipush 11, 2) := by decide +kernel
theorem dX12_withSnow_37 : decode cX12_withSnow 37 = .ok (.iload_n 1, 1) := by decide +kernel
theorem dX12_withSnow_38 : decode cX12_withSnow 38 = .ok (.imul, 1) := by decide +kernel
theorem dX12_withSnow_39 : decode cX12_withSnow 39 = .ok (.iload_n 3, 1) := by decide +kernel
theorem dX12_withSnow_40 : decode cX12_withSnow 40 = .ok (.iadd, 1) := by decide +kernel
theorem dX12_withSnow_41 : decode cX12_withSnow 41 = .ok (.iconst 1, 1) := by decide +kernel
theorem dX12_withSnow_42 : decode cX12_withSnow 42 = .ok (.iadd, 1) := by decide +kernel
theorem dX12_withSnow_43 : decode cX12_withSnow 43 = .ok (.iaload, 1) := by decide +kernel
theorem dX12_withSnow_44 : decode cX12_withSnow 44 = .ok (.istore 5, 2) := by decide +kernel
theorem dX12_withSnow_46 : decode cX12_withSnow 46 = .ok (.iload_n 2, 1) := by decide +kernel
theorem dX12_withSnow_47 : decode cX12_withSnow 47 = .ok (.iconst 1, 1) := by decide +kernel
theorem dX12_withSnow_48 : decode cX12_withSnow 48 = .ok (.aload_n 0, 1) := by decide +kernel
theorem dX12_withSnow_49 : decode cX12_withSnow 49 = .ok (.getfield 75, 3) := by decide +kernel
theorem dX12_withSnow_52 : decode cX12_withSnow 52 = .ok (.bipush 8, 2) := by decide +kernel
theorem dX12_withSnow_54 : decode cX12_withSnow 54 = .ok (.aload_n 0, 1) := by decide +kernel
theorem dX12_withSnow_55 : decode cX12_withSnow 55 = .ok (.getfield 45, 3) := by decide +kernel
theorem dX12_withSnow_58 : decode cX12_withSnow 58 = .ok (.iload 4, 2) := by decide +kernel
theorem dX12_withSnow_60 : decode cX12_withSnow 60 = .ok (.iaload, 1) := by decide +kernel
theorem dX12_withSnow_61 : decode cX12_withSnow 61 = .ok (.imul, 1) := by decide +kernel
theorem dX12_withSnow_62 : decode cX12_withSnow 62 = .ok (.iload 5, 2) := by decide +kernel
theorem dX12_withSnow_64 : decode cX12_withSnow 64 = .ok (.ifCond .ge 17, 3) := by decide +kernel
theorem dX12_withSnow_67 : decode cX12_withSnow 67 = .ok (.aload_n 0, 1) := by decide +kernel
theorem dX12_withSnow_68 : decode cX12_withSnow 68 = .ok (.getfield 33, 3) := by decide +kernel
theorem dX12_withSnow_71 : decode cX12_withSnow 71 = .ok (.aload_n 0, 1) := by decide +kernel
theorem dX12_withSnow_72 : decode cX12_withSnow 72 = .ok (.getfield 96, 3) := by decide +kernel
theorem dX12_withSnow_75 : decode cX12_withSnow 75 = .ok (.iload_n 1, 1) := by decide +kernel
theorem dX12_withSnow_76 : decode cX12_withSnow 76 = .ok (.iaload, 1) := by decide +kernel
theorem dX12_withSnow_77 : decode cX12_withSnow 77 = .ok (.iaload, 1) := by decide +kernel
theorem dX12_withSnow_78 : decode cX12_withSnow 78 = .ok (.goto 10, 3) := by decide +kernel
theorem dX12_withSnow_81 : decode cX12_withSnow 81 = .ok (.aload_n 0, 1) := by decide +kernel
theorem dX12_withSnow_82 : decode cX12_withSnow 82 = .ok (.getfield 45, 3) := by decide +kernel
theorem dX12_withSnow_85 : decode cX12_withSnow 85 = .ok (.iload 5, 2) := by decide +kernel
theorem dX12_withSnow_87 : decode cX12_withSnow 87 = .ok (.iaload, 1) := by decide +kernel
theorem dX12_withSnow_88 : decode cX12_withSnow 88 = .ok (.iadd, 1) := by decide +kernel
theorem dX12_withSnow_89 : decode cX12_withSnow 89 = .ok (.iaload, 1) := by decide +kernel
theorem dX12_withSnow_90 : decode cX12_withSnow 90 = .ok (.iadd, 1) := by decide +kernel
theorem dX12_withSnow_91 : decode cX12_withSnow 91 = .ok (.iadd, 1) := by decide +kernel
theorem dX12_withSnow_92 : decode cX12_withSnow 92 = .ok (.istore_n 2, 1) := by decide +kernel
theorem dX12_withSnow_93 : decode cX12_withSnow 93 = .ok (.iinc 3 1, 3) := by decide +kernel
theorem dX12_withSnow_96 : decode cX12_withSnow 96 = .ok (.goto (-92), 3) := by decide +kernel
theorem dX12_withSnow_99 : decode cX12_withSnow 99 = .ok (.iload_n 2, 1) := by decide +kernel
theorem dX12_withSnow_100 : decode cX12_withSnow 100 = .ok (.ireturn, 1) := by decide +kernel
theorem dX12_comes_0 : decode cX12_comes 0 = .ok (.iload_n 1, 1) := by decide +kernel
theorem dX12_comes_1 : decode cX12_comes 1 = .ok (.ifCond .ge 10, 3) := by decide +kernel
theorem dX12_comes_4 : decode cX12_comes 4 = .ok (.aload_n 0, 1) := by decide +kernel
theorem dX12_comes_5 : decode cX12_comes 5 = .ok (.ldc 185, 2) := by decide +kernel
theorem dX12_comes_7 : decode cX12_comes 7 = .ok (.invokevirtual 177, 3) := by decide +kernel
theorem dX12_comes_10 : decode cX12_comes 10 = .ok (.ireturn, 1) := by decide +kernel
theorem dX12_comes_11 : decode cX12_comes 11 = .ok (.iload_n 1, 1) := by decide +kernel
theorem dX12_comes_12 : decode cX12_comes 12 = .ok (.aload_n 0, 1) := by decide +kernel
theorem dX12_comes_13 : decode cX12_comes 13 = .ok (.getfield 319, 3) := by decide +kernel
theorem dX12_comes_16 : decode cX12_comes 16 = .ok (.if_icmp .ge 12, 3) := by decide +kernel
theorem dX12_comes_19 : decode cX12_comes 19 = .ok (.aload_n 0, 1) := by decide +kernel
theorem dX12_comes_20 : decode cX12_comes 20 = .ok (.getfield 144, 3) := by decide +kernel
theorem dX12_comes_23 : decode cX12_comes 23 = .ok (.iload_n 1, 1) := by decide +kernel
theorem dX12_comes_24 : decode cX12_comes 24 = .ok (.iaload, 1) := by decide +kernel
theorem dX12_comes_25 : decode cX12_comes 25 = .ok (.goto 9, 3) := by decide +kernel
theorem dX12_comes_28 : decode cX12_comes 28 = .ok (.aload_n 0, 1) := by decide +kernel
theorem dX12_comes_29 : decode cX12_comes 29 = .ok (.ldc 197, 2) := by decide +kernel
theorem dX12_comes_31 : decode cX12_comes 31 = .ok (.invokevirtual 177, 3) := by decide +kernel
theorem dX12_comes_34 : decode cX12_comes 34 = .ok (.ireturn, 1) := by decide +kernel
theorem dX12_fair_0 : decode cX12_fair 0 = .ok (.iload_n 1, 1) := by decide +kernel
theorem dX12_fair_1 : decode cX12_fair 1 = .ok (.iconst 0, 1) := by decide +kernel
theorem dX12_fair_2 : decode cX12_fair 2 = .ok (.iconst 3, 1) := by decide +kernel
theorem dX12_fair_3 : decode cX12_fair 3 = .ok (.invokestatic 159, 3) := by decide +kernel
theorem dX12_fair_6 : decode cX12_fair 6 = .ok (.ifCond .eq 12, 3) := by decide +kernel
theorem dX12_fair_9 : decode cX12_fair 9 = .ok (.iload_n 2, 1) := by decide +kernel
theorem dX12_fair_10 : decode cX12_fair 10 = .ok (.iconst 0, 1) := by decide +kernel
theorem dX12_fair_11 : decode cX12_fair 11 = .ok (.iconst 3, 1) := by decide +kernel
theorem dX12_fair_12 : decode cX12_fair 12 = .ok (.invokestatic 159, 3) := by decide +kernel
theorem dX12_fair_15 : decode cX12_fair 15 = .ok (.ifCond .ne 10, 3) := by decide +kernel
theorem dX12_fair_18 : decode cX12_fair 18 = .ok (.aload_n 0, 1) := by decide +kernel
theorem dX12_fair_19 : decode cX12_fair 19 = .ok (.ldc 185, 2) := by decide +kernel
theorem dX12_fair_21 : decode cX12_fair 21 = .ok (.invokevirtual 177, 3) := by decide +kernel
theorem dX12_fair_24 : decode cX12_fair 24 = .ok (.ireturn, 1) := by decide +kernel
theorem dX12_fair_25 : decode cX12_fair 25 = .ok (.aload_n 0, 1) := by decide +kernel
theorem dX12_fair_26 : decode cX12_fair 26 = .ok (.invokevirtual 243, 3) := by decide +kernel
theorem dX12_fair_29 : decode cX12_fair 29 = .ok (.aload_n 0, 1) := by decide +kernel
theorem dX12_fair_30 : decode cX12_fair 30 = .ok (.getfield 233, 3) := by decide +kernel
theorem dX12_fair_33 : decode cX12_fair 33 = .ok (.ifCond .ne 20, 3) := by decide +kernel
theorem dX12_fair_36 : decode cX12_fair 36 = .ok (.iload_n 2, 1) := by decide +kernel
theorem dX12_fair_37 : decode cX12_fair 37 = .ok (.iconst 1, 1) := by decide +kernel
theorem dX12_fair_38 : decode cX12_fair 38 = .ok (.if_icmp .eq 8, 3) := by decide +kernel
theorem dX12_fair_41 : decode cX12_fair 41 = .ok (.iload_n 2, 1) := by decide +kernel
theorem dX12_fair_42 : decode cX12_fair 42 = .ok (.iconst 2, 1) := by decide +kernel
theorem dX12_fair_43 : decode cX12_fair 43 = .ok (.if_icmp .ne 10, 3) := by decide +kernel
theorem dX12_fair_46 : decode cX12_fair 46 = .ok (.aload_n 0, 1) := by decide +kernel
theorem dX12_fair_47 : decode cX12_fair 47 = .ok (.ldc 197, 2) := by decide +kernel
theorem dX12_fair_49 : decode cX12_fair 49 = .ok (.invokevirtual 177, 3) := by decide +kernel
theorem dX12_fair_52 : decode cX12_fair 52 = .ok (.ireturn, 1) := by decide +kernel
theorem dX12_fair_53 : decode cX12_fair 53 = .ok (.iconst 0, 1) := by decide +kernel
theorem dX12_fair_54 : decode cX12_fair 54 = .ok (.istore_n 3, 1) := by decide +kernel
theorem dX12_fair_55 : decode cX12_fair 55 = .ok (.iconst 0, 1) := by decide +kernel
theorem dX12_fair_56 : decode cX12_fair 56 = .ok (.istore 4, 2) := by decide +kernel
theorem dX12_fair_58 : decode cX12_fair 58 = .ok (.iload 4, 2) := by decide +kernel
theorem dX12_fair_60 : decode cX12_fair 60 = .ok (.aload_n 0, 1) := by decide +kernel
theorem dX12_fair_61 : decode cX12_fair 61 = .ok (.getfield 166, 3) := by decide +kernel
theorem dX12_fair_64 : decode cX12_fair 64 = .ok (.if_icmp .ge 138, 3) := by decide +kernel
theorem dX12_fair_67 : decode cX12_fair 67 = .ok (.aload_n 0, 1) := by decide +kernel
theorem dX12_fair_68 : decode cX12_fair 68 = .ok (.getfield 51, 3) := by decide +kernel
theorem dX12_fair_71 : decode cX12_fair 71 = .ok (.iload 4, 2) := by decide +kernel
theorem dX12_fair_73 : decode cX12_fair 73 = .ok (.iaload, 1) := by decide +kernel
theorem dX12_fair_74 : decode cX12_fair 74 = .ok (.iload_n 1, 1) := by decide +kernel
theorem dX12_fair_75 : decode cX12_fair 75 = .ok (.if_icmp .eq 6, 3) := by decide +kernel
theorem dX12_fair_78 : decode cX12_fair 78 = .ok (.goto 118, 3) := by decide +kernel
theorem dX12_fair_81 : decode cX12_fair 81 = .ok (.aload_n 0, 1) := by decide +kernel
theorem dX12_fair_82 : decode cX12_fair 82 = .ok (.getfield 39, 3) := by decide +kernel
theorem dX12_fair_85 : decode cX12_fair 85 = .ok (.aload_n 0, 1) := by decide +kernel
theorem dX12_fair_86 : decode cX12_fair 86 = .ok (.getfield 42, 3) := by decide +kernel
theorem dX12_fair_89 : decode cX12_fair 89 = .ok (.iload 4, 2) := by decide +kernel
theorem dX12_fair_91 : decode cX12_fair 91 = .ok (.iaload, 1) := by decide +kernel
theorem dX12_fair_92 : decode cX12_fair 92 = .ok (.iaload, 1) := by decide +kernel
theorem dX12_fair_93 : decode cX12_fair 93 = .ok (.aload_n 0, 1) := by decide +kernel
theorem dX12_fair_94 : decode cX12_fair 94 = .ok (.getfield 36, 3) := by decide +kernel
theorem dX12_fair_97 : decode cX12_fair 97 = .ok (.aload_n 0, 1) := by decide +kernel
theorem dX12_fair_98 : decode cX12_fair 98 = .ok (.getfield 42, 3) := by decide +kernel
theorem dX12_fair_101 : decode cX12_fair 101 = .ok (.iload 4, 2) := by decide +kernel
theorem dX12_fair_103 : decode cX12_fair 103 = .ok (.iaload, 1) := by decide +kernel
theorem dX12_fair_104 : decode cX12_fair 104 = .ok (.iaload, 1) := by decide +kernel
theorem dX12_fair_105 : decode cX12_fair 105 = .ok (.isub, 1) := by decide +kernel
theorem dX12_fair_106 : decode cX12_fair 106 = .ok (.istore 5, 2) := by decide +kernel
theorem dX12_fair_108 : decode cX12_fair 108 = .ok (.iload_n 2, 1) := by decide +kernel
theorem dX12_fair_109 : decode cX12_fair 109 = .ok (.ifCond .ne 13, 3) := by decide +kernel
theorem dX12_fair_112 : decode cX12_fair 112 = .ok (.iload_n 3, 1) := by decide +kernel
theorem dX12_fair_113 : decode cX12_fair 113 = .ok (.aload_n 0, 1) := by decide +kernel
theorem dX12_fair_114 : decode cX12_fair 114 = .ok (.getfield 48, 3) := by decide +kernel
theorem dX12_fair_117 : decode cX12_fair 117 = .ok (.iload 4, 2) := by decide +kernel
theorem dX12_fair_119 : decode cX12_fair 119 = .ok (.iaload, 1) := by decide +kernel
theorem dX12_fair_120 : decode cX12_fair 120 = .ok (.iadd, 1) := by decide +kernel
theorem dX12_fair_121 : decode cX12_fair 121 = .ok (.istore_n 3, 1) := by decide +kernel
theorem dX12_fair_122 : decode cX12_fair 122 = .ok (.iload_n 2, 1) := by decide +kernel
theorem dX12_fair_123 : decode cX12_fair 123 = .ok (.iconst 1, 1) := by decide +kernel
theorem dX12_fair_124 : decode cX12_fair 124 = .ok (.if_icmp .ne 20, 3) := by decide +kernel
theorem dX12_fair_127 : decode cX12_fair 127 = .ok (.iload_n 3, 1) := by decide +kernel
theorem dX12_fair_128 : decode cX12_fair 128 = .ok (.aload_n 0, 1) := by decide +kernel
theorem dX12_fair_129 : decode cX12_fair 129 = .ok (.getfield 48, 3) := by decide +kernel
theorem dX12_fair_132 : decode cX12_fair 132 = .ok (.iload 4, 2) := by decide +kernel
theorem dX12_fair_134 : decode cX12_fair 134 = .ok (.iaload, 1) := by decide +kernel
theorem dX12_fair_135 : decode cX12_fair 135 = .ok (.aload_n 0, 1) := by decide +kernel
theorem dX12_fair_136 : decode cX12_fair 136 = .ok (.iload 4, 2) := by decide +kernel
theorem dX12_fair_138 : decode cX12_fair 138 = .ok (.invokevirtual 253, 3) := by decide +kernel
theorem dX12_fair_141 : decode cX12_fair 141 = .ok (.imul, 1) := by decide +kernel
theorem dX12_fair_142 : decode cX12_fair 142 = .ok (.iadd, 1) := by decide +kernel
theorem dX12_fair_143 : decode cX12_fair 143 = .ok (.istore_n 3, 1) := by decide +kernel
theorem dX12_fair_144 : decode cX12_fair 144 = .ok (.iload_n 2, 1) := by decide +kernel
theorem dX12_fair_145 : decode cX12_fair 145 = .ok (.iconst 2, 1) := by decide +kernel
theorem dX12_fair_146 : decode cX12_fair 146 = .ok (.if_icmp .ne 24, 3) := by decide +kernel
theorem dX12_fair_149 : decode cX12_fair 149 = .ok (.aload_n 0, 1) := by decide +kernel
theorem dX12_fair_150 : decode cX12_fair 150 = .ok (.iload 4, 2) := by decide +kernel
theorem dX12_fair_152 : decode cX12_fair 152 = .ok (.invokevirtual 253, 3) := by decide +kernel
theorem dX12_fair_155 : decode cX12_fair 155 = .ok (.iload_n 3, 1) := by decide +kernel
theorem dX12_fair_156 : decode cX12_fair 156 = .ok (.if_icmp .le 12, 3) := by decide +kernel
theorem dX12_fair_159 : decode cX12_fair 159 = .ok (.aload_n 0, 1) := by decide +kernel
theorem dX12_fair_160 : decode cX12_fair 160 = .ok (.iload 4, 2) := by decide +kernel
theorem dX12_fair_162 : decode cX12_fair 162 = .ok (.invokevirtual 253, 3) := by decide +kernel
theorem dX12_fair_165 : decode cX12_fair 165 = .ok (.goto 4, 3) := by decide +kernel
theorem dX12_fair_168 : decode cX12_fair 168 = .ok (.iload_n 3, 1) := by decide +kernel
theorem dX12_fair_169 : decode cX12_fair 169 = .ok (.istore_n 3, 1) := by decide +kernel
theorem dX12_fair_170 : decode cX12_fair 170 = .ok (.iload_n 2, 1) := by decide +kernel
theorem dX12_fair_171 : decode cX12_fair 171 = .ok (.iconst 3, 1) := by decide +kernel
theorem dX12_fair_172 : decode cX12_fair 172 = .ok (.if_icmp .ne 24, 3) := by decide +kernel
theorem dX12_fair_175 : decode cX12_fair 175 = .ok (.iload 5, 2) := by decide +kernel
theorem dX12_fair_177 : decode cX12_fair 177 = .ok (.ifCond .le 19, 3) := by decide +kernel
theorem dX12_fair_180 : decode cX12_fair 180 = .ok (.iload_n 3, 1) := by decide +kernel
theorem dX12_fair_181 : decode cX12_fair 181 = .ok (.bipush 20, 2) := by decide +kernel
theorem dX12_fair_183 : decode cX12_fair 183 = .ok (.iload 5, 2) := by decide +kernel
theorem dX12_fair_185 : decode cX12_fair 185 = .ok (.imul, 1) := by decide +kernel
theorem dX12_fair_186 : decode cX12_fair 186 = .ok (.aload_n 0, 1) := by decide +kernel
theorem dX12_fair_187 : decode cX12_fair 187 = .ok (.getfield 48, 3) := by decide +kernel
theorem dX12_fair_190 : decode cX12_fair 190 = .ok (.iload 4, 2) := by decide +kernel
theorem dX12_fair_192 : decode cX12_fair 192 = .ok (.iaload, 1) := by decide +kernel
theorem dX12_fair_193 : decode cX12_fair 193 = .ok (.imul, 1) := by decide +kernel
theorem dX12_fair_194 : decode cX12_fair 194 = .ok (.iadd, 1) := by decide +kernel
theorem dX12_fair_195 : decode cX12_fair 195 = .ok (.istore_n 3, 1) := by decide +kernel
theorem dX12_fair_196 : decode cX12_fair 196 = .ok (.iinc 4 1, 3) := by decide +kernel
theorem dX12_fair_199 : decode cX12_fair 199 = .ok (.goto (-141), 3) := by decide +kernel
theorem dX12_fair_202 : decode cX12_fair 202 = .ok (.iload_n 3, 1) := by decide +kernel
theorem dX12_fair_203 : decode cX12_fair 203 = .ok (.ireturn, 1) := by decide +kernel
theorem dX12_isSheet_0 : decode cX12_isSheet 0 = .ok (.iload_n 0, 1) := by decide +kernel
theorem dX12_isSheet_1 : decode cX12_isSheet 1 = .ok (.iconst 0, 1) := by decide +kernel
theorem dX12_isSheet_2 : decode cX12_isSheet 2 = .ok (.iconst 3, 1) := by decide +kernel
theorem dX12_isSheet_3 : decode cX12_isSheet 3 = .ok (.invokestatic 159, 3) := by decide +kernel
theorem dX12_isSheet_6 : decode cX12_isSheet 6 = .ok (.ireturn, 1) := by decide +kernel
theorem dX12_sheet_0 : decode cX12_sheet 0 = .ok (.iload_n 1, 1) := by decide +kernel
theorem dX12_sheet_1 : decode cX12_sheet 1 = .ok (.invokestatic 322, 3) := by decide +kernel
theorem dX12_sheet_4 : decode cX12_sheet 4 = .ok (.ifCond .eq 25, 3) := by decide +kernel
theorem dX12_sheet_7 : decode cX12_sheet 7 = .ok (.iload_n 2, 1) := by decide +kernel
theorem dX12_sheet_8 : decode cX12_sheet 8 = .ok (.ifCond .eq 28, 3) := by decide +kernel
theorem dX12_sheet_11 : decode cX12_sheet 11 = .ok (.iload_n 2, 1) := by decide +kernel
theorem dX12_sheet_12 : decode cX12_sheet 12 = .ok (.bipush 8, 2) := by decide +kernel
theorem dX12_sheet_14 : decode cX12_sheet 14 = .ok (.if_icmp .eq 22, 3) := by decide +kernel
theorem dX12_sheet_17 : decode cX12_sheet 17 = .ok (.iload_n 2, 1) := by decide +kernel
theorem dX12_sheet_18 : decode cX12_sheet 18 = .ok (.bipush 16, 2) := by decide +kernel
theorem dX12_sheet_20 : decode cX12_sheet 20 = .ok (.if_icmp .eq 16, 3) := by decide +kernel
theorem dX12_sheet_23 : decode cX12_sheet 23 = .ok (.iload_n 2, 1) := by decide +kernel
theorem dX12_sheet_24 : decode cX12_sheet 24 = .ok (.bipush 32, 2) := by decide +kernel
theorem dX12_sheet_26 : decode cX12_sheet 26 = .ok (.if_icmp .eq 10, 3) := by decide +kernel
theorem dX12_sheet_29 : decode cX12_sheet 29 = .ok (.aload_n 0, 1) := by decide +kernel
theorem dX12_sheet_30 : decode cX12_sheet 30 = .ok (.ldc 185, 2) := by decide +kernel
theorem dX12_sheet_32 : decode cX12_sheet 32 = .ok (.invokevirtual 177, 3) := by decide +kernel
theorem dX12_sheet_35 : decode cX12_sheet 35 = .ok (.ireturn, 1) := by decide +kernel
theorem dX12_sheet_36 : decode cX12_sheet 36 = .ok (.iload_n 3, 1) := by decide +kernel
theorem dX12_sheet_37 : decode cX12_sheet 37 = .ok (.ifCond .ge 11, 3) := by decide +kernel
theorem dX12_sheet_40 : decode cX12_sheet 40 = .ok (.aload_n 0, 1) := by decide +kernel
theorem dX12_sheet_41 : decode cX12_sheet 41 = .ok (.ldc_w 325, 3) := by decide +kernel
theorem dX12_sheet_44 : decode cX12_sheet 44 = .ok (.invokevirtual 177, 3) := by decide +kernel
theorem dX12_sheet_47 : decode cX12_sheet 47 = .ok (.ireturn, 1) := by decide +kernel
theorem dX12_sheet_48 : decode cX12_sheet 48 = .ok (.iload_n 3, 1) := by decide +kernel
theorem dX12_sheet_49 : decode cX12_sheet 49 = .ok (.bipush 10, 2) := by decide +kernel
theorem dX12_sheet_51 : decode cX12_sheet 51 = .ok (.if_icmp .le 10, 3) := by decide +kernel
theorem dX12_sheet_54 : decode cX12_sheet 54 = .ok (.aload_n 0, 1) := by decide +kernel
theorem dX12_sheet_55 : decode cX12_sheet 55 = .ok (.ldc 185, 2) := by decide +kernel
theorem dX12_sheet_57 : decode cX12_sheet 57 = .ok (.invokevirtual 177, 3) := by decide +kernel
theorem dX12_sheet_60 : decode cX12_sheet 60 = .ok (.ireturn, 1) := by decide +kernel
theorem dX12_sheet_61 : decode cX12_sheet 61 = .ok (.aload_n 0, 1) := by decide +kernel
theorem dX12_sheet_62 : decode cX12_sheet 62 = .ok (.getfield 66, 3) := by decide +kernel
theorem dX12_sheet_65 : decode cX12_sheet 65 = .ok (.iload_n 1, 1) := by decide +kernel
theorem dX12_sheet_66 : decode cX12_sheet 66 = .ok (.iload_n 2, 1) := by decide +kernel
theorem dX12_sheet_67 : decode cX12_sheet 67 = .ok (.iastore, 1) := by decide +kernel
theorem dX12_sheet_68 : decode cX12_sheet 68 = .ok (.aload_n 0, 1) := by decide +kernel
theorem dX12_sheet_69 : decode cX12_sheet 69 = .ok (.getfield 69, 3) := by decide +kernel
theorem dX12_sheet_72 : decode cX12_sheet 72 = .ok (.iload_n 1, 1) := by decide +kernel
theorem dX12_sheet_73 : decode cX12_sheet 73 = .ok (.iload_n 2, 1) := by decide +kernel
theorem dX12_sheet_74 : decode cX12_sheet 74 = .ok (.ifCond .ne 7, 3) := by decide +kernel
theorem dX12_sheet_77 : decode cX12_sheet 77 = .ok (.iconst 0, 1) := by decide +kernel
theorem dX12_sheet_78 : decode cX12_sheet 78 = .ok (.goto 4, 3) := by decide +kernel
theorem dX12_sheet_81 : decode cX12_sheet 81 = .ok (.iload_n 3, 1) := by decide +kernel
theorem dX12_sheet_82 : decode cX12_sheet 82 = .ok (.iastore, 1) := by decide +kernel
theorem dX12_sheet_83 : decode cX12_sheet 83 = .ok (.iconst 0, 1) := by decide +kernel
theorem dX12_sheet_84 : decode cX12_sheet 84 = .ok (.istore 4, 2) := by decide +kernel
theorem dX12_sheet_86 : decode cX12_sheet 86 = .ok (.iload 4, 2) := by decide +kernel
theorem dX12_sheet_88 : decode cX12_sheet 88 = .ok (.bipush 10, 2) := by decide +kernel
theorem dX12_sheet_90 : decode cX12_sheet 90 = .ok (.if_icmp .ge 22, 3) := by decide +kernel
theorem dX12_sheet_93 : decode cX12_sheet 93 = .ok (.aload_n 0, 1) := by decide +kernel
theorem dX12_sheet_94 : decode cX12_sheet 94 = .ok (.getfield 72, 3) := by decide +kernel
theorem dX12_sheet_97 : decode cX12_sheet 97 = .ok (.bipush 10, 2) := by decide +kernel
theorem dX12_sheet_99 : decode cX12_sheet 99 = .ok (.iload_n 1, 1) := by decide +kernel
theorem dX12_sheet_100 : decode cX12_sheet 100 = .ok (.imul, 1) := by decide +kernel
theorem dX12_sheet_101 : decode cX12_sheet 101 = .ok (.iload 4, 2) := by decide +kernel
theorem dX12_sheet_103 : decode cX12_sheet 103 = .ok (.iadd, 1) := by decide +kernel
theorem dX12_sheet_104 : decode cX12_sheet 104 = .ok (.iconst 0, 1) := by decide +kernel
theorem dX12_sheet_105 : decode cX12_sheet 105 = .ok (.iastore, 1) := by decide +kernel
theorem dX12_sheet_106 : decode cX12_sheet 106 = .ok (.iinc 4 1, 3) := by decide +kernel
theorem dX12_sheet_109 : decode cX12_sheet 109 = .ok (.goto (-23), 3) := by decide +kernel
theorem dX12_sheet_112 : decode cX12_sheet 112 = .ok (.aload_n 0, 1) := by decide +kernel
theorem dX12_sheet_113 : decode cX12_sheet 113 = .ok (.getfield 69, 3) := by decide +kernel
theorem dX12_sheet_116 : decode cX12_sheet 116 = .ok (.iload_n 1, 1) := by decide +kernel
theorem dX12_sheet_117 : decode cX12_sheet 117 = .ok (.iaload, 1) := by decide +kernel
theorem dX12_sheet_118 : decode cX12_sheet 118 = .ok (.ireturn, 1) := by decide +kernel
theorem dX12_write_0 : decode cX12_write 0 = .ok (.iload_n 1, 1) := by decide +kernel
theorem dX12_write_1 : decode cX12_write 1 = .ok (.invokestatic 322, 3) := by decide +kernel
theorem dX12_write_4 : decode cX12_write 4 = .ok (.ifCond .ne 10, 3) := by decide +kernel
theorem dX12_write_7 : decode cX12_write 7 = .ok (.aload_n 0, 1) := by decide +kernel
theorem dX12_write_8 : decode cX12_write 8 = .ok (.ldc 185, 2) := by decide +kernel
theorem dX12_write_10 : decode cX12_write 10 = .ok (.invokevirtual 177, 3) := by decide +kernel
theorem dX12_write_13 : decode cX12_write 13 = .ok (.ireturn, 1) := by decide +kernel
theorem dX12_write_14 : decode cX12_write 14 = .ok (.aload_n 0, 1) := by decide +kernel
theorem dX12_write_15 : decode cX12_write 15 = .ok (.getfield 66, 3) := by decide +kernel
theorem dX12_write_18 : decode cX12_write 18 = .ok (.iload_n 1, 1) := by decide +kernel
theorem dX12_write_19 : decode cX12_write 19 = .ok (.iaload, 1) := by decide +kernel
theorem dX12_write_20 : decode cX12_write 20 = .ok (.ifCond .ne 11, 3) := by decide +kernel
theorem dX12_write_23 : decode cX12_write 23 = .ok (.aload_n 0, 1) := by decide +kernel
theorem dX12_write_24 : decode cX12_write 24 = .ok (.ldc_w 326, 3) := by decide +kernel
theorem dX12_write_27 : decode cX12_write 27 = .ok (.invokevirtual 177, 3) := by decide +kernel
theorem dX12_write_30 : decode cX12_write 30 = .ok (.ireturn, 1) := by decide +kernel
theorem dX12_write_31 : decode cX12_write 31 = .ok (.iload_n 2, 1) := by decide +kernel
theorem dX12_write_32 : decode cX12_write 32 = .ok (.iconst 0, 1) := by decide +kernel
theorem dX12_write_33 : decode cX12_write 33 = .ok (.aload_n 0, 1) := by decide +kernel
theorem dX12_write_34 : decode cX12_write 34 = .ok (.getfield 69, 3) := by decide +kernel
theorem dX12_write_37 : decode cX12_write 37 = .ok (.iload_n 1, 1) := by decide +kernel
theorem dX12_write_38 : decode cX12_write 38 = .ok (.iaload, 1) := by decide +kernel
theorem dX12_write_39 : decode cX12_write 39 = .ok (.iconst 1, 1) := by decide +kernel
theorem dX12_write_40 : decode cX12_write 40 = .ok (.isub, 1) := by decide +kernel
theorem dX12_write_41 : decode cX12_write 41 = .ok (.invokestatic 159, 3) := by decide +kernel
theorem dX12_write_44 : decode cX12_write 44 = .ok (.ifCond .ne 10, 3) := by decide +kernel
theorem dX12_write_47 : decode cX12_write 47 = .ok (.aload_n 0, 1) := by decide +kernel
theorem dX12_write_48 : decode cX12_write 48 = .ok (.ldc 185, 2) := by decide +kernel
theorem dX12_write_50 : decode cX12_write 50 = .ok (.invokevirtual 177, 3) := by decide +kernel
theorem dX12_write_53 : decode cX12_write 53 = .ok (.ireturn, 1) := by decide +kernel
theorem dX12_write_54 : decode cX12_write 54 = .ok (.aload_n 0, 1) := by decide +kernel
theorem dX12_write_55 : decode cX12_write 55 = .ok (.getfield 72, 3) := by decide +kernel
theorem dX12_write_58 : decode cX12_write 58 = .ok (.bipush 10, 2) := by decide +kernel
theorem dX12_write_60 : decode cX12_write 60 = .ok (.iload_n 1, 1) := by decide +kernel
theorem dX12_write_61 : decode cX12_write 61 = .ok (.imul, 1) := by decide +kernel
theorem dX12_write_62 : decode cX12_write 62 = .ok (.iload_n 2, 1) := by decide +kernel
theorem dX12_write_63 : decode cX12_write 63 = .ok (.iadd, 1) := by decide +kernel
theorem dX12_write_64 : decode cX12_write 64 = .ok (.iaload, 1) := by decide +kernel
theorem dX12_write_65 : decode cX12_write 65 = .ok (.istore 4, 2) := by decide +kernel
theorem dX12_write_67 : decode cX12_write 67 = .ok (.aload_n 0, 1) := by decide +kernel
theorem dX12_write_68 : decode cX12_write 68 = .ok (.getfield 72, 3) := by decide +kernel
theorem dX12_write_71 : decode cX12_write 71 = .ok (.bipush 10, 2) := by decide +kernel
theorem dX12_write_73 : decode cX12_write 73 = .ok (.iload_n 1, 1) := by decide +kernel
theorem dX12_write_74 : decode cX12_write 74 = .ok (.imul, 1) := by decide +kernel
theorem dX12_write_75 : decode cX12_write 75 = .ok (.iload_n 2, 1) := by decide +kernel
theorem dX12_write_76 : decode cX12_write 76 = .ok (.iadd, 1) := by decide +kernel
theorem dX12_write_77 : decode cX12_write 77 = .ok (.aload_n 0, 1) := by decide +kernel
theorem dX12_write_78 : decode cX12_write 78 = .ok (.getfield 66, 3) := by decide +kernel
theorem dX12_write_81 : decode cX12_write 81 = .ok (.iload_n 1, 1) := by decide +kernel
theorem dX12_write_82 : decode cX12_write 82 = .ok (.iaload, 1) := by decide +kernel
theorem dX12_write_83 : decode cX12_write 83 = .ok (.bipush 8, 2) := by decide +kernel
theorem dX12_write_85 : decode cX12_write 85 = .ok (.if_icmp .ne 8, 3) := by decide +kernel
theorem dX12_write_88 : decode cX12_write 88 = .ok (.iload_n 3, 1) := by decide +kernel
theorem dX12_write_89 : decode cX12_write 89 = .ok (.i2b, 1) := by decide +kernel
theorem dX12_write_90 : decode cX12_write 90 = .ok (.goto 20, 3) := by decide +kernel
theorem dX12_write_93 : decode cX12_write 93 = .ok (.aload_n 0, 1) := by decide +kernel
theorem dX12_write_94 : decode cX12_write 94 = .ok (.getfield 66, 3) := by decide +kernel
theorem dX12_write_97 : decode cX12_write 97 = .ok (.iload_n 1, 1) := by decide +kernel
theorem dX12_write_98 : decode cX12_write 98 = .ok (.iaload, 1) := by decide +kernel
theorem dX12_write_99 : decode cX12_write 99 = .ok (.bipush 16, 2) := by decide +kernel
theorem dX12_write_101 : decode cX12_write 101 = .ok (.if_icmp .ne 8, 3) := by decide +kernel
theorem dX12_write_104 : decode cX12_write 104 = .ok (.iload_n 3, 1) := by decide +kernel
theorem dX12_write_105 : decode cX12_write 105 = .ok (.i2s, 1) := by decide +kernel
theorem dX12_write_106 : decode cX12_write 106 = .ok (.goto 4, 3) := by decide +kernel
theorem dX12_write_109 : decode cX12_write 109 = .ok (.iload_n 3, 1) := by decide +kernel
theorem dX12_write_110 : decode cX12_write 110 = .ok (.iastore, 1) := by decide +kernel
theorem dX12_write_111 : decode cX12_write 111 = .ok (.iload 4, 2) := by decide +kernel
theorem dX12_write_113 : decode cX12_write 113 = .ok (.ireturn, 1) := by decide +kernel
theorem dX12_copy_0 : decode cX12_copy 0 = .ok (.iload_n 1, 1) := by decide +kernel
theorem dX12_copy_1 : decode cX12_copy 1 = .ok (.invokestatic 322, 3) := by decide +kernel
theorem dX12_copy_4 : decode cX12_copy 4 = .ok (.ifCond .eq 10, 3) := by decide +kernel
theorem dX12_copy_7 : decode cX12_copy 7 = .ok (.iload_n 3, 1) := by decide +kernel
theorem dX12_copy_8 : decode cX12_copy 8 = .ok (.invokestatic 322, 3) := by decide +kernel
theorem dX12_copy_11 : decode cX12_copy 11 = .ok (.ifCond .ne 10, 3) := by decide +kernel
theorem dX12_copy_14 : decode cX12_copy 14 = .ok (.aload_n 0, 1) := by decide +kernel
theorem dX12_copy_15 : decode cX12_copy 15 = .ok (.ldc 185, 2) := by decide +kernel
theorem dX12_copy_17 : decode cX12_copy 17 = .ok (.invokevirtual 177, 3) := by decide +kernel
theorem dX12_copy_20 : decode cX12_copy 20 = .ok (.ireturn, 1) := by decide +kernel
theorem dX12_copy_21 : decode cX12_copy 21 = .ok (.aload_n 0, 1) := by decide +kernel
theorem dX12_copy_22 : decode cX12_copy 22 = .ok (.getfield 66, 3) := by decide +kernel
theorem dX12_copy_25 : decode cX12_copy 25 = .ok (.iload_n 1, 1) := by decide +kernel
theorem dX12_copy_26 : decode cX12_copy 26 = .ok (.iaload, 1) := by decide +kernel
theorem dX12_copy_27 : decode cX12_copy 27 = .ok (.ifCond .eq 12, 3) := by decide +kernel
theorem dX12_copy_30 : decode cX12_copy 30 = .ok (.aload_n 0, 1) := by decide +kernel
theorem dX12_copy_31 : decode cX12_copy 31 = .ok (.getfield 66, 3) := by decide +kernel
theorem dX12_copy_34 : decode cX12_copy 34 = .ok (.iload_n 3, 1) := by decide +kernel
theorem dX12_copy_35 : decode cX12_copy 35 = .ok (.iaload, 1) := by decide +kernel
theorem dX12_copy_36 : decode cX12_copy 36 = .ok (.ifCond .ne 11, 3) := by decide +kernel
theorem dX12_copy_39 : decode cX12_copy 39 = .ok (.aload_n 0, 1) := by decide +kernel
theorem dX12_copy_40 : decode cX12_copy 40 = .ok (.ldc_w 326, 3) := by decide +kernel
theorem dX12_copy_43 : decode cX12_copy 43 = .ok (.invokevirtual 177, 3) := by decide +kernel
theorem dX12_copy_46 : decode cX12_copy 46 = .ok (.ireturn, 1) := by decide +kernel
theorem dX12_copy_47 : decode cX12_copy 47 = .ok (.aload_n 0, 1) := by decide +kernel
theorem dX12_copy_48 : decode cX12_copy 48 = .ok (.getfield 66, 3) := by decide +kernel
theorem dX12_copy_51 : decode cX12_copy 51 = .ok (.iload_n 1, 1) := by decide +kernel
theorem dX12_copy_52 : decode cX12_copy 52 = .ok (.iaload, 1) := by decide +kernel
theorem dX12_copy_53 : decode cX12_copy 53 = .ok (.aload_n 0, 1) := by decide +kernel
theorem dX12_copy_54 : decode cX12_copy 54 = .ok (.getfield 66, 3) := by decide +kernel
theorem dX12_copy_57 : decode cX12_copy 57 = .ok (.iload_n 3, 1) := by decide +kernel
theorem dX12_copy_58 : decode cX12_copy 58 = .ok (.iaload, 1) := by decide +kernel
theorem dX12_copy_59 : decode cX12_copy 59 = .ok (.if_icmp .eq 10, 3) := by decide +kernel
theorem dX12_copy_62 : decode cX12_copy 62 = .ok (.aload_n 0, 1) := by decide +kernel
theorem dX12_copy_63 : decode cX12_copy 63 = .ok (.ldc 205, 2) := by decide +kernel
theorem dX12_copy_65 : decode cX12_copy 65 = .ok (.invokevirtual 177, 3) := by decide +kernel
theorem dX12_copy_68 : decode cX12_copy 68 = .ok (.ireturn, 1) := by decide +kernel
theorem dX12_copy_69 : decode cX12_copy 69 = .ok (.iload_n 2, 1) := by decide +kernel
theorem dX12_copy_70 : decode cX12_copy 70 = .ok (.ifCond .lt 48, 3) := by decide +kernel
theorem dX12_copy_73 : decode cX12_copy 73 = .ok (.iload 4, 2) := by decide +kernel
theorem dX12_copy_75 : decode cX12_copy 75 = .ok (.ifCond .lt 43, 3) := by decide +kernel
theorem dX12_copy_78 : decode cX12_copy 78 = .ok (.iload 5, 2) := by decide +kernel
theorem dX12_copy_80 : decode cX12_copy 80 = .ok (.ifCond .lt 38, 3) := by decide +kernel
theorem dX12_copy_83 : decode cX12_copy 83 = .ok (.iload_n 2, 1) := by decide +kernel
theorem dX12_copy_84 : decode cX12_copy 84 = .ok (.i2l, 1) := by decide +kernel
theorem dX12_copy_85 : decode cX12_copy 85 = .ok (.iload 5, 2) := by decide +kernel
theorem dX12_copy_87 : decode cX12_copy 87 = .ok (.i2l, 1) := by decide +kernel
theorem dX12_copy_88 : decode cX12_copy 88 = .ok (.ladd, 1) := by decide +kernel
theorem dX12_copy_89 : decode cX12_copy 89 = .ok (.aload_n 0, 1) := by decide +kernel
theorem dX12_copy_90 : decode cX12_copy 90 = .ok (.getfield 69, 3) := by decide +kernel
theorem dX12_copy_93 : decode cX12_copy 93 = .ok (.iload_n 1, 1) := by decide +kernel
theorem dX12_copy_94 : decode cX12_copy 94 = .ok (.iaload, 1) := by decide +kernel
theorem dX12_copy_95 : decode cX12_copy 95 = .ok (.i2l, 1) := by decide +kernel
theorem dX12_copy_96 : decode cX12_copy 96 = .ok (.lcmp, 1) := by decide +kernel
theorem dX12_copy_97 : decode cX12_copy 97 = .ok (.ifCond .gt 21, 3) := by decide +kernel
theorem dX12_copy_100 : decode cX12_copy 100 = .ok (.iload 4, 2) := by decide +kernel
theorem dX12_copy_102 : decode cX12_copy 102 = .ok (.i2l, 1) := by decide +kernel
theorem dX12_copy_103 : decode cX12_copy 103 = .ok (.iload 5, 2) := by decide +kernel
theorem dX12_copy_105 : decode cX12_copy 105 = .ok (.i2l, 1) := by decide +kernel
theorem dX12_copy_106 : decode cX12_copy 106 = .ok (.ladd, 1) := by decide +kernel
theorem dX12_copy_107 : decode cX12_copy 107 = .ok (.aload_n 0, 1) := by decide +kernel
theorem dX12_copy_108 : decode cX12_copy 108 = .ok (.getfield 69, 3) := by decide +kernel
theorem dX12_copy_111 : decode cX12_copy 111 = .ok (.iload_n 3, 1) := by decide +kernel
theorem dX12_copy_112 : decode cX12_copy 112 = .ok (.iaload, 1) := by decide +kernel
theorem dX12_copy_113 : decode cX12_copy 113 = .ok (.i2l, 1) := by decide +kernel
theorem dX12_copy_114 : decode cX12_copy 114 = .ok (.lcmp, 1) := by decide +kernel
theorem dX12_copy_115 : decode cX12_copy 115 = .ok (.ifCond .le 10, 3) := by decide +kernel
theorem dX12_copy_118 : decode cX12_copy 118 = .ok (.aload_n 0, 1) := by decide +kernel
theorem dX12_copy_119 : decode cX12_copy 119 = .ok (.ldc 185, 2) := by decide +kernel
theorem dX12_copy_121 : decode cX12_copy 121 = .ok (.invokevirtual 177, 3) := by decide +kernel
theorem dX12_copy_124 : decode cX12_copy 124 = .ok (.ireturn, 1) := by decide +kernel
theorem dX12_copy_125 : decode cX12_copy 125 = .ok (.iconst 0, 1) := by decide +kernel
theorem dX12_copy_126 : decode cX12_copy 126 = .ok (.istore 6, 2) := by decide +kernel
theorem dX12_copy_128 : decode cX12_copy 128 = .ok (.iload 6, 2) := by decide +kernel
theorem dX12_copy_130 : decode cX12_copy 130 = .ok (.iload 5, 2) := by decide +kernel
theorem dX12_copy_132 : decode cX12_copy 132 = .ok (.if_icmp .ge 30, 3) := by decide +kernel
theorem dX12_copy_135 : decode cX12_copy 135 = .ok (.aload_n 0, 1) := by decide +kernel
theorem dX12_copy_136 : decode cX12_copy 136 = .ok (.getfield 150, 3) := by decide +kernel
theorem dX12_copy_139 : decode cX12_copy 139 = .ok (.iload 6, 2) := by decide +kernel
theorem dX12_copy_141 : decode cX12_copy 141 = .ok (.aload_n 0, 1) := by decide +kernel
theorem dX12_copy_142 : decode cX12_copy 142 = .ok (.getfield 72, 3) := by decide +kernel
theorem dX12_copy_145 : decode cX12_copy 145 = .ok (.bipush 10, 2) := by decide +kernel
theorem dX12_copy_147 : decode cX12_copy 147 = .ok (.iload_n 1, 1) := by decide +kernel
theorem dX12_copy_148 : decode cX12_copy 148 = .ok (.imul, 1) := by decide +kernel
theorem dX12_copy_149 : decode cX12_copy 149 = .ok (.iload_n 2, 1) := by decide +kernel
theorem dX12_copy_150 : decode cX12_copy 150 = .ok (.iadd, 1) := by decide +kernel
theorem dX12_copy_151 : decode cX12_copy 151 = .ok (.iload 6, 2) := by decide +kernel
theorem dX12_copy_153 : decode cX12_copy 153 = .ok (.iadd, 1) := by decide +kernel
theorem dX12_copy_154 : decode cX12_copy 154 = .ok (.iaload, 1) := by decide +kernel
theorem dX12_copy_155 : decode cX12_copy 155 = .ok (.iastore, 1) := by decide +kernel
theorem dX12_copy_156 : decode cX12_copy 156 = .ok (.iinc 6 1, 3) := by decide +kernel
theorem dX12_copy_159 : decode cX12_copy 159 = .ok (.goto (-31), 3) := by decide +kernel
theorem dX12_copy_162 : decode cX12_copy 162 = .ok (.iconst 0, 1) := by decide +kernel
theorem dX12_copy_163 : decode cX12_copy 163 = .ok (.istore 6, 2) := by decide +kernel
theorem dX12_copy_165 : decode cX12_copy 165 = .ok (.iload 6, 2) := by decide +kernel
theorem dX12_copy_167 : decode cX12_copy 167 = .ok (.iload 5, 2) := by decide +kernel
theorem dX12_copy_169 : decode cX12_copy 169 = .ok (.if_icmp .ge 31, 3) := by decide +kernel
theorem dX12_copy_172 : decode cX12_copy 172 = .ok (.aload_n 0, 1) := by decide +kernel
theorem dX12_copy_173 : decode cX12_copy 173 = .ok (.getfield 72, 3) := by decide +kernel
theorem dX12_copy_176 : decode cX12_copy 176 = .ok (.bipush 10, 2) := by decide +kernel
theorem dX12_copy_178 : decode cX12_copy 178 = .ok (.iload_n 3, 1) := by decide +kernel
theorem dX12_copy_179 : decode cX12_copy 179 = .ok (.imul, 1) := by decide +kernel
theorem dX12_copy_180 : decode cX12_copy 180 = .ok (.iload 4, 2) := by decide +kernel
theorem dX12_copy_182 : decode cX12_copy 182 = .ok (.iadd, 1) := by decide +kernel
theorem dX12_copy_183 : decode cX12_copy 183 = .ok (.iload 6, 2) := by decide +kernel
theorem dX12_copy_185 : decode cX12_copy 185 = .ok (.iadd, 1) := by decide +kernel
theorem dX12_copy_186 : decode cX12_copy 186 = .ok (.aload_n 0, 1) := by decide +kernel
theorem dX12_copy_187 : decode cX12_copy 187 = .ok (.getfield 150, 3) := by decide +kernel
theorem dX12_copy_190 : decode cX12_copy 190 = .ok (.iload 6, 2) := by decide +kernel
theorem dX12_copy_192 : decode cX12_copy 192 = .ok (.iaload, 1) := by decide +kernel
theorem dX12_copy_193 : decode cX12_copy 193 = .ok (.iastore, 1) := by decide +kernel
theorem dX12_copy_194 : decode cX12_copy 194 = .ok (.iinc 6 1, 3) := by decide +kernel
theorem dX12_copy_197 : decode cX12_copy 197 = .ok (.goto (-32), 3) := by decide +kernel
theorem dX12_copy_200 : decode cX12_copy 200 = .ok (.iload 5, 2) := by decide +kernel
theorem dX12_copy_202 : decode cX12_copy 202 = .ok (.ireturn, 1) := by decide +kernel
theorem dX12_read_0 : decode cX12_read 0 = .ok (.iload_n 1, 1) := by decide +kernel
theorem dX12_read_1 : decode cX12_read 1 = .ok (.invokestatic 322, 3) := by decide +kernel
theorem dX12_read_4 : decode cX12_read 4 = .ok (.ifCond .ne 10, 3) := by decide +kernel
theorem dX12_read_7 : decode cX12_read 7 = .ok (.aload_n 0, 1) := by decide +kernel
theorem dX12_read_8 : decode cX12_read 8 = .ok (.ldc 185, 2) := by decide +kernel
theorem dX12_read_10 : decode cX12_read 10 = .ok (.invokevirtual 177, 3) := by decide +kernel
theorem dX12_read_13 : decode cX12_read 13 = .ok (.ireturn, 1) := by decide +kernel
theorem dX12_read_14 : decode cX12_read 14 = .ok (.aload_n 0, 1) := by decide +kernel
theorem dX12_read_15 : decode cX12_read 15 = .ok (.getfield 66, 3) := by decide +kernel
theorem dX12_read_18 : decode cX12_read 18 = .ok (.iload_n 1, 1) := by decide +kernel
theorem dX12_read_19 : decode cX12_read 19 = .ok (.iaload, 1) := by decide +kernel
theorem dX12_read_20 : decode cX12_read 20 = .ok (.ifCond .ne 11, 3) := by decide +kernel
theorem dX12_read_23 : decode cX12_read 23 = .ok (.aload_n 0, 1) := by decide +kernel
theorem dX12_read_24 : decode cX12_read 24 = .ok (.ldc_w 326, 3) := by decide +kernel
theorem dX12_read_27 : decode cX12_read 27 = .ok (.invokevirtual 177, 3) := by decide +kernel
theorem dX12_read_30 : decode cX12_read 30 = .ok (.ireturn, 1) := by decide +kernel
theorem dX12_read_31 : decode cX12_read 31 = .ok (.aload_n 0, 1) := by decide +kernel
theorem dX12_read_32 : decode cX12_read 32 = .ok (.getfield 69, 3) := by decide +kernel
theorem dX12_read_35 : decode cX12_read 35 = .ok (.iload_n 1, 1) := by decide +kernel
theorem dX12_read_36 : decode cX12_read 36 = .ok (.iaload, 1) := by decide +kernel
theorem dX12_read_37 : decode cX12_read 37 = .ok (.istore_n 3, 1) := by decide +kernel
theorem dX12_read_38 : decode cX12_read 38 = .ok (.iload_n 3, 1) := by decide +kernel
theorem dX12_read_39 : decode cX12_read 39 = .ok (.ifCond .ne 5, 3) := by decide +kernel
theorem dX12_read_42 : decode cX12_read 42 = .ok (.iconst 0, 1) := by decide +kernel
theorem dX12_read_43 : decode cX12_read 43 = .ok (.ireturn, 1) := by decide +kernel
theorem dX12_read_44 : decode cX12_read 44 = .ok (.iload_n 2, 1) := by decide +kernel
theorem dX12_read_45 : decode cX12_read 45 = .ok (.ifCond .lt 17, 3) := by decide +kernel
theorem dX12_read_48 : decode cX12_read 48 = .ok (.iload_n 2, 1) := by decide +kernel
theorem dX12_read_49 : decode cX12_read 49 = .ok (.i2l, 1) := by decide +kernel
theorem dX12_read_50 : decode cX12_read 50 = .ok (.iload_n 3, 1) := by decide +kernel
theorem dX12_read_51 : decode cX12_read 51 = .ok (.i2l, 1) := by decide +kernel
theorem dX12_read_52 : decode cX12_read 52 = .ok (.ladd, 1) := by decide +kernel
theorem dX12_read_53 : decode cX12_read 53 = .ok (.aload_n 0, 1) := by decide +kernel
theorem dX12_read_54 : decode cX12_read 54 = .ok (.getfield 166, 3) := by decide +kernel
theorem dX12_read_57 : decode cX12_read 57 = .ok (.i2l, 1) := by decide +kernel
theorem dX12_read_58 : decode cX12_read 58 = .ok (.lcmp, 1) := by decide +kernel
theorem dX12_read_59 : decode cX12_read 59 = .ok (.ifCond .le 10, 3) := by decide +kernel
theorem dX12_read_62 : decode cX12_read 62 = .ok (.aload_n 0, 1) := by decide +kernel
theorem dX12_read_63 : decode cX12_read 63 = .ok (.ldc 185, 2) := by decide +kernel
theorem dX12_read_65 : decode cX12_read 65 = .ok (.invokevirtual 177, 3) := by decide +kernel
theorem dX12_read_68 : decode cX12_read 68 = .ok (.ireturn, 1) := by decide +kernel
theorem dX12_read_69 : decode cX12_read 69 = .ok (.iconst 0, 1) := by decide +kernel
theorem dX12_read_70 : decode cX12_read 70 = .ok (.istore 4, 2) := by decide +kernel
theorem dX12_read_72 : decode cX12_read 72 = .ok (.iload 4, 2) := by decide +kernel
theorem dX12_read_74 : decode cX12_read 74 = .ok (.iload_n 3, 1) := by decide +kernel
theorem dX12_read_75 : decode cX12_read 75 = .ok (.if_icmp .ge 37, 3) := by decide +kernel
theorem dX12_read_78 : decode cX12_read 78 = .ok (.aload_n 0, 1) := by decide +kernel
theorem dX12_read_79 : decode cX12_read 79 = .ok (.getfield 72, 3) := by decide +kernel
theorem dX12_read_82 : decode cX12_read 82 = .ok (.bipush 10, 2) := by decide +kernel
theorem dX12_read_84 : decode cX12_read 84 = .ok (.iload_n 1, 1) := by decide +kernel
theorem dX12_read_85 : decode cX12_read 85 = .ok (.imul, 1) := by decide +kernel
theorem dX12_read_86 : decode cX12_read 86 = .ok (.iload 4, 2) := by decide +kernel
theorem dX12_read_88 : decode cX12_read 88 = .ok (.iadd, 1) := by decide +kernel
theorem dX12_read_89 : decode cX12_read 89 = .ok (.iaload, 1) := by decide +kernel
theorem dX12_read_90 : decode cX12_read 90 = .ok (.iconst 1, 1) := by decide +kernel
theorem dX12_read_91 : decode cX12_read 91 = .ok (.bipush 30, 2) := by decide +kernel
theorem dX12_read_93 : decode cX12_read 93 = .ok (.invokestatic 159, 3) := by decide +kernel
theorem dX12_read_96 : decode cX12_read 96 = .ok (.ifCond .ne 10, 3) := by decide +kernel
theorem dX12_read_99 : decode cX12_read 99 = .ok (.aload_n 0, 1) := by decide +kernel
theorem dX12_read_100 : decode cX12_read 100 = .ok (.ldc 185, 2) := by decide +kernel
theorem dX12_read_102 : decode cX12_read 102 = .ok (.invokevirtual 177, 3) := by decide +kernel
theorem dX12_read_105 : decode cX12_read 105 = .ok (.ireturn, 1) := by decide +kernel
theorem dX12_read_106 : decode cX12_read 106 = .ok (.iinc 4 1, 3) := by decide +kernel
theorem dX12_read_109 : decode cX12_read 109 = .ok (.goto (-37), 3) := by decide +kernel
theorem dX12_read_112 : decode cX12_read 112 = .ok (.iconst 0, 1) := by decide +kernel
theorem dX12_read_113 : decode cX12_read 113 = .ok (.istore 4, 2) := by decide +kernel
theorem dX12_read_115 : decode cX12_read 115 = .ok (.iload 4, 2) := by decide +kernel
theorem dX12_read_117 : decode cX12_read 117 = .ok (.iload_n 3, 1) := by decide +kernel
theorem dX12_read_118 : decode cX12_read 118 = .ok (.if_icmp .ge 30, 3) := by decide +kernel
theorem dX12_read_121 : decode cX12_read 121 = .ok (.aload_n 0, 1) := by decide +kernel
theorem dX12_read_122 : decode cX12_read 122 = .ok (.getfield 48, 3) := by decide +kernel
theorem dX12_read_125 : decode cX12_read 125 = .ok (.iload_n 2, 1) := by decide +kernel
theorem dX12_read_126 : decode cX12_read 126 = .ok (.iload 4, 2) := by decide +kernel
theorem dX12_read_128 : decode cX12_read 128 = .ok (.iadd, 1) := by decide +kernel
theorem dX12_read_129 : decode cX12_read 129 = .ok (.aload_n 0, 1) := by decide +kernel
theorem dX12_read_130 : decode cX12_read 130 = .ok (.getfield 72, 3) := by decide +kernel
theorem dX12_read_133 : decode cX12_read 133 = .ok (.bipush 10, 2) := by decide +kernel
theorem dX12_read_135 : decode cX12_read 135 = .ok (.iload_n 1, 1) := by decide +kernel
theorem dX12_read_136 : decode cX12_read 136 = .ok (.imul, 1) := by decide +kernel
theorem dX12_read_137 : decode cX12_read 137 = .ok (.iload 4, 2) := by decide +kernel
theorem dX12_read_139 : decode cX12_read 139 = .ok (.iadd, 1) := by decide +kernel
theorem dX12_read_140 : decode cX12_read 140 = .ok (.iaload, 1) := by decide +kernel
theorem dX12_read_141 : decode cX12_read 141 = .ok (.iastore, 1) := by decide +kernel
theorem dX12_read_142 : decode cX12_read 142 = .ok (.iinc 4 1, 3) := by decide +kernel
theorem dX12_read_145 : decode cX12_read 145 = .ok (.goto (-30), 3) := by decide +kernel
theorem dX12_read_148 : decode cX12_read 148 = .ok (.aload_n 0, 1) := by decide +kernel
theorem dX12_read_149 : decode cX12_read 149 = .ok (.invokevirtual 189, 3) := by decide +kernel
theorem dX12_read_152 : decode cX12_read 152 = .ok (.iload_n 3, 1) := by decide +kernel
theorem dX12_read_153 : decode cX12_read 153 = .ok (.ireturn, 1) := by decide +kernel
theorem dX12_told_0 : decode cX12_told 0 = .ok (.iload_n 1, 1) := by decide +kernel
theorem dX12_told_1 : decode cX12_told 1 = .ok (.tableswitch 78 0 6 #[43, 48, 53, 58, 63, 68, 73], 43) := by decide +kernel
theorem dX12_told_44 : decode cX12_told 44 = .ok (.aload_n 0, 1) := by decide +kernel
theorem dX12_told_45 : decode cX12_told 45 = .ok (.getfield 156, 3) := by decide +kernel
theorem dX12_told_48 : decode cX12_told 48 = .ok (.ireturn, 1) := by decide +kernel
theorem dX12_told_49 : decode cX12_told 49 = .ok (.aload_n 0, 1) := by decide +kernel
theorem dX12_told_50 : decode cX12_told 50 = .ok (.getfield 186, 3) := by decide +kernel
theorem dX12_told_53 : decode cX12_told 53 = .ok (.ireturn, 1) := by decide +kernel
theorem dX12_told_54 : decode cX12_told 54 = .ok (.aload_n 0, 1) := by decide +kernel
theorem dX12_told_55 : decode cX12_told 55 = .ok (.getfield 163, 3) := by decide +kernel
theorem dX12_told_58 : decode cX12_told 58 = .ok (.ireturn, 1) := by decide +kernel
theorem dX12_told_59 : decode cX12_told 59 = .ok (.aload_n 0, 1) := by decide +kernel
theorem dX12_told_60 : decode cX12_told 60 = .ok (.getfield 166, 3) := by decide +kernel
theorem dX12_told_63 : decode cX12_told 63 = .ok (.ireturn, 1) := by decide +kernel
theorem dX12_told_64 : decode cX12_told 64 = .ok (.aload_n 0, 1) := by decide +kernel
theorem dX12_told_65 : decode cX12_told 65 = .ok (.getfield 289, 3) := by decide +kernel
theorem dX12_told_68 : decode cX12_told 68 = .ok (.ireturn, 1) := by decide +kernel
theorem dX12_told_69 : decode cX12_told 69 = .ok (.aload_n 0, 1) := by decide +kernel
theorem dX12_told_70 : decode cX12_told 70 = .ok (.getfield 277, 3) := by decide +kernel
theorem dX12_told_73 : decode cX12_told 73 = .ok (.ireturn, 1) := by decide +kernel
theorem dX12_told_74 : decode cX12_told 74 = .ok (.aload_n 0, 1) := by decide +kernel
theorem dX12_told_75 : decode cX12_told 75 = .ok (.getfield 153, 3) := by decide +kernel
theorem dX12_told_78 : decode cX12_told 78 = .ok (.ireturn, 1) := by decide +kernel
theorem dX12_told_79 : decode cX12_told 79 = .ok (.aload_n 0, 1) := by decide +kernel
theorem dX12_told_80 : decode cX12_told 80 = .ok (.ldc 185, 2) := by decide +kernel
theorem dX12_told_82 : decode cX12_told 82 = .ok (.invokevirtual 177, 3) := by decide +kernel
theorem dX12_told_85 : decode cX12_told 85 = .ok (.ireturn, 1) := by decide +kernel
theorem dJ6_bitCount_0f7a4_0 : decode cJ6_bitCount_0f7a4 0 = .ok (.iload_n 0, 1) := by decide +kernel
theorem dJ6_bitCount_0f7a4_1 : decode cJ6_bitCount_0f7a4 1 = .ok (.iload_n 0, 1) := by decide +kernel
theorem dJ6_bitCount_0f7a4_2 : decode cJ6_bitCount_0f7a4 2 = .ok (.iconst 1, 1) := by decide +kernel
theorem dJ6_bitCount_0f7a4_3 : decode cJ6_bitCount_0f7a4 3 = .ok (.iushr, 1) := by decide +kernel
theorem dJ6_bitCount_0f7a4_4 : decode cJ6_bitCount_0f7a4 4 = .ok (.ldc_w 265, 3) := by decide +kernel
theorem dJ6_bitCount_0f7a4_7 : decode cJ6_bitCount_0f7a4 7 = .ok (.iand, 1) := by decide +kernel
theorem dJ6_bitCount_0f7a4_8 : decode cJ6_bitCount_0f7a4 8 = .ok (.isub, 1) := by decide +kernel
theorem dJ6_bitCount_0f7a4_9 : decode cJ6_bitCount_0f7a4 9 = .ok (.istore_n 0, 1) := by decide +kernel
theorem dJ6_bitCount_0f7a4_10 : decode cJ6_bitCount_0f7a4 10 = .ok (.iload_n 0, 1) := by decide +kernel
theorem dJ6_bitCount_0f7a4_11 : decode cJ6_bitCount_0f7a4 11 = .ok (.ldc_w 266, 3) := by decide +kernel
theorem dJ6_bitCount_0f7a4_14 : decode cJ6_bitCount_0f7a4 14 = .ok (.iand, 1) := by decide +kernel
theorem dJ6_bitCount_0f7a4_15 : decode cJ6_bitCount_0f7a4 15 = .ok (.iload_n 0, 1) := by decide +kernel
theorem dJ6_bitCount_0f7a4_16 : decode cJ6_bitCount_0f7a4 16 = .ok (.iconst 2, 1) := by decide +kernel
theorem dJ6_bitCount_0f7a4_17 : decode cJ6_bitCount_0f7a4 17 = .ok (.iushr, 1) := by decide +kernel
theorem dJ6_bitCount_0f7a4_18 : decode cJ6_bitCount_0f7a4 18 = .ok (.ldc_w 266, 3) := by decide +kernel
theorem dJ6_bitCount_0f7a4_21 : decode cJ6_bitCount_0f7a4 21 = .ok (.iand, 1) := by decide +kernel
theorem dJ6_bitCount_0f7a4_22 : decode cJ6_bitCount_0f7a4 22 = .ok (.iadd, 1) := by decide +kernel
theorem dJ6_bitCount_0f7a4_23 : decode cJ6_bitCount_0f7a4 23 = .ok (.istore_n 0, 1) := by decide +kernel
theorem dJ6_bitCount_0f7a4_24 : decode cJ6_bitCount_0f7a4 24 = .ok (.iload_n 0, 1) := by decide +kernel
theorem dJ6_bitCount_0f7a4_25 : decode cJ6_bitCount_0f7a4 25 = .ok (.iload_n 0, 1) := by decide +kernel
theorem dJ6_bitCount_0f7a4_26 : decode cJ6_bitCount_0f7a4 26 = .ok (.iconst 4, 1) := by decide +kernel
theorem dJ6_bitCount_0f7a4_27 : decode cJ6_bitCount_0f7a4 27 = .ok (.iushr, 1) := by decide +kernel
theorem dJ6_bitCount_0f7a4_28 : decode cJ6_bitCount_0f7a4 28 = .ok (.iadd, 1) := by decide +kernel
theorem dJ6_bitCount_0f7a4_29 : decode cJ6_bitCount_0f7a4 29 = .ok (.ldc_w 267, 3) := by decide +kernel
theorem dJ6_bitCount_0f7a4_32 : decode cJ6_bitCount_0f7a4 32 = .ok (.iand, 1) := by decide +kernel
theorem dJ6_bitCount_0f7a4_33 : decode cJ6_bitCount_0f7a4 33 = .ok (.istore_n 0, 1) := by decide +kernel
theorem dJ6_bitCount_0f7a4_34 : decode cJ6_bitCount_0f7a4 34 = .ok (.iload_n 0, 1) := by decide +kernel
theorem dJ6_bitCount_0f7a4_35 : decode cJ6_bitCount_0f7a4 35 = .ok (.iload_n 0, 1) := by decide +kernel
theorem dJ6_bitCount_0f7a4_36 : decode cJ6_bitCount_0f7a4 36 = .ok (.bipush 8, 2) := by decide +kernel
theorem dJ6_bitCount_0f7a4_38 : decode cJ6_bitCount_0f7a4 38 = .ok (.iushr, 1) := by decide +kernel
theorem dJ6_bitCount_0f7a4_39 : decode cJ6_bitCount_0f7a4 39 = .ok (.iadd, 1) := by decide +kernel
theorem dJ6_bitCount_0f7a4_40 : decode cJ6_bitCount_0f7a4 40 = .ok (.istore_n 0, 1) := by decide +kernel
theorem dJ6_bitCount_0f7a4_41 : decode cJ6_bitCount_0f7a4 41 = .ok (.iload_n 0, 1) := by decide +kernel
theorem dJ6_bitCount_0f7a4_42 : decode cJ6_bitCount_0f7a4 42 = .ok (.iload_n 0, 1) := by decide +kernel
theorem dJ6_bitCount_0f7a4_43 : decode cJ6_bitCount_0f7a4 43 = .ok (.bipush 16, 2) := by decide +kernel
theorem dJ6_bitCount_0f7a4_45 : decode cJ6_bitCount_0f7a4 45 = .ok (.iushr, 1) := by decide +kernel
theorem dJ6_bitCount_0f7a4_46 : decode cJ6_bitCount_0f7a4 46 = .ok (.iadd, 1) := by decide +kernel
theorem dJ6_bitCount_0f7a4_47 : decode cJ6_bitCount_0f7a4 47 = .ok (.istore_n 0, 1) := by decide +kernel
theorem dJ6_bitCount_0f7a4_48 : decode cJ6_bitCount_0f7a4 48 = .ok (.iload_n 0, 1) := by decide +kernel
theorem dJ6_bitCount_0f7a4_49 : decode cJ6_bitCount_0f7a4 49 = .ok (.bipush 63, 2) := by decide +kernel
theorem dJ6_bitCount_0f7a4_51 : decode cJ6_bitCount_0f7a4 51 = .ok (.iand, 1) := by decide +kernel
theorem dJ6_bitCount_0f7a4_52 : decode cJ6_bitCount_0f7a4 52 = .ok (.ireturn, 1) := by decide +kernel
theorem dJ9_abs_0f7a4_0 : decode cJ9_abs_0f7a4 0 = .ok (.iload_n 0, 1) := by decide +kernel
theorem dJ9_abs_0f7a4_1 : decode cJ9_abs_0f7a4 1 = .ok (.ifCond .ge 8, 3) := by decide +kernel
theorem dJ9_abs_0f7a4_4 : decode cJ9_abs_0f7a4 4 = .ok (.iload_n 0, 1) := by decide +kernel
theorem dJ9_abs_0f7a4_5 : decode cJ9_abs_0f7a4 5 = .ok (.ineg, 1) := by decide +kernel
theorem dJ9_abs_0f7a4_6 : decode cJ9_abs_0f7a4 6 = .ok (.goto 4, 3) := by decide +kernel
theorem dJ9_abs_0f7a4_9 : decode cJ9_abs_0f7a4 9 = .ok (.iload_n 0, 1) := by decide +kernel
theorem dJ9_abs_0f7a4_10 : decode cJ9_abs_0f7a4 10 = .ok (.ireturn, 1) := by decide +kernel
theorem dJ9_max_7cf53_0 : decode cJ9_max_7cf53 0 = .ok (.iload_n 0, 1) := by decide +kernel
theorem dJ9_max_7cf53_1 : decode cJ9_max_7cf53 1 = .ok (.iload_n 1, 1) := by decide +kernel
theorem dJ9_max_7cf53_2 : decode cJ9_max_7cf53 2 = .ok (.if_icmp .lt 7, 3) := by decide +kernel
theorem dJ9_max_7cf53_5 : decode cJ9_max_7cf53 5 = .ok (.iload_n 0, 1) := by decide +kernel
theorem dJ9_max_7cf53_6 : decode cJ9_max_7cf53 6 = .ok (.goto 4, 3) := by decide +kernel
theorem dJ9_max_7cf53_9 : decode cJ9_max_7cf53 9 = .ok (.iload_n 1, 1) := by decide +kernel
theorem dJ9_max_7cf53_10 : decode cJ9_max_7cf53 10 = .ok (.ireturn, 1) := by decide +kernel
theorem dJ9_min_7cf53_0 : decode cJ9_min_7cf53 0 = .ok (.iload_n 0, 1) := by decide +kernel
theorem dJ9_min_7cf53_1 : decode cJ9_min_7cf53 1 = .ok (.iload_n 1, 1) := by decide +kernel
theorem dJ9_min_7cf53_2 : decode cJ9_min_7cf53 2 = .ok (.if_icmp .gt 7, 3) := by decide +kernel
theorem dJ9_min_7cf53_5 : decode cJ9_min_7cf53 5 = .ok (.iload_n 0, 1) := by decide +kernel
theorem dJ9_min_7cf53_6 : decode cJ9_min_7cf53 6 = .ok (.goto 4, 3) := by decide +kernel
theorem dJ9_min_7cf53_9 : decode cJ9_min_7cf53 9 = .ok (.iload_n 1, 1) := by decide +kernel
theorem dJ9_min_7cf53_10 : decode cJ9_min_7cf53 10 = .ok (.ireturn, 1) := by decide +kernel
theorem dJ7_fill_53178_0 : decode cJ7_fill_53178 0 = .ok (.iconst 0, 1) := by decide +kernel
theorem dJ7_fill_53178_1 : decode cJ7_fill_53178 1 = .ok (.istore_n 2, 1) := by decide +kernel
theorem dJ7_fill_53178_2 : decode cJ7_fill_53178 2 = .ok (.aload_n 0, 1) := by decide +kernel
theorem dJ7_fill_53178_3 : decode cJ7_fill_53178 3 = .ok (.arraylength, 1) := by decide +kernel
theorem dJ7_fill_53178_4 : decode cJ7_fill_53178 4 = .ok (.istore_n 3, 1) := by decide +kernel
theorem dJ7_fill_53178_5 : decode cJ7_fill_53178 5 = .ok (.iload_n 2, 1) := by decide +kernel
theorem dJ7_fill_53178_6 : decode cJ7_fill_53178 6 = .ok (.iload_n 3, 1) := by decide +kernel
theorem dJ7_fill_53178_7 : decode cJ7_fill_53178 7 = .ok (.if_icmp .ge 13, 3) := by decide +kernel
theorem dJ7_fill_53178_10 : decode cJ7_fill_53178 10 = .ok (.aload_n 0, 1) := by decide +kernel
theorem dJ7_fill_53178_11 : decode cJ7_fill_53178 11 = .ok (.iload_n 2, 1) := by decide +kernel
theorem dJ7_fill_53178_12 : decode cJ7_fill_53178 12 = .ok (.iload_n 1, 1) := by decide +kernel
theorem dJ7_fill_53178_13 : decode cJ7_fill_53178 13 = .ok (.iastore, 1) := by decide +kernel
theorem dJ7_fill_53178_14 : decode cJ7_fill_53178 14 = .ok (.iinc 2 1, 3) := by decide +kernel
theorem dJ7_fill_53178_17 : decode cJ7_fill_53178 17 = .ok (.goto (-12), 3) := by decide +kernel
theorem dJ7_fill_53178_20 : decode cJ7_fill_53178 20 = .ok (.return_, 1) := by decide +kernel
theorem dL_law_0 : decode cL_law 0 = .ok (.new 7, 3) := by decide +kernel
theorem dL_law_3 : decode cL_law 3 = .ok (.dup, 1) := by decide +kernel
theorem dL_law_4 : decode cL_law 4 = .ok (.invokespecial 9, 3) := by decide +kernel
theorem dL_law_7 : decode cL_law 7 = .ok (.astore_n 1, 1) := by decide +kernel
theorem dL_law_8 : decode cL_law 8 = .ok (.new 10, 3) := by decide +kernel
theorem dL_law_11 : decode cL_law 11 = .ok (.dup, 1) := by decide +kernel
theorem dL_law_12 : decode cL_law 12 = .ok (.invokespecial 12, 3) := by decide +kernel
theorem dL_law_15 : decode cL_law 15 = .ok (.astore_n 2, 1) := by decide +kernel
theorem dL_law_16 : decode cL_law 16 = .ok (.iconst 0, 1) := by decide +kernel
theorem dL_law_17 : decode cL_law 17 = .ok (.istore_n 3, 1) := by decide +kernel
theorem dL_law_18 : decode cL_law 18 = .ok (.iload_n 3, 1) := by decide +kernel
theorem dL_law_19 : decode cL_law 19 = .ok (.aload_n 0, 1) := by decide +kernel
theorem dL_law_20 : decode cL_law 20 = .ok (.arraylength, 1) := by decide +kernel
theorem dL_law_21 : decode cL_law 21 = .ok (.bipush 6, 2) := by decide +kernel
theorem dL_law_23 : decode cL_law 23 = .ok (.isub, 1) := by decide +kernel
theorem dL_law_24 : decode cL_law 24 = .ok (.if_icmp .gt 1345, 3) := by decide +kernel
theorem dL_law_27 : decode cL_law 27 = .ok (.aload_n 0, 1) := by decide +kernel
theorem dL_law_28 : decode cL_law 28 = .ok (.iload_n 3, 1) := by decide +kernel
theorem dL_law_29 : decode cL_law 29 = .ok (.iaload, 1) := by decide +kernel
theorem dL_law_30 : decode cL_law 30 = .ok (.bipush 63, 2) := by decide +kernel
theorem dL_law_32 : decode cL_law 32 = .ok (.iand, 1) := by decide +kernel
theorem dL_law_33 : decode cL_law 33 = .ok (.tableswitch 1330 0 36 #[163, 176, 219, 268, 301, 334, 367, 400, 433, 466, 519, 552, 575, 618, 641, 684, 707, 720, 743, 776, 789, 822, 835, 898, 911, 944, 957, 970, 1003, 1026, 1069, 1092, 1125, 1168, 1211, 1274, 1307], 163) := by decide +kernel
theorem dL_law_196 : decode cL_law 196 = .ok (.aload_n 1, 1) := by decide +kernel
theorem dL_law_197 : decode cL_law 197 = .ok (.invokevirtual 13, 3) := by decide +kernel
theorem dL_law_200 : decode cL_law 200 = .ok (.aload_n 2, 1) := by decide +kernel
theorem dL_law_201 : decode cL_law 201 = .ok (.invokevirtual 17, 3) := by decide +kernel
theorem dL_law_204 : decode cL_law 204 = .ok (.if_icmp .eq 1159, 3) := by decide +kernel
theorem dL_law_207 : decode cL_law 207 = .ok (.iconst 0, 1) := by decide +kernel
theorem dL_law_208 : decode cL_law 208 = .ok (.ireturn, 1) := by decide +kernel
theorem dL_law_209 : decode cL_law 209 = .ok (.aload_n 1, 1) := by decide +kernel
theorem dL_law_210 : decode cL_law 210 = .ok (.aload_n 0, 1) := by decide +kernel
theorem dL_law_211 : decode cL_law 211 = .ok (.iload_n 3, 1) := by decide +kernel
theorem dL_law_212 : decode cL_law 212 = .ok (.iconst 1, 1) := by decide +kernel
theorem dL_law_213 : decode cL_law 213 = .ok (.iadd, 1) := by decide +kernel
theorem dL_law_214 : decode cL_law 214 = .ok (.iaload, 1) := by decide +kernel
theorem dL_law_215 : decode cL_law 215 = .ok (.aload_n 0, 1) := by decide +kernel
theorem dL_law_216 : decode cL_law 216 = .ok (.iload_n 3, 1) := by decide +kernel
theorem dL_law_217 : decode cL_law 217 = .ok (.iconst 2, 1) := by decide +kernel
theorem dL_law_218 : decode cL_law 218 = .ok (.iadd, 1) := by decide +kernel
theorem dL_law_219 : decode cL_law 219 = .ok (.iaload, 1) := by decide +kernel
theorem dL_law_220 : decode cL_law 220 = .ok (.aload_n 0, 1) := by decide +kernel
theorem dL_law_221 : decode cL_law 221 = .ok (.iload_n 3, 1) := by decide +kernel
theorem dL_law_222 : decode cL_law 222 = .ok (.iconst 3, 1) := by decide +kernel
theorem dL_law_223 : decode cL_law 223 = .ok (.iadd, 1) := by decide +kernel
theorem dL_law_224 : decode cL_law 224 = .ok (.iaload, 1) := by decide +kernel
theorem dL_law_225 : decode cL_law 225 = .ok (.invokevirtual 18, 3) := by decide +kernel
theorem dL_law_228 : decode cL_law 228 = .ok (.aload_n 2, 1) := by decide +kernel
theorem dL_law_229 : decode cL_law 229 = .ok (.aload_n 0, 1) := by decide +kernel
theorem dL_law_230 : decode cL_law 230 = .ok (.iload_n 3, 1) := by decide +kernel
theorem dL_law_231 : decode cL_law 231 = .ok (.iconst 1, 1) := by decide +kernel
theorem dL_law_232 : decode cL_law 232 = .ok (.iadd, 1) := by decide +kernel
theorem dL_law_233 : decode cL_law 233 = .ok (.iaload, 1) := by decide +kernel
end
section
theorem dL_law_234 : decode cL_law 234 = .ok (.aload_n 0, 1) := by decide +kernel
theorem dL_law_235 : decode cL_law 235 = .ok (.iload_n 3, 1) := by decide +kernel
theorem dL_law_236 : decode cL_law 236 = .ok (.iconst 2, 1) := by decide +kernel
theorem dL_law_237 : decode cL_law 237 = .ok (.iadd, 1) := by decide +kernel
theorem dL_law_238 : decode cL_law 238 = .ok (.iaload, 1) := by decide +kernel
theorem dL_law_239 : decode cL_law 239 = .ok (.aload_n 0, 1) := by decide +kernel
theorem dL_law_240 : decode cL_law 240 = .ok (.iload_n 3, 1) := by decide +kernel
theorem dL_law_241 : decode cL_law 241 = .ok (.iconst 3, 1) := by decide +kernel
theorem dL_law_242 : decode cL_law 242 = .ok (.iadd, 1) := by decide +kernel
theorem dL_law_243 : decode cL_law 243 = .ok (.iaload, 1) := by decide +kernel
theorem dL_law_244 : decode cL_law 244 = .ok (.invokevirtual 22, 3) := by decide +kernel
theorem dL_law_247 : decode cL_law 247 = .ok (.if_icmp .eq 1116, 3) := by decide +kernel
theorem dL_law_250 : decode cL_law 250 = .ok (.iconst 0, 1) := by decide +kernel
theorem dL_law_251 : decode cL_law 251 = .ok (.ireturn, 1) := by decide +kernel
theorem dL_law_252 : decode cL_law 252 = .ok (.aload_n 1, 1) := by decide +kernel
theorem dL_law_253 : decode cL_law 253 = .ok (.aload_n 0, 1) := by decide +kernel
theorem dL_law_254 : decode cL_law 254 = .ok (.iload_n 3, 1) := by decide +kernel
theorem dL_law_255 : decode cL_law 255 = .ok (.iconst 1, 1) := by decide +kernel
theorem dL_law_256 : decode cL_law 256 = .ok (.iadd, 1) := by decide +kernel
theorem dL_law_257 : decode cL_law 257 = .ok (.iaload, 1) := by decide +kernel
theorem dL_law_258 : decode cL_law 258 = .ok (.aload_n 0, 1) := by decide +kernel
theorem dL_law_259 : decode cL_law 259 = .ok (.iload_n 3, 1) := by decide +kernel
theorem dL_law_260 : decode cL_law 260 = .ok (.iconst 2, 1) := by decide +kernel
theorem dL_law_261 : decode cL_law 261 = .ok (.iadd, 1) := by decide +kernel
theorem dL_law_262 : decode cL_law 262 = .ok (.iaload, 1) := by decide +kernel
theorem dL_law_263 : decode cL_law 263 = .ok (.ifCond .eq 7, 3) := by decide +kernel
theorem dL_law_266 : decode cL_law 266 = .ok (.iconst 1, 1) := by decide +kernel
theorem dL_law_267 : decode cL_law 267 = .ok (.goto 4, 3) := by decide +kernel
theorem dL_law_270 : decode cL_law 270 = .ok (.iconst 0, 1) := by decide +kernel
theorem dL_law_271 : decode cL_law 271 = .ok (.invokevirtual 23, 3) := by decide +kernel
theorem dL_law_274 : decode cL_law 274 = .ok (.aload_n 2, 1) := by decide +kernel
theorem dL_law_275 : decode cL_law 275 = .ok (.aload_n 0, 1) := by decide +kernel
theorem dL_law_276 : decode cL_law 276 = .ok (.iload_n 3, 1) := by decide +kernel
theorem dL_law_277 : decode cL_law 277 = .ok (.iconst 1, 1) := by decide +kernel
theorem dL_law_278 : decode cL_law 278 = .ok (.iadd, 1) := by decide +kernel
theorem dL_law_279 : decode cL_law 279 = .ok (.iaload, 1) := by decide +kernel
theorem dL_law_280 : decode cL_law 280 = .ok (.aload_n 0, 1) := by decide +kernel
theorem dL_law_281 : decode cL_law 281 = .ok (.iload_n 3, 1) := by decide +kernel
theorem dL_law_282 : decode cL_law 282 = .ok (.iconst 2, 1) := by decide +kernel
theorem dL_law_283 : decode cL_law 283 = .ok (.iadd, 1) := by decide +kernel
theorem dL_law_284 : decode cL_law 284 = .ok (.iaload, 1) := by decide +kernel
theorem dL_law_285 : decode cL_law 285 = .ok (.ifCond .eq 7, 3) := by decide +kernel
theorem dL_law_288 : decode cL_law 288 = .ok (.iconst 1, 1) := by decide +kernel
theorem dL_law_289 : decode cL_law 289 = .ok (.goto 4, 3) := by decide +kernel
theorem dL_law_292 : decode cL_law 292 = .ok (.iconst 0, 1) := by decide +kernel
theorem dL_law_293 : decode cL_law 293 = .ok (.invokevirtual 27, 3) := by decide +kernel
theorem dL_law_296 : decode cL_law 296 = .ok (.if_icmp .eq 1067, 3) := by decide +kernel
theorem dL_law_299 : decode cL_law 299 = .ok (.iconst 0, 1) := by decide +kernel
theorem dL_law_300 : decode cL_law 300 = .ok (.ireturn, 1) := by decide +kernel
theorem dL_law_301 : decode cL_law 301 = .ok (.aload_n 1, 1) := by decide +kernel
theorem dL_law_302 : decode cL_law 302 = .ok (.aload_n 0, 1) := by decide +kernel
theorem dL_law_303 : decode cL_law 303 = .ok (.iload_n 3, 1) := by decide +kernel
theorem dL_law_304 : decode cL_law 304 = .ok (.iconst 1, 1) := by decide +kernel
theorem dL_law_305 : decode cL_law 305 = .ok (.iadd, 1) := by decide +kernel
theorem dL_law_306 : decode cL_law 306 = .ok (.iaload, 1) := by decide +kernel
theorem dL_law_307 : decode cL_law 307 = .ok (.aload_n 0, 1) := by decide +kernel
theorem dL_law_308 : decode cL_law 308 = .ok (.iload_n 3, 1) := by decide +kernel
theorem dL_law_309 : decode cL_law 309 = .ok (.iconst 2, 1) := by decide +kernel
theorem dL_law_310 : decode cL_law 310 = .ok (.iadd, 1) := by decide +kernel
theorem dL_law_311 : decode cL_law 311 = .ok (.iaload, 1) := by decide +kernel
theorem dL_law_312 : decode cL_law 312 = .ok (.invokevirtual 28, 3) := by decide +kernel
theorem dL_law_315 : decode cL_law 315 = .ok (.aload_n 2, 1) := by decide +kernel
theorem dL_law_316 : decode cL_law 316 = .ok (.aload_n 0, 1) := by decide +kernel
theorem dL_law_317 : decode cL_law 317 = .ok (.iload_n 3, 1) := by decide +kernel
theorem dL_law_318 : decode cL_law 318 = .ok (.iconst 1, 1) := by decide +kernel
theorem dL_law_319 : decode cL_law 319 = .ok (.iadd, 1) := by decide +kernel
theorem dL_law_320 : decode cL_law 320 = .ok (.iaload, 1) := by decide +kernel
theorem dL_law_321 : decode cL_law 321 = .ok (.aload_n 0, 1) := by decide +kernel
theorem dL_law_322 : decode cL_law 322 = .ok (.iload_n 3, 1) := by decide +kernel
theorem dL_law_323 : decode cL_law 323 = .ok (.iconst 2, 1) := by decide +kernel
theorem dL_law_324 : decode cL_law 324 = .ok (.iadd, 1) := by decide +kernel
theorem dL_law_325 : decode cL_law 325 = .ok (.iaload, 1) := by decide +kernel
theorem dL_law_326 : decode cL_law 326 = .ok (.invokevirtual 32, 3) := by decide +kernel
theorem dL_law_329 : decode cL_law 329 = .ok (.if_icmp .eq 1034, 3) := by decide +kernel
theorem dL_law_332 : decode cL_law 332 = .ok (.iconst 0, 1) := by decide +kernel
theorem dL_law_333 : decode cL_law 333 = .ok (.ireturn, 1) := by decide +kernel
theorem dL_law_334 : decode cL_law 334 = .ok (.aload_n 1, 1) := by decide +kernel
theorem dL_law_335 : decode cL_law 335 = .ok (.aload_n 0, 1) := by decide +kernel
theorem dL_law_336 : decode cL_law 336 = .ok (.iload_n 3, 1) := by decide +kernel
theorem dL_law_337 : decode cL_law 337 = .ok (.iconst 1, 1) := by decide +kernel
theorem dL_law_338 : decode cL_law 338 = .ok (.iadd, 1) := by decide +kernel
theorem dL_law_339 : decode cL_law 339 = .ok (.iaload, 1) := by decide +kernel
theorem dL_law_340 : decode cL_law 340 = .ok (.aload_n 0, 1) := by decide +kernel
theorem dL_law_341 : decode cL_law 341 = .ok (.iload_n 3, 1) := by decide +kernel
theorem dL_law_342 : decode cL_law 342 = .ok (.iconst 2, 1) := by decide +kernel
theorem dL_law_343 : decode cL_law 343 = .ok (.iadd, 1) := by decide +kernel
theorem dL_law_344 : decode cL_law 344 = .ok (.iaload, 1) := by decide +kernel
theorem dL_law_345 : decode cL_law 345 = .ok (.invokevirtual 33, 3) := by decide +kernel
theorem dL_law_348 : decode cL_law 348 = .ok (.aload_n 2, 1) := by decide +kernel
theorem dL_law_349 : decode cL_law 349 = .ok (.aload_n 0, 1) := by decide +kernel
theorem dL_law_350 : decode cL_law 350 = .ok (.iload_n 3, 1) := by decide +kernel
theorem dL_law_351 : decode cL_law 351 = .ok (.iconst 1, 1) := by decide +kernel
theorem dL_law_352 : decode cL_law 352 = .ok (.iadd, 1) := by decide +kernel
theorem dL_law_353 : decode cL_law 353 = .ok (.iaload, 1) := by decide +kernel
theorem dL_law_354 : decode cL_law 354 = .ok (.aload_n 0, 1) := by decide +kernel
theorem dL_law_355 : decode cL_law 355 = .ok (.iload_n 3, 1) := by decide +kernel
theorem dL_law_356 : decode cL_law 356 = .ok (.iconst 2, 1) := by decide +kernel
theorem dL_law_357 : decode cL_law 357 = .ok (.iadd, 1) := by decide +kernel
theorem dL_law_358 : decode cL_law 358 = .ok (.iaload, 1) := by decide +kernel
theorem dL_law_359 : decode cL_law 359 = .ok (.invokevirtual 36, 3) := by decide +kernel
theorem dL_law_362 : decode cL_law 362 = .ok (.if_icmp .eq 1001, 3) := by decide +kernel
theorem dL_law_365 : decode cL_law 365 = .ok (.iconst 0, 1) := by decide +kernel
theorem dL_law_366 : decode cL_law 366 = .ok (.ireturn, 1) := by decide +kernel
theorem dL_law_367 : decode cL_law 367 = .ok (.aload_n 1, 1) := by decide +kernel
theorem dL_law_368 : decode cL_law 368 = .ok (.aload_n 0, 1) := by decide +kernel
theorem dL_law_369 : decode cL_law 369 = .ok (.iload_n 3, 1) := by decide +kernel
theorem dL_law_370 : decode cL_law 370 = .ok (.iconst 1, 1) := by decide +kernel
theorem dL_law_371 : decode cL_law 371 = .ok (.iadd, 1) := by decide +kernel
theorem dL_law_372 : decode cL_law 372 = .ok (.iaload, 1) := by decide +kernel
theorem dL_law_373 : decode cL_law 373 = .ok (.aload_n 0, 1) := by decide +kernel
theorem dL_law_374 : decode cL_law 374 = .ok (.iload_n 3, 1) := by decide +kernel
theorem dL_law_375 : decode cL_law 375 = .ok (.iconst 2, 1) := by decide +kernel
theorem dL_law_376 : decode cL_law 376 = .ok (.iadd, 1) := by decide +kernel
theorem dL_law_377 : decode cL_law 377 = .ok (.iaload, 1) := by decide +kernel
theorem dL_law_378 : decode cL_law 378 = .ok (.invokevirtual 37, 3) := by decide +kernel
theorem dL_law_381 : decode cL_law 381 = .ok (.aload_n 2, 1) := by decide +kernel
theorem dL_law_382 : decode cL_law 382 = .ok (.aload_n 0, 1) := by decide +kernel
theorem dL_law_383 : decode cL_law 383 = .ok (.iload_n 3, 1) := by decide +kernel
theorem dL_law_384 : decode cL_law 384 = .ok (.iconst 1, 1) := by decide +kernel
theorem dL_law_385 : decode cL_law 385 = .ok (.iadd, 1) := by decide +kernel
theorem dL_law_386 : decode cL_law 386 = .ok (.iaload, 1) := by decide +kernel
theorem dL_law_387 : decode cL_law 387 = .ok (.aload_n 0, 1) := by decide +kernel
theorem dL_law_388 : decode cL_law 388 = .ok (.iload_n 3, 1) := by decide +kernel
theorem dL_law_389 : decode cL_law 389 = .ok (.iconst 2, 1) := by decide +kernel
theorem dL_law_390 : decode cL_law 390 = .ok (.iadd, 1) := by decide +kernel
theorem dL_law_391 : decode cL_law 391 = .ok (.iaload, 1) := by decide +kernel
theorem dL_law_392 : decode cL_law 392 = .ok (.invokevirtual 40, 3) := by decide +kernel
theorem dL_law_395 : decode cL_law 395 = .ok (.if_icmp .eq 968, 3) := by decide +kernel
theorem dL_law_398 : decode cL_law 398 = .ok (.iconst 0, 1) := by decide +kernel
theorem dL_law_399 : decode cL_law 399 = .ok (.ireturn, 1) := by decide +kernel
theorem dL_law_400 : decode cL_law 400 = .ok (.aload_n 1, 1) := by decide +kernel
theorem dL_law_401 : decode cL_law 401 = .ok (.aload_n 0, 1) := by decide +kernel
theorem dL_law_402 : decode cL_law 402 = .ok (.iload_n 3, 1) := by decide +kernel
theorem dL_law_403 : decode cL_law 403 = .ok (.iconst 1, 1) := by decide +kernel
theorem dL_law_404 : decode cL_law 404 = .ok (.iadd, 1) := by decide +kernel
theorem dL_law_405 : decode cL_law 405 = .ok (.iaload, 1) := by decide +kernel
theorem dL_law_406 : decode cL_law 406 = .ok (.aload_n 0, 1) := by decide +kernel
theorem dL_law_407 : decode cL_law 407 = .ok (.iload_n 3, 1) := by decide +kernel
theorem dL_law_408 : decode cL_law 408 = .ok (.iconst 2, 1) := by decide +kernel
theorem dL_law_409 : decode cL_law 409 = .ok (.iadd, 1) := by decide +kernel
theorem dL_law_410 : decode cL_law 410 = .ok (.iaload, 1) := by decide +kernel
theorem dL_law_411 : decode cL_law 411 = .ok (.invokevirtual 41, 3) := by decide +kernel
theorem dL_law_414 : decode cL_law 414 = .ok (.aload_n 2, 1) := by decide +kernel
theorem dL_law_415 : decode cL_law 415 = .ok (.aload_n 0, 1) := by decide +kernel
theorem dL_law_416 : decode cL_law 416 = .ok (.iload_n 3, 1) := by decide +kernel
theorem dL_law_417 : decode cL_law 417 = .ok (.iconst 1, 1) := by decide +kernel
theorem dL_law_418 : decode cL_law 418 = .ok (.iadd, 1) := by decide +kernel
theorem dL_law_419 : decode cL_law 419 = .ok (.iaload, 1) := by decide +kernel
theorem dL_law_420 : decode cL_law 420 = .ok (.aload_n 0, 1) := by decide +kernel
theorem dL_law_421 : decode cL_law 421 = .ok (.iload_n 3, 1) := by decide +kernel
theorem dL_law_422 : decode cL_law 422 = .ok (.iconst 2, 1) := by decide +kernel
theorem dL_law_423 : decode cL_law 423 = .ok (.iadd, 1) := by decide +kernel
theorem dL_law_424 : decode cL_law 424 = .ok (.iaload, 1) := by decide +kernel
theorem dL_law_425 : decode cL_law 425 = .ok (.invokevirtual 44, 3) := by decide +kernel
theorem dL_law_428 : decode cL_law 428 = .ok (.if_icmp .eq 935, 3) := by decide +kernel
theorem dL_law_431 : decode cL_law 431 = .ok (.iconst 0, 1) := by decide +kernel
theorem dL_law_432 : decode cL_law 432 = .ok (.ireturn, 1) := by decide +kernel
theorem dL_law_433 : decode cL_law 433 = .ok (.aload_n 1, 1) := by decide +kernel
theorem dL_law_434 : decode cL_law 434 = .ok (.aload_n 0, 1) := by decide +kernel
theorem dL_law_435 : decode cL_law 435 = .ok (.iload_n 3, 1) := by decide +kernel
theorem dL_law_436 : decode cL_law 436 = .ok (.iconst 1, 1) := by decide +kernel
theorem dL_law_437 : decode cL_law 437 = .ok (.iadd, 1) := by decide +kernel
theorem dL_law_438 : decode cL_law 438 = .ok (.iaload, 1) := by decide +kernel
theorem dL_law_439 : decode cL_law 439 = .ok (.aload_n 0, 1) := by decide +kernel
theorem dL_law_440 : decode cL_law 440 = .ok (.iload_n 3, 1) := by decide +kernel
theorem dL_law_441 : decode cL_law 441 = .ok (.iconst 2, 1) := by decide +kernel
theorem dL_law_442 : decode cL_law 442 = .ok (.iadd, 1) := by decide +kernel
theorem dL_law_443 : decode cL_law 443 = .ok (.iaload, 1) := by decide +kernel
theorem dL_law_444 : decode cL_law 444 = .ok (.invokevirtual 45, 3) := by decide +kernel
theorem dL_law_447 : decode cL_law 447 = .ok (.aload_n 2, 1) := by decide +kernel
theorem dL_law_448 : decode cL_law 448 = .ok (.aload_n 0, 1) := by decide +kernel
theorem dL_law_449 : decode cL_law 449 = .ok (.iload_n 3, 1) := by decide +kernel
theorem dL_law_450 : decode cL_law 450 = .ok (.iconst 1, 1) := by decide +kernel
theorem dL_law_451 : decode cL_law 451 = .ok (.iadd, 1) := by decide +kernel
theorem dL_law_452 : decode cL_law 452 = .ok (.iaload, 1) := by decide +kernel
theorem dL_law_453 : decode cL_law 453 = .ok (.aload_n 0, 1) := by decide +kernel
theorem dL_law_454 : decode cL_law 454 = .ok (.iload_n 3, 1) := by decide +kernel
theorem dL_law_455 : decode cL_law 455 = .ok (.iconst 2, 1) := by decide +kernel
theorem dL_law_456 : decode cL_law 456 = .ok (.iadd, 1) := by decide +kernel
theorem dL_law_457 : decode cL_law 457 = .ok (.iaload, 1) := by decide +kernel
theorem dL_law_458 : decode cL_law 458 = .ok (.invokevirtual 48, 3) := by decide +kernel
theorem dL_law_461 : decode cL_law 461 = .ok (.if_icmp .eq 902, 3) := by decide +kernel
theorem dL_law_464 : decode cL_law 464 = .ok (.iconst 0, 1) := by decide +kernel
theorem dL_law_465 : decode cL_law 465 = .ok (.ireturn, 1) := by decide +kernel
theorem dL_law_466 : decode cL_law 466 = .ok (.aload_n 1, 1) := by decide +kernel
theorem dL_law_467 : decode cL_law 467 = .ok (.aload_n 0, 1) := by decide +kernel
theorem dL_law_468 : decode cL_law 468 = .ok (.iload_n 3, 1) := by decide +kernel
theorem dL_law_469 : decode cL_law 469 = .ok (.iconst 1, 1) := by decide +kernel
theorem dL_law_470 : decode cL_law 470 = .ok (.iadd, 1) := by decide +kernel
theorem dL_law_471 : decode cL_law 471 = .ok (.iaload, 1) := by decide +kernel
theorem dL_law_472 : decode cL_law 472 = .ok (.aload_n 0, 1) := by decide +kernel
theorem dL_law_473 : decode cL_law 473 = .ok (.iload_n 3, 1) := by decide +kernel
theorem dL_law_474 : decode cL_law 474 = .ok (.iconst 2, 1) := by decide +kernel
theorem dL_law_475 : decode cL_law 475 = .ok (.iadd, 1) := by decide +kernel
theorem dL_law_476 : decode cL_law 476 = .ok (.iaload, 1) := by decide +kernel
theorem dL_law_477 : decode cL_law 477 = .ok (.invokevirtual 49, 3) := by decide +kernel
theorem dL_law_480 : decode cL_law 480 = .ok (.aload_n 2, 1) := by decide +kernel
theorem dL_law_481 : decode cL_law 481 = .ok (.aload_n 0, 1) := by decide +kernel
theorem dL_law_482 : decode cL_law 482 = .ok (.iload_n 3, 1) := by decide +kernel
theorem dL_law_483 : decode cL_law 483 = .ok (.iconst 1, 1) := by decide +kernel
theorem dL_law_484 : decode cL_law 484 = .ok (.iadd, 1) := by decide +kernel
theorem dL_law_485 : decode cL_law 485 = .ok (.iaload, 1) := by decide +kernel
theorem dL_law_486 : decode cL_law 486 = .ok (.aload_n 0, 1) := by decide +kernel
theorem dL_law_487 : decode cL_law 487 = .ok (.iload_n 3, 1) := by decide +kernel
theorem dL_law_488 : decode cL_law 488 = .ok (.iconst 2, 1) := by decide +kernel
theorem dL_law_489 : decode cL_law 489 = .ok (.iadd, 1) := by decide +kernel
theorem dL_law_490 : decode cL_law 490 = .ok (.iaload, 1) := by decide +kernel
theorem dL_law_491 : decode cL_law 491 = .ok (.invokevirtual 52, 3) := by decide +kernel
theorem dL_law_494 : decode cL_law 494 = .ok (.if_icmp .eq 869, 3) := by decide +kernel
theorem dL_law_497 : decode cL_law 497 = .ok (.iconst 0, 1) := by decide +kernel
theorem dL_law_498 : decode cL_law 498 = .ok (.ireturn, 1) := by decide +kernel
theorem dL_law_499 : decode cL_law 499 = .ok (.aload_n 1, 1) := by decide +kernel
theorem dL_law_500 : decode cL_law 500 = .ok (.aload_n 0, 1) := by decide +kernel
theorem dL_law_501 : decode cL_law 501 = .ok (.iload_n 3, 1) := by decide +kernel
theorem dL_law_502 : decode cL_law 502 = .ok (.iconst 1, 1) := by decide +kernel
theorem dL_law_503 : decode cL_law 503 = .ok (.iadd, 1) := by decide +kernel
theorem dL_law_504 : decode cL_law 504 = .ok (.iaload, 1) := by decide +kernel
theorem dL_law_505 : decode cL_law 505 = .ok (.aload_n 0, 1) := by decide +kernel
theorem dL_law_506 : decode cL_law 506 = .ok (.iload_n 3, 1) := by decide +kernel
theorem dL_law_507 : decode cL_law 507 = .ok (.iconst 2, 1) := by decide +kernel
theorem dL_law_508 : decode cL_law 508 = .ok (.iadd, 1) := by decide +kernel
theorem dL_law_509 : decode cL_law 509 = .ok (.iaload, 1) := by decide +kernel
theorem dL_law_510 : decode cL_law 510 = .ok (.aload_n 0, 1) := by decide +kernel
theorem dL_law_511 : decode cL_law 511 = .ok (.iload_n 3, 1) := by decide +kernel
theorem dL_law_512 : decode cL_law 512 = .ok (.iconst 3, 1) := by decide +kernel
theorem dL_law_513 : decode cL_law 513 = .ok (.iadd, 1) := by decide +kernel
theorem dL_law_514 : decode cL_law 514 = .ok (.iaload, 1) := by decide +kernel
theorem dL_law_515 : decode cL_law 515 = .ok (.aload_n 0, 1) := by decide +kernel
theorem dL_law_516 : decode cL_law 516 = .ok (.iload_n 3, 1) := by decide +kernel
theorem dL_law_517 : decode cL_law 517 = .ok (.iconst 4, 1) := by decide +kernel
theorem dL_law_518 : decode cL_law 518 = .ok (.iadd, 1) := by decide +kernel
theorem dL_law_519 : decode cL_law 519 = .ok (.iaload, 1) := by decide +kernel
theorem dL_law_520 : decode cL_law 520 = .ok (.invokevirtual 53, 3) := by decide +kernel
theorem dL_law_523 : decode cL_law 523 = .ok (.aload_n 2, 1) := by decide +kernel
theorem dL_law_524 : decode cL_law 524 = .ok (.aload_n 0, 1) := by decide +kernel
theorem dL_law_525 : decode cL_law 525 = .ok (.iload_n 3, 1) := by decide +kernel
theorem dL_law_526 : decode cL_law 526 = .ok (.iconst 1, 1) := by decide +kernel
theorem dL_law_527 : decode cL_law 527 = .ok (.iadd, 1) := by decide +kernel
theorem dL_law_528 : decode cL_law 528 = .ok (.iaload, 1) := by decide +kernel
theorem dL_law_529 : decode cL_law 529 = .ok (.aload_n 0, 1) := by decide +kernel
theorem dL_law_530 : decode cL_law 530 = .ok (.iload_n 3, 1) := by decide +kernel
theorem dL_law_531 : decode cL_law 531 = .ok (.iconst 2, 1) := by decide +kernel
theorem dL_law_532 : decode cL_law 532 = .ok (.iadd, 1) := by decide +kernel
theorem dL_law_533 : decode cL_law 533 = .ok (.iaload, 1) := by decide +kernel
theorem dL_law_534 : decode cL_law 534 = .ok (.aload_n 0, 1) := by decide +kernel
theorem dL_law_535 : decode cL_law 535 = .ok (.iload_n 3, 1) := by decide +kernel
theorem dL_law_536 : decode cL_law 536 = .ok (.iconst 3, 1) := by decide +kernel
theorem dL_law_537 : decode cL_law 537 = .ok (.iadd, 1) := by decide +kernel
theorem dL_law_538 : decode cL_law 538 = .ok (.iaload, 1) := by decide +kernel
theorem dL_law_539 : decode cL_law 539 = .ok (.aload_n 0, 1) := by decide +kernel
theorem dL_law_540 : decode cL_law 540 = .ok (.iload_n 3, 1) := by decide +kernel
theorem dL_law_541 : decode cL_law 541 = .ok (.iconst 4, 1) := by decide +kernel
theorem dL_law_542 : decode cL_law 542 = .ok (.iadd, 1) := by decide +kernel
theorem dL_law_543 : decode cL_law 543 = .ok (.iaload, 1) := by decide +kernel
theorem dL_law_544 : decode cL_law 544 = .ok (.invokevirtual 57, 3) := by decide +kernel
theorem dL_law_547 : decode cL_law 547 = .ok (.if_icmp .eq 816, 3) := by decide +kernel
theorem dL_law_550 : decode cL_law 550 = .ok (.iconst 0, 1) := by decide +kernel
theorem dL_law_551 : decode cL_law 551 = .ok (.ireturn, 1) := by decide +kernel
theorem dL_law_552 : decode cL_law 552 = .ok (.aload_n 1, 1) := by decide +kernel
theorem dL_law_553 : decode cL_law 553 = .ok (.aload_n 0, 1) := by decide +kernel
theorem dL_law_554 : decode cL_law 554 = .ok (.iload_n 3, 1) := by decide +kernel
theorem dL_law_555 : decode cL_law 555 = .ok (.iconst 1, 1) := by decide +kernel
theorem dL_law_556 : decode cL_law 556 = .ok (.iadd, 1) := by decide +kernel
theorem dL_law_557 : decode cL_law 557 = .ok (.iaload, 1) := by decide +kernel
theorem dL_law_558 : decode cL_law 558 = .ok (.aload_n 0, 1) := by decide +kernel
theorem dL_law_559 : decode cL_law 559 = .ok (.iload_n 3, 1) := by decide +kernel
theorem dL_law_560 : decode cL_law 560 = .ok (.iconst 2, 1) := by decide +kernel
theorem dL_law_561 : decode cL_law 561 = .ok (.iadd, 1) := by decide +kernel
theorem dL_law_562 : decode cL_law 562 = .ok (.iaload, 1) := by decide +kernel
theorem dL_law_563 : decode cL_law 563 = .ok (.invokevirtual 58, 3) := by decide +kernel
theorem dL_law_566 : decode cL_law 566 = .ok (.aload_n 2, 1) := by decide +kernel
theorem dL_law_567 : decode cL_law 567 = .ok (.aload_n 0, 1) := by decide +kernel
theorem dL_law_568 : decode cL_law 568 = .ok (.iload_n 3, 1) := by decide +kernel
theorem dL_law_569 : decode cL_law 569 = .ok (.iconst 1, 1) := by decide +kernel
theorem dL_law_570 : decode cL_law 570 = .ok (.iadd, 1) := by decide +kernel
theorem dL_law_571 : decode cL_law 571 = .ok (.iaload, 1) := by decide +kernel
theorem dL_law_572 : decode cL_law 572 = .ok (.aload_n 0, 1) := by decide +kernel
theorem dL_law_573 : decode cL_law 573 = .ok (.iload_n 3, 1) := by decide +kernel
theorem dL_law_574 : decode cL_law 574 = .ok (.iconst 2, 1) := by decide +kernel
theorem dL_law_575 : decode cL_law 575 = .ok (.iadd, 1) := by decide +kernel
theorem dL_law_576 : decode cL_law 576 = .ok (.iaload, 1) := by decide +kernel
theorem dL_law_577 : decode cL_law 577 = .ok (.invokevirtual 61, 3) := by decide +kernel
theorem dL_law_580 : decode cL_law 580 = .ok (.if_icmp .eq 783, 3) := by decide +kernel
theorem dL_law_583 : decode cL_law 583 = .ok (.iconst 0, 1) := by decide +kernel
theorem dL_law_584 : decode cL_law 584 = .ok (.ireturn, 1) := by decide +kernel
theorem dL_law_585 : decode cL_law 585 = .ok (.aload_n 1, 1) := by decide +kernel
theorem dL_law_586 : decode cL_law 586 = .ok (.aload_n 0, 1) := by decide +kernel
theorem dL_law_587 : decode cL_law 587 = .ok (.iload_n 3, 1) := by decide +kernel
theorem dL_law_588 : decode cL_law 588 = .ok (.iconst 1, 1) := by decide +kernel
theorem dL_law_589 : decode cL_law 589 = .ok (.iadd, 1) := by decide +kernel
theorem dL_law_590 : decode cL_law 590 = .ok (.iaload, 1) := by decide +kernel
theorem dL_law_591 : decode cL_law 591 = .ok (.invokevirtual 62, 3) := by decide +kernel
theorem dL_law_594 : decode cL_law 594 = .ok (.aload_n 2, 1) := by decide +kernel
theorem dL_law_595 : decode cL_law 595 = .ok (.aload_n 0, 1) := by decide +kernel
theorem dL_law_596 : decode cL_law 596 = .ok (.iload_n 3, 1) := by decide +kernel
theorem dL_law_597 : decode cL_law 597 = .ok (.iconst 1, 1) := by decide +kernel
theorem dL_law_598 : decode cL_law 598 = .ok (.iadd, 1) := by decide +kernel
theorem dL_law_599 : decode cL_law 599 = .ok (.iaload, 1) := by decide +kernel
theorem dL_law_600 : decode cL_law 600 = .ok (.invokevirtual 66, 3) := by decide +kernel
theorem dL_law_603 : decode cL_law 603 = .ok (.if_icmp .eq 760, 3) := by decide +kernel
theorem dL_law_606 : decode cL_law 606 = .ok (.iconst 0, 1) := by decide +kernel
theorem dL_law_607 : decode cL_law 607 = .ok (.ireturn, 1) := by decide +kernel
theorem dL_law_608 : decode cL_law 608 = .ok (.aload_n 1, 1) := by decide +kernel
theorem dL_law_609 : decode cL_law 609 = .ok (.aload_n 0, 1) := by decide +kernel
theorem dL_law_610 : decode cL_law 610 = .ok (.iload_n 3, 1) := by decide +kernel
theorem dL_law_611 : decode cL_law 611 = .ok (.iconst 1, 1) := by decide +kernel
theorem dL_law_612 : decode cL_law 612 = .ok (.iadd, 1) := by decide +kernel
theorem dL_law_613 : decode cL_law 613 = .ok (.iaload, 1) := by decide +kernel
theorem dL_law_614 : decode cL_law 614 = .ok (.aload_n 0, 1) := by decide +kernel
theorem dL_law_615 : decode cL_law 615 = .ok (.iload_n 3, 1) := by decide +kernel
theorem dL_law_616 : decode cL_law 616 = .ok (.iconst 2, 1) := by decide +kernel
theorem dL_law_617 : decode cL_law 617 = .ok (.iadd, 1) := by decide +kernel
theorem dL_law_618 : decode cL_law 618 = .ok (.iaload, 1) := by decide +kernel
theorem dL_law_619 : decode cL_law 619 = .ok (.aload_n 0, 1) := by decide +kernel
theorem dL_law_620 : decode cL_law 620 = .ok (.iload_n 3, 1) := by decide +kernel
theorem dL_law_621 : decode cL_law 621 = .ok (.iconst 3, 1) := by decide +kernel
theorem dL_law_622 : decode cL_law 622 = .ok (.iadd, 1) := by decide +kernel
theorem dL_law_623 : decode cL_law 623 = .ok (.iaload, 1) := by decide +kernel
theorem dL_law_624 : decode cL_law 624 = .ok (.invokevirtual 67, 3) := by decide +kernel
theorem dL_law_627 : decode cL_law 627 = .ok (.aload_n 2, 1) := by decide +kernel
theorem dL_law_628 : decode cL_law 628 = .ok (.aload_n 0, 1) := by decide +kernel
theorem dL_law_629 : decode cL_law 629 = .ok (.iload_n 3, 1) := by decide +kernel
theorem dL_law_630 : decode cL_law 630 = .ok (.iconst 1, 1) := by decide +kernel
theorem dL_law_631 : decode cL_law 631 = .ok (.iadd, 1) := by decide +kernel
theorem dL_law_632 : decode cL_law 632 = .ok (.iaload, 1) := by decide +kernel
theorem dL_law_633 : decode cL_law 633 = .ok (.aload_n 0, 1) := by decide +kernel
theorem dL_law_634 : decode cL_law 634 = .ok (.iload_n 3, 1) := by decide +kernel
theorem dL_law_635 : decode cL_law 635 = .ok (.iconst 2, 1) := by decide +kernel
theorem dL_law_636 : decode cL_law 636 = .ok (.iadd, 1) := by decide +kernel
theorem dL_law_637 : decode cL_law 637 = .ok (.iaload, 1) := by decide +kernel
theorem dL_law_638 : decode cL_law 638 = .ok (.aload_n 0, 1) := by decide +kernel
theorem dL_law_639 : decode cL_law 639 = .ok (.iload_n 3, 1) := by decide +kernel
theorem dL_law_640 : decode cL_law 640 = .ok (.iconst 3, 1) := by decide +kernel
theorem dL_law_641 : decode cL_law 641 = .ok (.iadd, 1) := by decide +kernel
theorem dL_law_642 : decode cL_law 642 = .ok (.iaload, 1) := by decide +kernel
theorem dL_law_643 : decode cL_law 643 = .ok (.invokevirtual 70, 3) := by decide +kernel
theorem dL_law_646 : decode cL_law 646 = .ok (.if_icmp .eq 717, 3) := by decide +kernel
theorem dL_law_649 : decode cL_law 649 = .ok (.iconst 0, 1) := by decide +kernel
theorem dL_law_650 : decode cL_law 650 = .ok (.ireturn, 1) := by decide +kernel
theorem dL_law_651 : decode cL_law 651 = .ok (.aload_n 1, 1) := by decide +kernel
theorem dL_law_652 : decode cL_law 652 = .ok (.aload_n 0, 1) := by decide +kernel
theorem dL_law_653 : decode cL_law 653 = .ok (.iload_n 3, 1) := by decide +kernel
theorem dL_law_654 : decode cL_law 654 = .ok (.iconst 1, 1) := by decide +kernel
theorem dL_law_655 : decode cL_law 655 = .ok (.iadd, 1) := by decide +kernel
theorem dL_law_656 : decode cL_law 656 = .ok (.iaload, 1) := by decide +kernel
theorem dL_law_657 : decode cL_law 657 = .ok (.invokevirtual 71, 3) := by decide +kernel
theorem dL_law_660 : decode cL_law 660 = .ok (.aload_n 2, 1) := by decide +kernel
theorem dL_law_661 : decode cL_law 661 = .ok (.aload_n 0, 1) := by decide +kernel
theorem dL_law_662 : decode cL_law 662 = .ok (.iload_n 3, 1) := by decide +kernel
theorem dL_law_663 : decode cL_law 663 = .ok (.iconst 1, 1) := by decide +kernel
theorem dL_law_664 : decode cL_law 664 = .ok (.iadd, 1) := by decide +kernel
theorem dL_law_665 : decode cL_law 665 = .ok (.iaload, 1) := by decide +kernel
theorem dL_law_666 : decode cL_law 666 = .ok (.invokevirtual 74, 3) := by decide +kernel
theorem dL_law_669 : decode cL_law 669 = .ok (.if_icmp .eq 694, 3) := by decide +kernel
theorem dL_law_672 : decode cL_law 672 = .ok (.iconst 0, 1) := by decide +kernel
theorem dL_law_673 : decode cL_law 673 = .ok (.ireturn, 1) := by decide +kernel
theorem dL_law_674 : decode cL_law 674 = .ok (.aload_n 1, 1) := by decide +kernel
theorem dL_law_675 : decode cL_law 675 = .ok (.aload_n 0, 1) := by decide +kernel
theorem dL_law_676 : decode cL_law 676 = .ok (.iload_n 3, 1) := by decide +kernel
theorem dL_law_677 : decode cL_law 677 = .ok (.iconst 1, 1) := by decide +kernel
theorem dL_law_678 : decode cL_law 678 = .ok (.iadd, 1) := by decide +kernel
theorem dL_law_679 : decode cL_law 679 = .ok (.iaload, 1) := by decide +kernel
theorem dL_law_680 : decode cL_law 680 = .ok (.aload_n 0, 1) := by decide +kernel
theorem dL_law_681 : decode cL_law 681 = .ok (.iload_n 3, 1) := by decide +kernel
theorem dL_law_682 : decode cL_law 682 = .ok (.iconst 2, 1) := by decide +kernel
theorem dL_law_683 : decode cL_law 683 = .ok (.iadd, 1) := by decide +kernel
theorem dL_law_684 : decode cL_law 684 = .ok (.iaload, 1) := by decide +kernel
theorem dL_law_685 : decode cL_law 685 = .ok (.aload_n 0, 1) := by decide +kernel
theorem dL_law_686 : decode cL_law 686 = .ok (.iload_n 3, 1) := by decide +kernel
theorem dL_law_687 : decode cL_law 687 = .ok (.iconst 3, 1) := by decide +kernel
theorem dL_law_688 : decode cL_law 688 = .ok (.iadd, 1) := by decide +kernel
theorem dL_law_689 : decode cL_law 689 = .ok (.iaload, 1) := by decide +kernel
theorem dL_law_690 : decode cL_law 690 = .ok (.invokevirtual 75, 3) := by decide +kernel
theorem dL_law_693 : decode cL_law 693 = .ok (.aload_n 2, 1) := by decide +kernel
theorem dL_law_694 : decode cL_law 694 = .ok (.aload_n 0, 1) := by decide +kernel
theorem dL_law_695 : decode cL_law 695 = .ok (.iload_n 3, 1) := by decide +kernel
theorem dL_law_696 : decode cL_law 696 = .ok (.iconst 1, 1) := by decide +kernel
theorem dL_law_697 : decode cL_law 697 = .ok (.iadd, 1) := by decide +kernel
theorem dL_law_698 : decode cL_law 698 = .ok (.iaload, 1) := by decide +kernel
theorem dL_law_699 : decode cL_law 699 = .ok (.aload_n 0, 1) := by decide +kernel
theorem dL_law_700 : decode cL_law 700 = .ok (.iload_n 3, 1) := by decide +kernel
theorem dL_law_701 : decode cL_law 701 = .ok (.iconst 2, 1) := by decide +kernel
theorem dL_law_702 : decode cL_law 702 = .ok (.iadd, 1) := by decide +kernel
theorem dL_law_703 : decode cL_law 703 = .ok (.iaload, 1) := by decide +kernel
theorem dL_law_704 : decode cL_law 704 = .ok (.aload_n 0, 1) := by decide +kernel
theorem dL_law_705 : decode cL_law 705 = .ok (.iload_n 3, 1) := by decide +kernel
theorem dL_law_706 : decode cL_law 706 = .ok (.iconst 3, 1) := by decide +kernel
theorem dL_law_707 : decode cL_law 707 = .ok (.iadd, 1) := by decide +kernel
theorem dL_law_708 : decode cL_law 708 = .ok (.iaload, 1) := by decide +kernel
theorem dL_law_709 : decode cL_law 709 = .ok (.invokevirtual 78, 3) := by decide +kernel
theorem dL_law_712 : decode cL_law 712 = .ok (.if_icmp .eq 651, 3) := by decide +kernel
theorem dL_law_715 : decode cL_law 715 = .ok (.iconst 0, 1) := by decide +kernel
theorem dL_law_716 : decode cL_law 716 = .ok (.ireturn, 1) := by decide +kernel
theorem dL_law_717 : decode cL_law 717 = .ok (.aload_n 1, 1) := by decide +kernel
theorem dL_law_718 : decode cL_law 718 = .ok (.aload_n 0, 1) := by decide +kernel
theorem dL_law_719 : decode cL_law 719 = .ok (.iload_n 3, 1) := by decide +kernel
theorem dL_law_720 : decode cL_law 720 = .ok (.iconst 1, 1) := by decide +kernel
theorem dL_law_721 : decode cL_law 721 = .ok (.iadd, 1) := by decide +kernel
theorem dL_law_722 : decode cL_law 722 = .ok (.iaload, 1) := by decide +kernel
theorem dL_law_723 : decode cL_law 723 = .ok (.invokevirtual 79, 3) := by decide +kernel
theorem dL_law_726 : decode cL_law 726 = .ok (.aload_n 2, 1) := by decide +kernel
theorem dL_law_727 : decode cL_law 727 = .ok (.aload_n 0, 1) := by decide +kernel
theorem dL_law_728 : decode cL_law 728 = .ok (.iload_n 3, 1) := by decide +kernel
theorem dL_law_729 : decode cL_law 729 = .ok (.iconst 1, 1) := by decide +kernel
theorem dL_law_730 : decode cL_law 730 = .ok (.iadd, 1) := by decide +kernel
theorem dL_law_731 : decode cL_law 731 = .ok (.iaload, 1) := by decide +kernel
theorem dL_law_732 : decode cL_law 732 = .ok (.invokevirtual 82, 3) := by decide +kernel
theorem dL_law_735 : decode cL_law 735 = .ok (.if_icmp .eq 628, 3) := by decide +kernel
theorem dL_law_738 : decode cL_law 738 = .ok (.iconst 0, 1) := by decide +kernel
theorem dL_law_739 : decode cL_law 739 = .ok (.ireturn, 1) := by decide +kernel
theorem dL_law_740 : decode cL_law 740 = .ok (.aload_n 1, 1) := by decide +kernel
theorem dL_law_741 : decode cL_law 741 = .ok (.invokevirtual 83, 3) := by decide +kernel
theorem dL_law_744 : decode cL_law 744 = .ok (.aload_n 2, 1) := by decide +kernel
theorem dL_law_745 : decode cL_law 745 = .ok (.invokevirtual 86, 3) := by decide +kernel
theorem dL_law_748 : decode cL_law 748 = .ok (.if_icmp .eq 615, 3) := by decide +kernel
theorem dL_law_751 : decode cL_law 751 = .ok (.iconst 0, 1) := by decide +kernel
theorem dL_law_752 : decode cL_law 752 = .ok (.ireturn, 1) := by decide +kernel
theorem dL_law_753 : decode cL_law 753 = .ok (.aload_n 1, 1) := by decide +kernel
theorem dL_law_754 : decode cL_law 754 = .ok (.aload_n 0, 1) := by decide +kernel
theorem dL_law_755 : decode cL_law 755 = .ok (.iload_n 3, 1) := by decide +kernel
theorem dL_law_756 : decode cL_law 756 = .ok (.iconst 1, 1) := by decide +kernel
theorem dL_law_757 : decode cL_law 757 = .ok (.iadd, 1) := by decide +kernel
theorem dL_law_758 : decode cL_law 758 = .ok (.iaload, 1) := by decide +kernel
theorem dL_law_759 : decode cL_law 759 = .ok (.invokevirtual 87, 3) := by decide +kernel
theorem dL_law_762 : decode cL_law 762 = .ok (.aload_n 2, 1) := by decide +kernel
theorem dL_law_763 : decode cL_law 763 = .ok (.aload_n 0, 1) := by decide +kernel
theorem dL_law_764 : decode cL_law 764 = .ok (.iload_n 3, 1) := by decide +kernel
theorem dL_law_765 : decode cL_law 765 = .ok (.iconst 1, 1) := by decide +kernel
theorem dL_law_766 : decode cL_law 766 = .ok (.iadd, 1) := by decide +kernel
theorem dL_law_767 : decode cL_law 767 = .ok (.iaload, 1) := by decide +kernel
theorem dL_law_768 : decode cL_law 768 = .ok (.invokevirtual 90, 3) := by decide +kernel
theorem dL_law_771 : decode cL_law 771 = .ok (.if_icmp .eq 592, 3) := by decide +kernel
theorem dL_law_774 : decode cL_law 774 = .ok (.iconst 0, 1) := by decide +kernel
theorem dL_law_775 : decode cL_law 775 = .ok (.ireturn, 1) := by decide +kernel
theorem dL_law_776 : decode cL_law 776 = .ok (.aload_n 1, 1) := by decide +kernel
theorem dL_law_777 : decode cL_law 777 = .ok (.aload_n 0, 1) := by decide +kernel
theorem dL_law_778 : decode cL_law 778 = .ok (.iload_n 3, 1) := by decide +kernel
theorem dL_law_779 : decode cL_law 779 = .ok (.iconst 1, 1) := by decide +kernel
theorem dL_law_780 : decode cL_law 780 = .ok (.iadd, 1) := by decide +kernel
theorem dL_law_781 : decode cL_law 781 = .ok (.iaload, 1) := by decide +kernel
theorem dL_law_782 : decode cL_law 782 = .ok (.aload_n 0, 1) := by decide +kernel
theorem dL_law_783 : decode cL_law 783 = .ok (.iload_n 3, 1) := by decide +kernel
theorem dL_law_784 : decode cL_law 784 = .ok (.iconst 2, 1) := by decide +kernel
theorem dL_law_785 : decode cL_law 785 = .ok (.iadd, 1) := by decide +kernel
theorem dL_law_786 : decode cL_law 786 = .ok (.iaload, 1) := by decide +kernel
theorem dL_law_787 : decode cL_law 787 = .ok (.invokevirtual 91, 3) := by decide +kernel
theorem dL_law_790 : decode cL_law 790 = .ok (.aload_n 2, 1) := by decide +kernel
theorem dL_law_791 : decode cL_law 791 = .ok (.aload_n 0, 1) := by decide +kernel
theorem dL_law_792 : decode cL_law 792 = .ok (.iload_n 3, 1) := by decide +kernel
theorem dL_law_793 : decode cL_law 793 = .ok (.iconst 1, 1) := by decide +kernel
theorem dL_law_794 : decode cL_law 794 = .ok (.iadd, 1) := by decide +kernel
theorem dL_law_795 : decode cL_law 795 = .ok (.iaload, 1) := by decide +kernel
theorem dL_law_796 : decode cL_law 796 = .ok (.aload_n 0, 1) := by decide +kernel
theorem dL_law_797 : decode cL_law 797 = .ok (.iload_n 3, 1) := by decide +kernel
theorem dL_law_798 : decode cL_law 798 = .ok (.iconst 2, 1) := by decide +kernel
theorem dL_law_799 : decode cL_law 799 = .ok (.iadd, 1) := by decide +kernel
theorem dL_law_800 : decode cL_law 800 = .ok (.iaload, 1) := by decide +kernel
theorem dL_law_801 : decode cL_law 801 = .ok (.invokevirtual 94, 3) := by decide +kernel
theorem dL_law_804 : decode cL_law 804 = .ok (.if_icmp .eq 559, 3) := by decide +kernel
theorem dL_law_807 : decode cL_law 807 = .ok (.iconst 0, 1) := by decide +kernel
theorem dL_law_808 : decode cL_law 808 = .ok (.ireturn, 1) := by decide +kernel
theorem dL_law_809 : decode cL_law 809 = .ok (.aload_n 1, 1) := by decide +kernel
theorem dL_law_810 : decode cL_law 810 = .ok (.invokevirtual 95, 3) := by decide +kernel
theorem dL_law_813 : decode cL_law 813 = .ok (.aload_n 2, 1) := by decide +kernel
theorem dL_law_814 : decode cL_law 814 = .ok (.invokevirtual 98, 3) := by decide +kernel
theorem dL_law_817 : decode cL_law 817 = .ok (.if_icmp .eq 546, 3) := by decide +kernel
theorem dL_law_820 : decode cL_law 820 = .ok (.iconst 0, 1) := by decide +kernel
theorem dL_law_821 : decode cL_law 821 = .ok (.ireturn, 1) := by decide +kernel
theorem dL_law_822 : decode cL_law 822 = .ok (.aload_n 1, 1) := by decide +kernel
theorem dL_law_823 : decode cL_law 823 = .ok (.aload_n 0, 1) := by decide +kernel
theorem dL_law_824 : decode cL_law 824 = .ok (.iload_n 3, 1) := by decide +kernel
theorem dL_law_825 : decode cL_law 825 = .ok (.iconst 1, 1) := by decide +kernel
theorem dL_law_826 : decode cL_law 826 = .ok (.iadd, 1) := by decide +kernel
theorem dL_law_827 : decode cL_law 827 = .ok (.iaload, 1) := by decide +kernel
theorem dL_law_828 : decode cL_law 828 = .ok (.aload_n 0, 1) := by decide +kernel
theorem dL_law_829 : decode cL_law 829 = .ok (.iload_n 3, 1) := by decide +kernel
theorem dL_law_830 : decode cL_law 830 = .ok (.iconst 2, 1) := by decide +kernel
theorem dL_law_831 : decode cL_law 831 = .ok (.iadd, 1) := by decide +kernel
theorem dL_law_832 : decode cL_law 832 = .ok (.iaload, 1) := by decide +kernel
theorem dL_law_833 : decode cL_law 833 = .ok (.invokevirtual 99, 3) := by decide +kernel
theorem dL_law_836 : decode cL_law 836 = .ok (.aload_n 2, 1) := by decide +kernel
theorem dL_law_837 : decode cL_law 837 = .ok (.aload_n 0, 1) := by decide +kernel
theorem dL_law_838 : decode cL_law 838 = .ok (.iload_n 3, 1) := by decide +kernel
theorem dL_law_839 : decode cL_law 839 = .ok (.iconst 1, 1) := by decide +kernel
theorem dL_law_840 : decode cL_law 840 = .ok (.iadd, 1) := by decide +kernel
theorem dL_law_841 : decode cL_law 841 = .ok (.iaload, 1) := by decide +kernel
theorem dL_law_842 : decode cL_law 842 = .ok (.aload_n 0, 1) := by decide +kernel
theorem dL_law_843 : decode cL_law 843 = .ok (.iload_n 3, 1) := by decide +kernel
theorem dL_law_844 : decode cL_law 844 = .ok (.iconst 2, 1) := by decide +kernel
theorem dL_law_845 : decode cL_law 845 = .ok (.iadd, 1) := by decide +kernel
theorem dL_law_846 : decode cL_law 846 = .ok (.iaload, 1) := by decide +kernel
theorem dL_law_847 : decode cL_law 847 = .ok (.invokevirtual 102, 3) := by decide +kernel
theorem dL_law_850 : decode cL_law 850 = .ok (.if_icmp .eq 513, 3) := by decide +kernel
theorem dL_law_853 : decode cL_law 853 = .ok (.iconst 0, 1) := by decide +kernel
theorem dL_law_854 : decode cL_law 854 = .ok (.ireturn, 1) := by decide +kernel
theorem dL_law_855 : decode cL_law 855 = .ok (.aload_n 1, 1) := by decide +kernel
theorem dL_law_856 : decode cL_law 856 = .ok (.invokevirtual 103, 3) := by decide +kernel
theorem dL_law_859 : decode cL_law 859 = .ok (.aload_n 2, 1) := by decide +kernel
theorem dL_law_860 : decode cL_law 860 = .ok (.invokevirtual 106, 3) := by decide +kernel
theorem dL_law_863 : decode cL_law 863 = .ok (.if_icmp .eq 500, 3) := by decide +kernel
theorem dL_law_866 : decode cL_law 866 = .ok (.iconst 0, 1) := by decide +kernel
theorem dL_law_867 : decode cL_law 867 = .ok (.ireturn, 1) := by decide +kernel
theorem dL_law_868 : decode cL_law 868 = .ok (.aload_n 1, 1) := by decide +kernel
theorem dL_law_869 : decode cL_law 869 = .ok (.aload_n 0, 1) := by decide +kernel
theorem dL_law_870 : decode cL_law 870 = .ok (.iload_n 3, 1) := by decide +kernel
theorem dL_law_871 : decode cL_law 871 = .ok (.iconst 1, 1) := by decide +kernel
theorem dL_law_872 : decode cL_law 872 = .ok (.iadd, 1) := by decide +kernel
theorem dL_law_873 : decode cL_law 873 = .ok (.iaload, 1) := by decide +kernel
theorem dL_law_874 : decode cL_law 874 = .ok (.i2l, 1) := by decide +kernel
theorem dL_law_875 : decode cL_law 875 = .ok (.bipush 32, 2) := by decide +kernel
theorem dL_law_877 : decode cL_law 877 = .ok (.lshl, 1) := by decide +kernel
theorem dL_law_878 : decode cL_law 878 = .ok (.aload_n 0, 1) := by decide +kernel
theorem dL_law_879 : decode cL_law 879 = .ok (.iload_n 3, 1) := by decide +kernel
theorem dL_law_880 : decode cL_law 880 = .ok (.iconst 2, 1) := by decide +kernel
theorem dL_law_881 : decode cL_law 881 = .ok (.iadd, 1) := by decide +kernel
theorem dL_law_882 : decode cL_law 882 = .ok (.iaload, 1) := by decide +kernel
theorem dL_law_883 : decode cL_law 883 = .ok (.i2l, 1) := by decide +kernel
theorem dL_law_884 : decode cL_law 884 = .ok (.ldc2_w 107, 3) := by decide +kernel
theorem dL_law_887 : decode cL_law 887 = .ok (.land, 1) := by decide +kernel
theorem dL_law_888 : decode cL_law 888 = .ok (.lor, 1) := by decide +kernel
theorem dL_law_889 : decode cL_law 889 = .ok (.aload_n 0, 1) := by decide +kernel
theorem dL_law_890 : decode cL_law 890 = .ok (.iload_n 3, 1) := by decide +kernel
theorem dL_law_891 : decode cL_law 891 = .ok (.iconst 3, 1) := by decide +kernel
theorem dL_law_892 : decode cL_law 892 = .ok (.iadd, 1) := by decide +kernel
theorem dL_law_893 : decode cL_law 893 = .ok (.iaload, 1) := by decide +kernel
theorem dL_law_894 : decode cL_law 894 = .ok (.invokevirtual 109, 3) := by decide +kernel
theorem dL_law_897 : decode cL_law 897 = .ok (.aload_n 2, 1) := by decide +kernel
theorem dL_law_898 : decode cL_law 898 = .ok (.aload_n 0, 1) := by decide +kernel
theorem dL_law_899 : decode cL_law 899 = .ok (.iload_n 3, 1) := by decide +kernel
theorem dL_law_900 : decode cL_law 900 = .ok (.iconst 1, 1) := by decide +kernel
theorem dL_law_901 : decode cL_law 901 = .ok (.iadd, 1) := by decide +kernel
theorem dL_law_902 : decode cL_law 902 = .ok (.iaload, 1) := by decide +kernel
theorem dL_law_903 : decode cL_law 903 = .ok (.i2l, 1) := by decide +kernel
theorem dL_law_904 : decode cL_law 904 = .ok (.bipush 32, 2) := by decide +kernel
theorem dL_law_906 : decode cL_law 906 = .ok (.lshl, 1) := by decide +kernel
theorem dL_law_907 : decode cL_law 907 = .ok (.aload_n 0, 1) := by decide +kernel
theorem dL_law_908 : decode cL_law 908 = .ok (.iload_n 3, 1) := by decide +kernel
theorem dL_law_909 : decode cL_law 909 = .ok (.iconst 2, 1) := by decide +kernel
theorem dL_law_910 : decode cL_law 910 = .ok (.iadd, 1) := by decide +kernel
theorem dL_law_911 : decode cL_law 911 = .ok (.iaload, 1) := by decide +kernel
theorem dL_law_912 : decode cL_law 912 = .ok (.i2l, 1) := by decide +kernel
theorem dL_law_913 : decode cL_law 913 = .ok (.ldc2_w 107, 3) := by decide +kernel
theorem dL_law_916 : decode cL_law 916 = .ok (.land, 1) := by decide +kernel
theorem dL_law_917 : decode cL_law 917 = .ok (.lor, 1) := by decide +kernel
theorem dL_law_918 : decode cL_law 918 = .ok (.aload_n 0, 1) := by decide +kernel
theorem dL_law_919 : decode cL_law 919 = .ok (.iload_n 3, 1) := by decide +kernel
theorem dL_law_920 : decode cL_law 920 = .ok (.iconst 3, 1) := by decide +kernel
theorem dL_law_921 : decode cL_law 921 = .ok (.iadd, 1) := by decide +kernel
theorem dL_law_922 : decode cL_law 922 = .ok (.iaload, 1) := by decide +kernel
theorem dL_law_923 : decode cL_law 923 = .ok (.invokevirtual 113, 3) := by decide +kernel
theorem dL_law_926 : decode cL_law 926 = .ok (.if_icmp .eq 437, 3) := by decide +kernel
theorem dL_law_929 : decode cL_law 929 = .ok (.iconst 0, 1) := by decide +kernel
theorem dL_law_930 : decode cL_law 930 = .ok (.ireturn, 1) := by decide +kernel
theorem dL_law_931 : decode cL_law 931 = .ok (.aload_n 1, 1) := by decide +kernel
theorem dL_law_932 : decode cL_law 932 = .ok (.invokevirtual 114, 3) := by decide +kernel
theorem dL_law_935 : decode cL_law 935 = .ok (.aload_n 2, 1) := by decide +kernel
theorem dL_law_936 : decode cL_law 936 = .ok (.invokevirtual 117, 3) := by decide +kernel
theorem dL_law_939 : decode cL_law 939 = .ok (.if_icmp .eq 424, 3) := by decide +kernel
theorem dL_law_942 : decode cL_law 942 = .ok (.iconst 0, 1) := by decide +kernel
theorem dL_law_943 : decode cL_law 943 = .ok (.ireturn, 1) := by decide +kernel
theorem dL_law_944 : decode cL_law 944 = .ok (.aload_n 1, 1) := by decide +kernel
theorem dL_law_945 : decode cL_law 945 = .ok (.aload_n 0, 1) := by decide +kernel
theorem dL_law_946 : decode cL_law 946 = .ok (.iload_n 3, 1) := by decide +kernel
theorem dL_law_947 : decode cL_law 947 = .ok (.iconst 1, 1) := by decide +kernel
theorem dL_law_948 : decode cL_law 948 = .ok (.iadd, 1) := by decide +kernel
theorem dL_law_949 : decode cL_law 949 = .ok (.iaload, 1) := by decide +kernel
theorem dL_law_950 : decode cL_law 950 = .ok (.aload_n 0, 1) := by decide +kernel
theorem dL_law_951 : decode cL_law 951 = .ok (.iload_n 3, 1) := by decide +kernel
theorem dL_law_952 : decode cL_law 952 = .ok (.iconst 2, 1) := by decide +kernel
theorem dL_law_953 : decode cL_law 953 = .ok (.iadd, 1) := by decide +kernel
theorem dL_law_954 : decode cL_law 954 = .ok (.iaload, 1) := by decide +kernel
theorem dL_law_955 : decode cL_law 955 = .ok (.invokevirtual 118, 3) := by decide +kernel
theorem dL_law_958 : decode cL_law 958 = .ok (.aload_n 2, 1) := by decide +kernel
theorem dL_law_959 : decode cL_law 959 = .ok (.aload_n 0, 1) := by decide +kernel
theorem dL_law_960 : decode cL_law 960 = .ok (.iload_n 3, 1) := by decide +kernel
theorem dL_law_961 : decode cL_law 961 = .ok (.iconst 1, 1) := by decide +kernel
theorem dL_law_962 : decode cL_law 962 = .ok (.iadd, 1) := by decide +kernel
theorem dL_law_963 : decode cL_law 963 = .ok (.iaload, 1) := by decide +kernel
theorem dL_law_964 : decode cL_law 964 = .ok (.aload_n 0, 1) := by decide +kernel
theorem dL_law_965 : decode cL_law 965 = .ok (.iload_n 3, 1) := by decide +kernel
theorem dL_law_966 : decode cL_law 966 = .ok (.iconst 2, 1) := by decide +kernel
theorem dL_law_967 : decode cL_law 967 = .ok (.iadd, 1) := by decide +kernel
theorem dL_law_968 : decode cL_law 968 = .ok (.iaload, 1) := by decide +kernel
theorem dL_law_969 : decode cL_law 969 = .ok (.invokevirtual 121, 3) := by decide +kernel
theorem dL_law_972 : decode cL_law 972 = .ok (.if_icmp .eq 391, 3) := by decide +kernel
theorem dL_law_975 : decode cL_law 975 = .ok (.iconst 0, 1) := by decide +kernel
theorem dL_law_976 : decode cL_law 976 = .ok (.ireturn, 1) := by decide +kernel
theorem dL_law_977 : decode cL_law 977 = .ok (.aload_n 1, 1) := by decide +kernel
theorem dL_law_978 : decode cL_law 978 = .ok (.invokevirtual 122, 3) := by decide +kernel
theorem dL_law_981 : decode cL_law 981 = .ok (.aload_n 2, 1) := by decide +kernel
theorem dL_law_982 : decode cL_law 982 = .ok (.invokevirtual 125, 3) := by decide +kernel
theorem dL_law_985 : decode cL_law 985 = .ok (.if_icmp .eq 378, 3) := by decide +kernel
theorem dL_law_988 : decode cL_law 988 = .ok (.iconst 0, 1) := by decide +kernel
theorem dL_law_989 : decode cL_law 989 = .ok (.ireturn, 1) := by decide +kernel
theorem dL_law_990 : decode cL_law 990 = .ok (.aload_n 1, 1) := by decide +kernel
theorem dL_law_991 : decode cL_law 991 = .ok (.invokevirtual 126, 3) := by decide +kernel
theorem dL_law_994 : decode cL_law 994 = .ok (.aload_n 2, 1) := by decide +kernel
theorem dL_law_995 : decode cL_law 995 = .ok (.invokevirtual 129, 3) := by decide +kernel
theorem dL_law_998 : decode cL_law 998 = .ok (.if_icmp .eq 365, 3) := by decide +kernel
theorem dL_law_1001 : decode cL_law 1001 = .ok (.iconst 0, 1) := by decide +kernel
theorem dL_law_1002 : decode cL_law 1002 = .ok (.ireturn, 1) := by decide +kernel
theorem dL_law_1003 : decode cL_law 1003 = .ok (.aload_n 1, 1) := by decide +kernel
theorem dL_law_1004 : decode cL_law 1004 = .ok (.aload_n 0, 1) := by decide +kernel
theorem dL_law_1005 : decode cL_law 1005 = .ok (.iload_n 3, 1) := by decide +kernel
theorem dL_law_1006 : decode cL_law 1006 = .ok (.iconst 1, 1) := by decide +kernel
theorem dL_law_1007 : decode cL_law 1007 = .ok (.iadd, 1) := by decide +kernel
theorem dL_law_1008 : decode cL_law 1008 = .ok (.iaload, 1) := by decide +kernel
theorem dL_law_1009 : decode cL_law 1009 = .ok (.aload_n 0, 1) := by decide +kernel
theorem dL_law_1010 : decode cL_law 1010 = .ok (.iload_n 3, 1) := by decide +kernel
theorem dL_law_1011 : decode cL_law 1011 = .ok (.iconst 2, 1) := by decide +kernel
theorem dL_law_1012 : decode cL_law 1012 = .ok (.iadd, 1) := by decide +kernel
theorem dL_law_1013 : decode cL_law 1013 = .ok (.iaload, 1) := by decide +kernel
theorem dL_law_1014 : decode cL_law 1014 = .ok (.invokevirtual 130, 3) := by decide +kernel
theorem dL_law_1017 : decode cL_law 1017 = .ok (.aload_n 2, 1) := by decide +kernel
theorem dL_law_1018 : decode cL_law 1018 = .ok (.aload_n 0, 1) := by decide +kernel
theorem dL_law_1019 : decode cL_law 1019 = .ok (.iload_n 3, 1) := by decide +kernel
theorem dL_law_1020 : decode cL_law 1020 = .ok (.iconst 1, 1) := by decide +kernel
theorem dL_law_1021 : decode cL_law 1021 = .ok (.iadd, 1) := by decide +kernel
theorem dL_law_1022 : decode cL_law 1022 = .ok (.iaload, 1) := by decide +kernel
theorem dL_law_1023 : decode cL_law 1023 = .ok (.aload_n 0, 1) := by decide +kernel
theorem dL_law_1024 : decode cL_law 1024 = .ok (.iload_n 3, 1) := by decide +kernel
theorem dL_law_1025 : decode cL_law 1025 = .ok (.iconst 2, 1) := by decide +kernel
theorem dL_law_1026 : decode cL_law 1026 = .ok (.iadd, 1) := by decide +kernel
theorem dL_law_1027 : decode cL_law 1027 = .ok (.iaload, 1) := by decide +kernel
theorem dL_law_1028 : decode cL_law 1028 = .ok (.invokevirtual 133, 3) := by decide +kernel
theorem dL_law_1031 : decode cL_law 1031 = .ok (.if_icmp .eq 332, 3) := by decide +kernel
theorem dL_law_1034 : decode cL_law 1034 = .ok (.iconst 0, 1) := by decide +kernel
theorem dL_law_1035 : decode cL_law 1035 = .ok (.ireturn, 1) := by decide +kernel
theorem dL_law_1036 : decode cL_law 1036 = .ok (.aload_n 1, 1) := by decide +kernel
theorem dL_law_1037 : decode cL_law 1037 = .ok (.aload_n 0, 1) := by decide +kernel
theorem dL_law_1038 : decode cL_law 1038 = .ok (.iload_n 3, 1) := by decide +kernel
theorem dL_law_1039 : decode cL_law 1039 = .ok (.iconst 1, 1) := by decide +kernel
theorem dL_law_1040 : decode cL_law 1040 = .ok (.iadd, 1) := by decide +kernel
theorem dL_law_1041 : decode cL_law 1041 = .ok (.iaload, 1) := by decide +kernel
theorem dL_law_1042 : decode cL_law 1042 = .ok (.invokevirtual 134, 3) := by decide +kernel
theorem dL_law_1045 : decode cL_law 1045 = .ok (.aload_n 2, 1) := by decide +kernel
theorem dL_law_1046 : decode cL_law 1046 = .ok (.aload_n 0, 1) := by decide +kernel
theorem dL_law_1047 : decode cL_law 1047 = .ok (.iload_n 3, 1) := by decide +kernel
theorem dL_law_1048 : decode cL_law 1048 = .ok (.iconst 1, 1) := by decide +kernel
theorem dL_law_1049 : decode cL_law 1049 = .ok (.iadd, 1) := by decide +kernel
theorem dL_law_1050 : decode cL_law 1050 = .ok (.iaload, 1) := by decide +kernel
theorem dL_law_1051 : decode cL_law 1051 = .ok (.invokevirtual 137, 3) := by decide +kernel
theorem dL_law_1054 : decode cL_law 1054 = .ok (.if_icmp .eq 309, 3) := by decide +kernel
theorem dL_law_1057 : decode cL_law 1057 = .ok (.iconst 0, 1) := by decide +kernel
theorem dL_law_1058 : decode cL_law 1058 = .ok (.ireturn, 1) := by decide +kernel
theorem dL_law_1059 : decode cL_law 1059 = .ok (.aload_n 1, 1) := by decide +kernel
theorem dL_law_1060 : decode cL_law 1060 = .ok (.aload_n 0, 1) := by decide +kernel
theorem dL_law_1061 : decode cL_law 1061 = .ok (.iload_n 3, 1) := by decide +kernel
theorem dL_law_1062 : decode cL_law 1062 = .ok (.iconst 1, 1) := by decide +kernel
theorem dL_law_1063 : decode cL_law 1063 = .ok (.iadd, 1) := by decide +kernel
theorem dL_law_1064 : decode cL_law 1064 = .ok (.iaload, 1) := by decide +kernel
theorem dL_law_1065 : decode cL_law 1065 = .ok (.aload_n 0, 1) := by decide +kernel
theorem dL_law_1066 : decode cL_law 1066 = .ok (.iload_n 3, 1) := by decide +kernel
theorem dL_law_1067 : decode cL_law 1067 = .ok (.iconst 2, 1) := by decide +kernel
theorem dL_law_1068 : decode cL_law 1068 = .ok (.iadd, 1) := by decide +kernel
theorem dL_law_1069 : decode cL_law 1069 = .ok (.iaload, 1) := by decide +kernel
theorem dL_law_1070 : decode cL_law 1070 = .ok (.aload_n 0, 1) := by decide +kernel
theorem dL_law_1071 : decode cL_law 1071 = .ok (.iload_n 3, 1) := by decide +kernel
theorem dL_law_1072 : decode cL_law 1072 = .ok (.iconst 3, 1) := by decide +kernel
theorem dL_law_1073 : decode cL_law 1073 = .ok (.iadd, 1) := by decide +kernel
theorem dL_law_1074 : decode cL_law 1074 = .ok (.iaload, 1) := by decide +kernel
theorem dL_law_1075 : decode cL_law 1075 = .ok (.invokevirtual 138, 3) := by decide +kernel
theorem dL_law_1078 : decode cL_law 1078 = .ok (.aload_n 2, 1) := by decide +kernel
theorem dL_law_1079 : decode cL_law 1079 = .ok (.aload_n 0, 1) := by decide +kernel
theorem dL_law_1080 : decode cL_law 1080 = .ok (.iload_n 3, 1) := by decide +kernel
theorem dL_law_1081 : decode cL_law 1081 = .ok (.iconst 1, 1) := by decide +kernel
theorem dL_law_1082 : decode cL_law 1082 = .ok (.iadd, 1) := by decide +kernel
theorem dL_law_1083 : decode cL_law 1083 = .ok (.iaload, 1) := by decide +kernel
theorem dL_law_1084 : decode cL_law 1084 = .ok (.aload_n 0, 1) := by decide +kernel
theorem dL_law_1085 : decode cL_law 1085 = .ok (.iload_n 3, 1) := by decide +kernel
theorem dL_law_1086 : decode cL_law 1086 = .ok (.iconst 2, 1) := by decide +kernel
theorem dL_law_1087 : decode cL_law 1087 = .ok (.iadd, 1) := by decide +kernel
theorem dL_law_1088 : decode cL_law 1088 = .ok (.iaload, 1) := by decide +kernel
theorem dL_law_1089 : decode cL_law 1089 = .ok (.aload_n 0, 1) := by decide +kernel
theorem dL_law_1090 : decode cL_law 1090 = .ok (.iload_n 3, 1) := by decide +kernel
theorem dL_law_1091 : decode cL_law 1091 = .ok (.iconst 3, 1) := by decide +kernel
theorem dL_law_1092 : decode cL_law 1092 = .ok (.iadd, 1) := by decide +kernel
theorem dL_law_1093 : decode cL_law 1093 = .ok (.iaload, 1) := by decide +kernel
theorem dL_law_1094 : decode cL_law 1094 = .ok (.invokevirtual 141, 3) := by decide +kernel
theorem dL_law_1097 : decode cL_law 1097 = .ok (.if_icmp .eq 266, 3) := by decide +kernel
theorem dL_law_1100 : decode cL_law 1100 = .ok (.iconst 0, 1) := by decide +kernel
theorem dL_law_1101 : decode cL_law 1101 = .ok (.ireturn, 1) := by decide +kernel
theorem dL_law_1102 : decode cL_law 1102 = .ok (.aload_n 1, 1) := by decide +kernel
theorem dL_law_1103 : decode cL_law 1103 = .ok (.aload_n 0, 1) := by decide +kernel
theorem dL_law_1104 : decode cL_law 1104 = .ok (.iload_n 3, 1) := by decide +kernel
theorem dL_law_1105 : decode cL_law 1105 = .ok (.iconst 1, 1) := by decide +kernel
theorem dL_law_1106 : decode cL_law 1106 = .ok (.iadd, 1) := by decide +kernel
theorem dL_law_1107 : decode cL_law 1107 = .ok (.iaload, 1) := by decide +kernel
theorem dL_law_1108 : decode cL_law 1108 = .ok (.invokevirtual 142, 3) := by decide +kernel
theorem dL_law_1111 : decode cL_law 1111 = .ok (.aload_n 2, 1) := by decide +kernel
theorem dL_law_1112 : decode cL_law 1112 = .ok (.aload_n 0, 1) := by decide +kernel
theorem dL_law_1113 : decode cL_law 1113 = .ok (.iload_n 3, 1) := by decide +kernel
theorem dL_law_1114 : decode cL_law 1114 = .ok (.iconst 1, 1) := by decide +kernel
theorem dL_law_1115 : decode cL_law 1115 = .ok (.iadd, 1) := by decide +kernel
theorem dL_law_1116 : decode cL_law 1116 = .ok (.iaload, 1) := by decide +kernel
theorem dL_law_1117 : decode cL_law 1117 = .ok (.invokevirtual 145, 3) := by decide +kernel
theorem dL_law_1120 : decode cL_law 1120 = .ok (.if_icmp .eq 243, 3) := by decide +kernel
theorem dL_law_1123 : decode cL_law 1123 = .ok (.iconst 0, 1) := by decide +kernel
theorem dL_law_1124 : decode cL_law 1124 = .ok (.ireturn, 1) := by decide +kernel
theorem dL_law_1125 : decode cL_law 1125 = .ok (.aload_n 1, 1) := by decide +kernel
theorem dL_law_1126 : decode cL_law 1126 = .ok (.aload_n 0, 1) := by decide +kernel
theorem dL_law_1127 : decode cL_law 1127 = .ok (.iload_n 3, 1) := by decide +kernel
theorem dL_law_1128 : decode cL_law 1128 = .ok (.iconst 1, 1) := by decide +kernel
theorem dL_law_1129 : decode cL_law 1129 = .ok (.iadd, 1) := by decide +kernel
theorem dL_law_1130 : decode cL_law 1130 = .ok (.iaload, 1) := by decide +kernel
theorem dL_law_1131 : decode cL_law 1131 = .ok (.aload_n 0, 1) := by decide +kernel
theorem dL_law_1132 : decode cL_law 1132 = .ok (.iload_n 3, 1) := by decide +kernel
theorem dL_law_1133 : decode cL_law 1133 = .ok (.iconst 2, 1) := by decide +kernel
theorem dL_law_1134 : decode cL_law 1134 = .ok (.iadd, 1) := by decide +kernel
theorem dL_law_1135 : decode cL_law 1135 = .ok (.iaload, 1) := by decide +kernel
theorem dL_law_1136 : decode cL_law 1136 = .ok (.invokevirtual 146, 3) := by decide +kernel
theorem dL_law_1139 : decode cL_law 1139 = .ok (.aload_n 2, 1) := by decide +kernel
theorem dL_law_1140 : decode cL_law 1140 = .ok (.aload_n 0, 1) := by decide +kernel
theorem dL_law_1141 : decode cL_law 1141 = .ok (.iload_n 3, 1) := by decide +kernel
theorem dL_law_1142 : decode cL_law 1142 = .ok (.iconst 1, 1) := by decide +kernel
theorem dL_law_1143 : decode cL_law 1143 = .ok (.iadd, 1) := by decide +kernel
theorem dL_law_1144 : decode cL_law 1144 = .ok (.iaload, 1) := by decide +kernel
theorem dL_law_1145 : decode cL_law 1145 = .ok (.aload_n 0, 1) := by decide +kernel
theorem dL_law_1146 : decode cL_law 1146 = .ok (.iload_n 3, 1) := by decide +kernel
theorem dL_law_1147 : decode cL_law 1147 = .ok (.iconst 2, 1) := by decide +kernel
theorem dL_law_1148 : decode cL_law 1148 = .ok (.iadd, 1) := by decide +kernel
theorem dL_law_1149 : decode cL_law 1149 = .ok (.iaload, 1) := by decide +kernel
theorem dL_law_1150 : decode cL_law 1150 = .ok (.invokevirtual 149, 3) := by decide +kernel
theorem dL_law_1153 : decode cL_law 1153 = .ok (.if_icmp .eq 210, 3) := by decide +kernel
theorem dL_law_1156 : decode cL_law 1156 = .ok (.iconst 0, 1) := by decide +kernel
theorem dL_law_1157 : decode cL_law 1157 = .ok (.ireturn, 1) := by decide +kernel
theorem dL_law_1158 : decode cL_law 1158 = .ok (.aload_n 1, 1) := by decide +kernel
theorem dL_law_1159 : decode cL_law 1159 = .ok (.aload_n 0, 1) := by decide +kernel
theorem dL_law_1160 : decode cL_law 1160 = .ok (.iload_n 3, 1) := by decide +kernel
theorem dL_law_1161 : decode cL_law 1161 = .ok (.iconst 1, 1) := by decide +kernel
theorem dL_law_1162 : decode cL_law 1162 = .ok (.iadd, 1) := by decide +kernel
theorem dL_law_1163 : decode cL_law 1163 = .ok (.iaload, 1) := by decide +kernel
theorem dL_law_1164 : decode cL_law 1164 = .ok (.aload_n 0, 1) := by decide +kernel
theorem dL_law_1165 : decode cL_law 1165 = .ok (.iload_n 3, 1) := by decide +kernel
theorem dL_law_1166 : decode cL_law 1166 = .ok (.iconst 2, 1) := by decide +kernel
theorem dL_law_1167 : decode cL_law 1167 = .ok (.iadd, 1) := by decide +kernel
theorem dL_law_1168 : decode cL_law 1168 = .ok (.iaload, 1) := by decide +kernel
theorem dL_law_1169 : decode cL_law 1169 = .ok (.aload_n 0, 1) := by decide +kernel
theorem dL_law_1170 : decode cL_law 1170 = .ok (.iload_n 3, 1) := by decide +kernel
theorem dL_law_1171 : decode cL_law 1171 = .ok (.iconst 3, 1) := by decide +kernel
theorem dL_law_1172 : decode cL_law 1172 = .ok (.iadd, 1) := by decide +kernel
theorem dL_law_1173 : decode cL_law 1173 = .ok (.iaload, 1) := by decide +kernel
theorem dL_law_1174 : decode cL_law 1174 = .ok (.invokevirtual 150, 3) := by decide +kernel
theorem dL_law_1177 : decode cL_law 1177 = .ok (.aload_n 2, 1) := by decide +kernel
theorem dL_law_1178 : decode cL_law 1178 = .ok (.aload_n 0, 1) := by decide +kernel
theorem dL_law_1179 : decode cL_law 1179 = .ok (.iload_n 3, 1) := by decide +kernel
theorem dL_law_1180 : decode cL_law 1180 = .ok (.iconst 1, 1) := by decide +kernel
theorem dL_law_1181 : decode cL_law 1181 = .ok (.iadd, 1) := by decide +kernel
theorem dL_law_1182 : decode cL_law 1182 = .ok (.iaload, 1) := by decide +kernel
theorem dL_law_1183 : decode cL_law 1183 = .ok (.aload_n 0, 1) := by decide +kernel
theorem dL_law_1184 : decode cL_law 1184 = .ok (.iload_n 3, 1) := by decide +kernel
theorem dL_law_1185 : decode cL_law 1185 = .ok (.iconst 2, 1) := by decide +kernel
theorem dL_law_1186 : decode cL_law 1186 = .ok (.iadd, 1) := by decide +kernel
theorem dL_law_1187 : decode cL_law 1187 = .ok (.iaload, 1) := by decide +kernel
theorem dL_law_1188 : decode cL_law 1188 = .ok (.aload_n 0, 1) := by decide +kernel
theorem dL_law_1189 : decode cL_law 1189 = .ok (.iload_n 3, 1) := by decide +kernel
theorem dL_law_1190 : decode cL_law 1190 = .ok (.iconst 3, 1) := by decide +kernel
theorem dL_law_1191 : decode cL_law 1191 = .ok (.iadd, 1) := by decide +kernel
theorem dL_law_1192 : decode cL_law 1192 = .ok (.iaload, 1) := by decide +kernel
theorem dL_law_1193 : decode cL_law 1193 = .ok (.invokevirtual 153, 3) := by decide +kernel
theorem dL_law_1196 : decode cL_law 1196 = .ok (.if_icmp .eq 167, 3) := by decide +kernel
theorem dL_law_1199 : decode cL_law 1199 = .ok (.iconst 0, 1) := by decide +kernel
theorem dL_law_1200 : decode cL_law 1200 = .ok (.ireturn, 1) := by decide +kernel
theorem dL_law_1201 : decode cL_law 1201 = .ok (.aload_n 1, 1) := by decide +kernel
theorem dL_law_1202 : decode cL_law 1202 = .ok (.aload_n 0, 1) := by decide +kernel
theorem dL_law_1203 : decode cL_law 1203 = .ok (.iload_n 3, 1) := by decide +kernel
theorem dL_law_1204 : decode cL_law 1204 = .ok (.iconst 1, 1) := by decide +kernel
theorem dL_law_1205 : decode cL_law 1205 = .ok (.iadd, 1) := by decide +kernel
theorem dL_law_1206 : decode cL_law 1206 = .ok (.iaload, 1) := by decide +kernel
theorem dL_law_1207 : decode cL_law 1207 = .ok (.aload_n 0, 1) := by decide +kernel
theorem dL_law_1208 : decode cL_law 1208 = .ok (.iload_n 3, 1) := by decide +kernel
theorem dL_law_1209 : decode cL_law 1209 = .ok (.iconst 2, 1) := by decide +kernel
theorem dL_law_1210 : decode cL_law 1210 = .ok (.iadd, 1) := by decide +kernel
theorem dL_law_1211 : decode cL_law 1211 = .ok (.iaload, 1) := by decide +kernel
theorem dL_law_1212 : decode cL_law 1212 = .ok (.aload_n 0, 1) := by decide +kernel
theorem dL_law_1213 : decode cL_law 1213 = .ok (.iload_n 3, 1) := by decide +kernel
theorem dL_law_1214 : decode cL_law 1214 = .ok (.iconst 3, 1) := by decide +kernel
theorem dL_law_1215 : decode cL_law 1215 = .ok (.iadd, 1) := by decide +kernel
theorem dL_law_1216 : decode cL_law 1216 = .ok (.iaload, 1) := by decide +kernel
theorem dL_law_1217 : decode cL_law 1217 = .ok (.invokevirtual 154, 3) := by decide +kernel
theorem dL_law_1220 : decode cL_law 1220 = .ok (.aload_n 2, 1) := by decide +kernel
theorem dL_law_1221 : decode cL_law 1221 = .ok (.aload_n 0, 1) := by decide +kernel
theorem dL_law_1222 : decode cL_law 1222 = .ok (.iload_n 3, 1) := by decide +kernel
theorem dL_law_1223 : decode cL_law 1223 = .ok (.iconst 1, 1) := by decide +kernel
theorem dL_law_1224 : decode cL_law 1224 = .ok (.iadd, 1) := by decide +kernel
theorem dL_law_1225 : decode cL_law 1225 = .ok (.iaload, 1) := by decide +kernel
theorem dL_law_1226 : decode cL_law 1226 = .ok (.aload_n 0, 1) := by decide +kernel
theorem dL_law_1227 : decode cL_law 1227 = .ok (.iload_n 3, 1) := by decide +kernel
theorem dL_law_1228 : decode cL_law 1228 = .ok (.iconst 2, 1) := by decide +kernel
theorem dL_law_1229 : decode cL_law 1229 = .ok (.iadd, 1) := by decide +kernel
theorem dL_law_1230 : decode cL_law 1230 = .ok (.iaload, 1) := by decide +kernel
theorem dL_law_1231 : decode cL_law 1231 = .ok (.aload_n 0, 1) := by decide +kernel
theorem dL_law_1232 : decode cL_law 1232 = .ok (.iload_n 3, 1) := by decide +kernel
theorem dL_law_1233 : decode cL_law 1233 = .ok (.iconst 3, 1) := by decide +kernel
theorem dL_law_1234 : decode cL_law 1234 = .ok (.iadd, 1) := by decide +kernel
theorem dL_law_1235 : decode cL_law 1235 = .ok (.iaload, 1) := by decide +kernel
theorem dL_law_1236 : decode cL_law 1236 = .ok (.invokevirtual 157, 3) := by decide +kernel
theorem dL_law_1239 : decode cL_law 1239 = .ok (.if_icmp .eq 124, 3) := by decide +kernel
theorem dL_law_1242 : decode cL_law 1242 = .ok (.iconst 0, 1) := by decide +kernel
theorem dL_law_1243 : decode cL_law 1243 = .ok (.ireturn, 1) := by decide +kernel
theorem dL_law_1244 : decode cL_law 1244 = .ok (.aload_n 1, 1) := by decide +kernel
theorem dL_law_1245 : decode cL_law 1245 = .ok (.aload_n 0, 1) := by decide +kernel
theorem dL_law_1246 : decode cL_law 1246 = .ok (.iload_n 3, 1) := by decide +kernel
theorem dL_law_1247 : decode cL_law 1247 = .ok (.iconst 1, 1) := by decide +kernel
theorem dL_law_1248 : decode cL_law 1248 = .ok (.iadd, 1) := by decide +kernel
theorem dL_law_1249 : decode cL_law 1249 = .ok (.iaload, 1) := by decide +kernel
theorem dL_law_1250 : decode cL_law 1250 = .ok (.aload_n 0, 1) := by decide +kernel
theorem dL_law_1251 : decode cL_law 1251 = .ok (.iload_n 3, 1) := by decide +kernel
theorem dL_law_1252 : decode cL_law 1252 = .ok (.iconst 2, 1) := by decide +kernel
theorem dL_law_1253 : decode cL_law 1253 = .ok (.iadd, 1) := by decide +kernel
theorem dL_law_1254 : decode cL_law 1254 = .ok (.iaload, 1) := by decide +kernel
theorem dL_law_1255 : decode cL_law 1255 = .ok (.aload_n 0, 1) := by decide +kernel
theorem dL_law_1256 : decode cL_law 1256 = .ok (.iload_n 3, 1) := by decide +kernel
theorem dL_law_1257 : decode cL_law 1257 = .ok (.iconst 3, 1) := by decide +kernel
theorem dL_law_1258 : decode cL_law 1258 = .ok (.iadd, 1) := by decide +kernel
theorem dL_law_1259 : decode cL_law 1259 = .ok (.iaload, 1) := by decide +kernel
theorem dL_law_1260 : decode cL_law 1260 = .ok (.aload_n 0, 1) := by decide +kernel
theorem dL_law_1261 : decode cL_law 1261 = .ok (.iload_n 3, 1) := by decide +kernel
theorem dL_law_1262 : decode cL_law 1262 = .ok (.iconst 4, 1) := by decide +kernel
theorem dL_law_1263 : decode cL_law 1263 = .ok (.iadd, 1) := by decide +kernel
theorem dL_law_1264 : decode cL_law 1264 = .ok (.iaload, 1) := by decide +kernel
theorem dL_law_1265 : decode cL_law 1265 = .ok (.aload_n 0, 1) := by decide +kernel
theorem dL_law_1266 : decode cL_law 1266 = .ok (.iload_n 3, 1) := by decide +kernel
theorem dL_law_1267 : decode cL_law 1267 = .ok (.iconst 5, 1) := by decide +kernel
theorem dL_law_1268 : decode cL_law 1268 = .ok (.iadd, 1) := by decide +kernel
theorem dL_law_1269 : decode cL_law 1269 = .ok (.iaload, 1) := by decide +kernel
theorem dL_law_1270 : decode cL_law 1270 = .ok (.invokevirtual 158, 3) := by decide +kernel
theorem dL_law_1273 : decode cL_law 1273 = .ok (.aload_n 2, 1) := by decide +kernel
theorem dL_law_1274 : decode cL_law 1274 = .ok (.aload_n 0, 1) := by decide +kernel
theorem dL_law_1275 : decode cL_law 1275 = .ok (.iload_n 3, 1) := by decide +kernel
theorem dL_law_1276 : decode cL_law 1276 = .ok (.iconst 1, 1) := by decide +kernel
theorem dL_law_1277 : decode cL_law 1277 = .ok (.iadd, 1) := by decide +kernel
theorem dL_law_1278 : decode cL_law 1278 = .ok (.iaload, 1) := by decide +kernel
theorem dL_law_1279 : decode cL_law 1279 = .ok (.aload_n 0, 1) := by decide +kernel
theorem dL_law_1280 : decode cL_law 1280 = .ok (.iload_n 3, 1) := by decide +kernel
theorem dL_law_1281 : decode cL_law 1281 = .ok (.iconst 2, 1) := by decide +kernel
theorem dL_law_1282 : decode cL_law 1282 = .ok (.iadd, 1) := by decide +kernel
theorem dL_law_1283 : decode cL_law 1283 = .ok (.iaload, 1) := by decide +kernel
theorem dL_law_1284 : decode cL_law 1284 = .ok (.aload_n 0, 1) := by decide +kernel
theorem dL_law_1285 : decode cL_law 1285 = .ok (.iload_n 3, 1) := by decide +kernel
theorem dL_law_1286 : decode cL_law 1286 = .ok (.iconst 3, 1) := by decide +kernel
theorem dL_law_1287 : decode cL_law 1287 = .ok (.iadd, 1) := by decide +kernel
theorem dL_law_1288 : decode cL_law 1288 = .ok (.iaload, 1) := by decide +kernel
theorem dL_law_1289 : decode cL_law 1289 = .ok (.aload_n 0, 1) := by decide +kernel
theorem dL_law_1290 : decode cL_law 1290 = .ok (.iload_n 3, 1) := by decide +kernel
theorem dL_law_1291 : decode cL_law 1291 = .ok (.iconst 4, 1) := by decide +kernel
theorem dL_law_1292 : decode cL_law 1292 = .ok (.iadd, 1) := by decide +kernel
theorem dL_law_1293 : decode cL_law 1293 = .ok (.iaload, 1) := by decide +kernel
theorem dL_law_1294 : decode cL_law 1294 = .ok (.aload_n 0, 1) := by decide +kernel
theorem dL_law_1295 : decode cL_law 1295 = .ok (.iload_n 3, 1) := by decide +kernel
theorem dL_law_1296 : decode cL_law 1296 = .ok (.iconst 5, 1) := by decide +kernel
theorem dL_law_1297 : decode cL_law 1297 = .ok (.iadd, 1) := by decide +kernel
theorem dL_law_1298 : decode cL_law 1298 = .ok (.iaload, 1) := by decide +kernel
theorem dL_law_1299 : decode cL_law 1299 = .ok (.invokevirtual 162, 3) := by decide +kernel
theorem dL_law_1302 : decode cL_law 1302 = .ok (.if_icmp .eq 61, 3) := by decide +kernel
theorem dL_law_1305 : decode cL_law 1305 = .ok (.iconst 0, 1) := by decide +kernel
theorem dL_law_1306 : decode cL_law 1306 = .ok (.ireturn, 1) := by decide +kernel
theorem dL_law_1307 : decode cL_law 1307 = .ok (.aload_n 1, 1) := by decide +kernel
theorem dL_law_1308 : decode cL_law 1308 = .ok (.aload_n 0, 1) := by decide +kernel
theorem dL_law_1309 : decode cL_law 1309 = .ok (.iload_n 3, 1) := by decide +kernel
theorem dL_law_1310 : decode cL_law 1310 = .ok (.iconst 1, 1) := by decide +kernel
theorem dL_law_1311 : decode cL_law 1311 = .ok (.iadd, 1) := by decide +kernel
theorem dL_law_1312 : decode cL_law 1312 = .ok (.iaload, 1) := by decide +kernel
theorem dL_law_1313 : decode cL_law 1313 = .ok (.aload_n 0, 1) := by decide +kernel
theorem dL_law_1314 : decode cL_law 1314 = .ok (.iload_n 3, 1) := by decide +kernel
theorem dL_law_1315 : decode cL_law 1315 = .ok (.iconst 2, 1) := by decide +kernel
theorem dL_law_1316 : decode cL_law 1316 = .ok (.iadd, 1) := by decide +kernel
theorem dL_law_1317 : decode cL_law 1317 = .ok (.iaload, 1) := by decide +kernel
theorem dL_law_1318 : decode cL_law 1318 = .ok (.invokevirtual 163, 3) := by decide +kernel
theorem dL_law_1321 : decode cL_law 1321 = .ok (.aload_n 2, 1) := by decide +kernel
theorem dL_law_1322 : decode cL_law 1322 = .ok (.aload_n 0, 1) := by decide +kernel
theorem dL_law_1323 : decode cL_law 1323 = .ok (.iload_n 3, 1) := by decide +kernel
theorem dL_law_1324 : decode cL_law 1324 = .ok (.iconst 1, 1) := by decide +kernel
theorem dL_law_1325 : decode cL_law 1325 = .ok (.iadd, 1) := by decide +kernel
theorem dL_law_1326 : decode cL_law 1326 = .ok (.iaload, 1) := by decide +kernel
theorem dL_law_1327 : decode cL_law 1327 = .ok (.aload_n 0, 1) := by decide +kernel
theorem dL_law_1328 : decode cL_law 1328 = .ok (.iload_n 3, 1) := by decide +kernel
theorem dL_law_1329 : decode cL_law 1329 = .ok (.iconst 2, 1) := by decide +kernel
theorem dL_law_1330 : decode cL_law 1330 = .ok (.iadd, 1) := by decide +kernel
theorem dL_law_1331 : decode cL_law 1331 = .ok (.iaload, 1) := by decide +kernel
theorem dL_law_1332 : decode cL_law 1332 = .ok (.invokevirtual 166, 3) := by decide +kernel
theorem dL_law_1335 : decode cL_law 1335 = .ok (.if_icmp .eq 28, 3) := by decide +kernel
theorem dL_law_1338 : decode cL_law 1338 = .ok (.iconst 0, 1) := by decide +kernel
theorem dL_law_1339 : decode cL_law 1339 = .ok (.ireturn, 1) := by decide +kernel
theorem dL_law_1340 : decode cL_law 1340 = .ok (.aload_n 1, 1) := by decide +kernel
theorem dL_law_1341 : decode cL_law 1341 = .ok (.aload_n 0, 1) := by decide +kernel
theorem dL_law_1342 : decode cL_law 1342 = .ok (.iload_n 3, 1) := by decide +kernel
theorem dL_law_1343 : decode cL_law 1343 = .ok (.iconst 1, 1) := by decide +kernel
theorem dL_law_1344 : decode cL_law 1344 = .ok (.iadd, 1) := by decide +kernel
theorem dL_law_1345 : decode cL_law 1345 = .ok (.iaload, 1) := by decide +kernel
theorem dL_law_1346 : decode cL_law 1346 = .ok (.invokevirtual 167, 3) := by decide +kernel
theorem dL_law_1349 : decode cL_law 1349 = .ok (.aload_n 2, 1) := by decide +kernel
theorem dL_law_1350 : decode cL_law 1350 = .ok (.aload_n 0, 1) := by decide +kernel
theorem dL_law_1351 : decode cL_law 1351 = .ok (.iload_n 3, 1) := by decide +kernel
theorem dL_law_1352 : decode cL_law 1352 = .ok (.iconst 1, 1) := by decide +kernel
theorem dL_law_1353 : decode cL_law 1353 = .ok (.iadd, 1) := by decide +kernel
theorem dL_law_1354 : decode cL_law 1354 = .ok (.iaload, 1) := by decide +kernel
theorem dL_law_1355 : decode cL_law 1355 = .ok (.invokevirtual 170, 3) := by decide +kernel
theorem dL_law_1358 : decode cL_law 1358 = .ok (.if_icmp .eq 5, 3) := by decide +kernel
theorem dL_law_1361 : decode cL_law 1361 = .ok (.iconst 0, 1) := by decide +kernel
end
section
theorem dL_law_1362 : decode cL_law 1362 = .ok (.ireturn, 1) := by decide +kernel
theorem dL_law_1363 : decode cL_law 1363 = .ok (.iinc 3 6, 3) := by decide +kernel
theorem dL_law_1366 : decode cL_law 1366 = .ok (.goto (-1348), 3) := by decide +kernel
theorem dL_law_1369 : decode cL_law 1369 = .ok (.iconst 1, 1) := by decide +kernel
theorem dL_law_1370 : decode cL_law 1370 = .ok (.ireturn, 1) := by decide +kernel
end
section
def a_shL : List (Nat × Nat) := [(11, 11), (0, 9), (10, 9), (100, 14), (100, 14), (100, 14), (101, 14), (105, 8), (100, 8), (100, 8), (100, 8), (100, 8), (100, 8), (100, 8), (100, 8), (100, 8), (105, 8), (100, 8), (100, 8), (100, 8), (100, 8), (100, 8), (100, 8), (100, 8), (100, 8), (102, 4), (100, 4), (103, 10), (7, 8), (100, 11), (100, 10), (100, 10), (7, 8), (100, 11), (100, 10), (100, 10), (7, 8), (100, 11), (100, 10), (100, 10), (7, 8), (100, 11), (100, 10), (100, 10), (9, 4), (9, 4), (9, 4), (9, 4), (9, 4), (9, 4), (9, 4), (9, 4), (9, 4), (9, 4), (1, 9), (100, 10), (100, 10), (100, 10), (105, 10), (100, 10), (100, 10), (100, 10), (100, 10), (100, 10), (100, 10), (100, 10), (100, 10), (100, 10), (100, 10), (3, 6), (100, 10), (100, 10), (100, 10), (100, 10), (100, 10), (6, 6), (100, 60), (100, 8), (100, 8), (100, 8), (2, 7), (100, 11), (100, 11), (100, 11), (105, 4), (100, 7), (100, 7), (100, 7), (100, 7), (100, 4), (4, 2), (100, 10), (104, 4), (8, 3), (100, 10), (8, 3), (100, 10), (8, 3), (100, 10), (8, 3), (100, 10), (12, 61), (100, 14), (100, 14), (100, 14), (101, 14), (100, 4), (100, 4), (100, 4), (100, 4), (100, 10), (100, 10), (100, 10), (100, 10), (100, 8), (100, 8), (100, 8), (100, 60), (100, 4), (100, 4), (100, 40), (100, 64), (100, 10240), (100, 1024), (100, 1024), (100, 1024), (100, 1024), (100, 10), (100, 10), (100, 10), (100, 4), (100, 4), (100, 4), (100, 10), (100, 11264), (100, 10), (100, 10), (100, 10), (100, 10), (100, 11), (100, 11), (100, 11), (100, 44), (100, 44), (100, 10), (100, 110), (100, 10), (5, 9), (100, 10), (100, 10), (100, 10), (105, 10), (100, 10), (100, 10), (100, 10), (100, 10), (100, 10), (100, 10), (100, 10), (100, 10), (100, 10), (100, 10), (100, 10240), (100, 1024), (100, 1024), (100, 1024)]
/-! ===== THE ABSTRACT MACHINE: a memory of addresses and slots in place of the heap; one judgement aE for a state of a method, one (aRuns) for a method ===== -/
abbrev aM : Type := Nat → Nat → Value
/-- classes and slots; array classes; the first new address; the script's address; UNDER's address; the script's length and ints -/
abbrev aG : Type := va_G × (Nat → ClassId) × Nat × Nat × Nat × Nat × (Nat → Int32)
abbrev aD (g : aG) : va_G := g.1
abbrev aC (g : aG) : Nat → ClassId := g.2.1
abbrev aB (g : aG) : Nat := g.2.2.1
abbrev aS (g : aG) : Nat := g.2.2.2.1
abbrev aU (g : aG) : Nat := g.2.2.2.2.1
abbrev aLn (g : aG) : Nat := g.2.2.2.2.2.1
abbrev aXs (g : aG) : Nat → Int32 := g.2.2.2.2.2.2
def a_ad (g : aG) (k : Nat) : Nat := if k = 100000 then aS g else if k = 100001 then aU g else aB g + k
def a_cv (g : aG) : Value → Value
  | .ref k => .ref (a_ad g k)
  | v => v
def a_vi : Value → Int32
  | .int x => x
  | _ => 0
def a_vr (g : aG) : Value → Option Nat
  | .ref k => some (a_ad g k)
  | _ => none
abbrev a_tys (g : aG) : List (ClassId × FieldType) := [(aC g 0, .int), (aC g 1, .boolean), (aC g 2, .object "BellWaves$School"), (aC g 3, .object "BellWaves$Stop"), (aC g 4, .object "BellWaves$Sheet"), (aC g 5, .array .int)]
/-- a cell by its shape (an object's class number and its fields' number, or 100 and on, an array's kind, and its length) and its row -/
def a_ce (g : aG) (sh : Nat × Nat) (row : Nat → Value) : va_E :=
  if sh.1 = 100 then .inl (aC g 0, sh.2, .inl fun i => a_vi (row i))
  else if sh.1 = 101 then .inl (aC g 1, sh.2, .inl fun i => a_vi (row i))
  else if 102 ≤ sh.1 then .inl (aC g (sh.1 - 100), sh.2, .inr (.inr (.inr (.inr fun i => a_vr g (row i)))))
  else .inr (sh.1, (List.range sh.2).map fun j => a_cv g (row j))
def a_sh (k : Nat) : Nat × Nat := a_shL.getD k (0, 0)
def a_wl (g : aG) (n : Nat) (mem : aM) : va_W := (List.range n).map fun k => (aB g + k, a_ce g (a_sh k) (mem k))
theorem a_wl_get {g : aG} {n k : Nat} {mem : aM} (h : k < n) : (a_wl g n mem)[k]? = some (aB g + k, a_ce g (a_sh k) (mem k)) := by
  simp [a_wl, h]
theorem a_wl_inv {g : aG} {n k : Nat} {mem : aM} {q : Nat × va_E} (h : (a_wl g n mem)[k]? = some q) : k < n ∧ q = (aB g + k, a_ce g (a_sh k) (mem k)) := by
  by_cases hk : k < n
  · rw [a_wl_get hk] at h
    exact ⟨hk, (Option.some.inj h).symm⟩
  · simp [a_wl, hk] at h
theorem a_wl_set {g : aG} {n k : Nat} {mem mem' : aM} (hk : k < n) (h : ∀ q, q ≠ k → mem' q = mem q) : (a_wl g n mem).set k (aB g + k, a_ce g (a_sh k) (mem' k)) = a_wl g n mem' := by
  apply List.ext_getElem?
  intro i
  by_cases hi : i = k
  · subst hi
    rw [List.getElem?_set_self (by simp [a_wl]; exact hk), a_wl_get hk]
  · rw [List.getElem?_set_ne (Ne.symm hi)]
    simp only [a_wl, List.getElem?_map]
    by_cases hl : i < n
    · simp [hl, h i hi]
    · simp [hl]
theorem a_wl_push {g : aG} {n : Nat} {mem mem' : aM} (h : ∀ q, q < n → mem' q = mem q) : a_wl g n mem ++ [(aB g + n, a_ce g (a_sh n) (mem' n))] = a_wl g (n + 1) mem' := by
  unfold a_wl
  rw [List.range_succ, List.map_append]
  congr 1
  apply List.map_congr_left
  intro a ha
  rw [h a (List.mem_range.mp ha)]
def a_A (g : aG) : Nat → Prop := fun q => aB g ≤ q
theorem a_wl_D (g : aG) (n : Nat) (mem : aM) : va_D (a_A g) (a_wl g n mem) := by
  refine ⟨fun i j p q hi hj hpq => ?_, fun k q hk => ?_⟩
  · obtain ⟨-, rfl⟩ := a_wl_inv hi
    obtain ⟨-, rfl⟩ := a_wl_inv hj
    have : aB g + i = aB g + j := hpq
    omega
  · obtain ⟨-, rfl⟩ := a_wl_inv hk
    exact Nat.le_add_right _ _
/-- the heap holds the memory -/
def a_R (g : aG) (n : Nat) (mem : aM) (H : Heap) : Prop := va_P (aD g) vwCl (a_wl g n mem) H ∧ H.size = aB g + n ∧ n ≤ 1000
theorem a_ad_k {g : aG} {n k : Nat} {mem : aM} {H : Heap} (hR : a_R g n mem H) (h : k < n) : a_ad g k = aB g + k := by
  have := hR.2.2
  unfold a_ad
  rw [if_neg (by omega), if_neg (by omega)]
def lw_g : List Cond := lw_tbl.filter goodWord
theorem a_in {w : Cond} (i : Nat) (h : lw_tbl[i]? = some w) (hg : goodWord w = true) : w ∈ lw_g := List.mem_filter.mpr ⟨List.mem_of_getElem? h, hg⟩
theorem a_good {w : Cond} (h : w ∈ lw_g) : (w.onTables && w.keeps) = true ∨ ∃ ty, w = .arrayClass ty := good_of_word (List.mem_filter.mp h).2
def a_isN : Cond → Bool
  | .methodLinkNest _ _ _ _ => true
  | _ => false
def lw_n : List Cond := lw_tbl.filter a_isN
theorem a_inN {w : Cond} (i : Nat) (h : lw_tbl[i]? = some w) (hg : a_isN w = true) : w ∈ lw_n := List.mem_filter.mpr ⟨List.mem_of_getElem? h, hg⟩
def a_un : Nat → Value := fun j => if j = 0 then .int (-1) else if j = 3 then .int 1 else .int 0
/-- what stands through the whole run: the classes, the script, UNDER, the words of private members, the array classes -/
def a_K (g : aG) (U : State) : Prop :=
  va_K (aD g) vwCl (a_tys g) U ∧ va_X (aS g) (aLn g) (aXs g) U U.heap ∧ aS g < aB g ∧ va_Z "BellWaves" "UNDER" "[I" (.ref (aU g)) (a_A g) U U.heap ∧ va_T .int (aU g) 4 a_un (a_A g) U U.heap ∧
  (∀ w ∈ lw_n, va_Nw w U) ∧ va_AO "BellWaves$School" U ∧ va_AO "BellWaves$Stop" U ∧ va_AO "BellWaves$Sheet" U ∧ va_AOA .int U ∧ aB g ≤ U.heap.size
theorem a_K_to {g : aG} {s U : State} (h : a_K g s) (hvm : s.WarmedH U.vm) (hsz : s.heap.size ≤ U.heap.size) (hq : ∀ q : Nat, q < s.heap.size → ¬ a_A g q → U.heap[q]? = s.heap[q]?) : a_K g U := by
  obtain ⟨h1, h2, h3, h4, h5, h6, h7, h8, h9, h10, h11⟩ := h
  have hal := hvm.alike
  refine ⟨h1.moved hal, (h2.moved hal).kept (hq _ (by omega) (by unfold a_A; omega)), h3, (h4.moved hal).kept hq, (h5.moved hal).kept hq, fun w hw => ?_, h7.moved hal, h8.moved hal, h9.moved hal, h10.moved hal, by omega⟩
  have hw0 := h6 w hw
  have hN := (List.mem_filter.mp hw).2
  cases w <;> simp only [a_isN] at hN <;> first | exact absurd hN (by decide) | skip
  exact va_Nw.warmM hvm hw0
abbrev aY : Type := String × MethodName × ByteArray × Nat × Option FieldType
/-- what is fixed while method y runs from the state s -/
def a_F (g : aG) (y : aY) (p : Program) (s : State) (m : MethodId) (args : Array Value) (meth : Method) (c : Code) : Prop :=
  p.tables.exec = Jvm.exec ∧ c.code = y.2.2.1 ∧ meth.sig.returnType = y.2.2.2.2 ∧ c.maxLocals = y.2.2.2.1 ∧ s.vm.findClass y.1 = some m.cls ∧ (∀ w ∈ lw_g, w.before args s = true) ∧ meth.locks = false ∧ meth.name = y.2.1.name ∧ a_K g s
def a_lk : List (Option Value) → Nat → Option Value
  | [], _ => none
  | x :: _, 0 => x
  | _ :: xs, i + 1 => a_lk xs i
def a_set : List (Option Value) → Nat → Value → List (Option Value)
  | [], _, _ => []
  | _ :: xs, 0, v => some v :: xs
  | x :: xs, i + 1, v => x :: a_set xs i v
theorem a_lk_get : ∀ (ls : List (Option Value)) (i : Nat) (v : Value), a_lk ls i = some v → ls[i]? = some (some v)
  | [], _, _, h => by simp [a_lk] at h
  | x :: _, 0, _, h => by simp [a_lk] at h; simp [h]
  | _ :: xs, i + 1, v, h => by simp only [a_lk] at h; simpa using a_lk_get xs i v h
theorem a_lk_set : ∀ (ls : List (Option Value)) (i j : Nat) (v w : Value), a_lk (a_set ls i v) j = some w → (j = i ∧ w = v) ∨ (j ≠ i ∧ a_lk ls j = some w)
  | [], _, _, _, _, h => by simp [a_set, a_lk] at h
  | _ :: _, 0, 0, _, _, h => by simp only [a_set, a_lk] at h; exact Or.inl ⟨rfl, (Option.some.inj h).symm⟩
  | _ :: _, 0, j + 1, _, _, h => by simp only [a_set, a_lk] at h; exact Or.inr ⟨by omega, h⟩
  | _ :: _, i + 1, 0, _, _, h => by simp only [a_set, a_lk] at h; exact Or.inr ⟨by omega, h⟩
  | _ :: xs, i + 1, j + 1, v, w, h => by
    simp only [a_set, a_lk] at h
    rcases a_lk_set xs i j v w h with ⟨a, b⟩ | ⟨a, b⟩
    · exact Or.inl ⟨by omega, b⟩
    · exact Or.inr ⟨by omega, b⟩
def a_L (g : aG) (nL : Nat) (ls : List (Option Value)) (A : Array Slot) : Prop := A.size = nL ∧ lv_wf A ∧ ∀ (i : Nat) (v : Value), a_lk ls i = some v → A[i]? = some (.val (a_cv g v))
/-- a method's end: its answer and memory -/
def a_Q (g : aG) (Q : Option Value → Nat → aM → Prop) : Array Value → State → Outcome → State → Prop := fun _ st o t =>
  (∃ (r : Option Value) (n : Nat) (mem : aM), o = .returned (r.map (a_cv g)) ∧ Q r n mem ∧ a_R g n mem t.heap) ∧ va_F (a_A g) st t
def a_P (g : aG) (as : List Value) (n : Nat) (mem : aM) : Array Value → State → Prop := fun v U => v = (as.map (a_cv g)).toArray ∧ a_R g n mem U.heap ∧ a_K g U
def aE (z : Nat × (Nat → Int32)) (y : aY) (R : Room) (Q : Option Value → Nat → aM → Prop) (pc : Nat) (ls : List (Option Value)) (st : List Value) (n : Nat) (mem : aM) (k1 k2 : Nat) : Prop :=
  ∀ (g : aG), (aLn g, aXs g) = z → ∀ (p : Program) (l : Launch) (e : Env) (s : State) (m : MethodId) (args : Array Value) (below : List Frame) (meth : Method) (c : Code) (H : Heap) (locs : List Loc) (A : Array Slot),
    a_F g y p s m args meth c → va_S (a_A g) s.heap H locs → a_R g n mem H → a_L g y.2.2.2.1 ls A →
    W p l e R s m args below meth c H locs k1 k2 (MQ below (a_Q g Q) args s R.cells R.slots (a_A g)) (F0 m pc A (st.map (a_cv g)))
def a_ws (y : aY) : List Cond := Cond.code y.2.1 y.2.2.1 y.2.2.2.1 y.2.2.2.2 :: lw_g
def aRuns (y : aY) (R : Room) (as : List Value) (n : Nat) (mem : aM) (Q : Option Value → Nat → aM → Prop) : Prop :=
  ∀ (l : Launch) (g : aG), Met l y.2.1 (a_ws y) R (a_P g as n mem) (a_Q g Q) R.cells R.slots (a_A g)
theorem aE.wk {z : Nat × (Nat → Int32)} {y : aY} {R : Room} {Q Q' : Option Value → Nat → aM → Prop} {pc : Nat} {ls : List (Option Value)} {st : List Value} {n : Nat} {mem : aM} {k1 k2 : Nat} (hq : ∀ r n m, Q r n m → Q' r n m) (h : aE z y R Q pc ls st n mem k1 k2) : aE z y R Q' pc ls st n mem k1 k2 := by
  intro g hz p l e s m args below meth c H locs A hF hS hR hL T hT X
  obtain ⟨t, a, o, b1, b2, ⟨⟨r, n', m', e1, e2, e3⟩, e4⟩, b4⟩ := h g hz p l e s m args below meth c H locs A hF hS hR hL T hT X
  exact ⟨t, a, o, b1, b2, ⟨⟨r, n', m', e1, hq _ _ _ e2, e3⟩, e4⟩, b4⟩
/-- the locals with which a method begins -/
def a_el (nL : Nat) (as : List Value) : List (Option Value) := let l := as.flatMap fun v => if v.category = 2 then [some v, none] else [some v]; l ++ List.replicate (nL - l.length) none
theorem a_cat (g : aG) (v : Value) : (a_cv g v).category = v.category := by cases v <;> rfl
theorem a_el_args (g : aG) (vs : List Value) : ∀ (i k : Nat) (v : Value), (vs.flatMap fun v => if v.category = 2 then [some v, none] else [some v])[i]? = some (some v) → (k + i, a_cv g v) ∈ lv_args k (vs.map (a_cv g)) := by
  induction vs with
  | nil => intro i k v h; simp at h
  | cons w ws ih =>
    intro i k v h
    simp only [List.flatMap_cons] at h
    simp only [List.map_cons, lv_args, a_cat]
    by_cases hc : w.category = 2
    · rw [if_pos hc] at h ⊢
      match i, h with
      | 0, h => simp at h; subst h; simp
      | 1, h => simp at h
      | i + 2, h =>
        have h' : (ws.flatMap fun v => if v.category = 2 then [some v, none] else [some v])[i]? = some (some v) := by simpa using h
        have := ih i (k + 2) v h'
        rw [show k + (i + 2) = k + 2 + i by omega]
        exact List.mem_cons_of_mem _ this
    · rw [if_neg hc] at h ⊢
      match i, h with
      | 0, h => simp at h; subst h; simp
      | i + 1, h =>
        have h' : (ws.flatMap fun v => if v.category = 2 then [some v, none] else [some v])[i]? = some (some v) := by simpa using h
        have := ih i (k + 1) v h'
        rw [show k + (i + 1) = k + 1 + i by omega]
        exact List.mem_cons_of_mem _ this
theorem a_el_ok (g : aG) (nL : Nat) (as : List Value) (h : (as.flatMap fun v => if v.category = 2 then [some v, none] else [some v]).length ≤ nL) : a_L g nL (a_el nL as) ((lg_sl (as.map (a_cv g)) ++ List.replicate (nL - (lg_sl (as.map (a_cv g))).length) Slot.unset).toArray) := by
  have hlen : (lg_sl (as.map (a_cv g))).length = (as.flatMap fun v => if v.category = 2 then [some v, none] else [some v]).length := by
    unfold lg_sl
    induction as with
    | nil => rfl
    | cons w ws ih =>
      have h' : (ws.flatMap fun v => if v.category = 2 then [some v, none] else [some v]).length ≤ nL := by
        simp only [List.flatMap_cons, List.length_append] at h; omega
      simp only [List.map_cons, List.flatMap_cons, List.length_append, a_cat]
      rw [ih h']
      by_cases hc : w.category = 2 <;> simp [hc]
  have hl := lv_entry (as.map (a_cv g)) (n := nL) (by rw [hlen]; exact h)
  refine ⟨hl.1, hl.2.1, fun i v hi => ?_⟩
  replace hi := a_lk_get _ _ _ hi
  unfold a_el at hi
  simp only at hi
  by_cases hlt : i < (as.flatMap fun v => if v.category = 2 then [some v, none] else [some v]).length
  · rw [List.getElem?_append_left hlt] at hi
    have := a_el_args g as i 0 v hi
    rw [Nat.zero_add] at this
    exact hl.2.2 _ this
  · rw [List.getElem?_append_right (by omega)] at hi
    have := List.eq_of_mem_replicate (List.mem_of_getElem? hi)
    cases this
theorem aRuns_of {y : aY} {R : Room} {as : List Value} {n : Nat} {mem : aM} {Q : Option Value → Nat → aM → Prop} (hy : plainName y.2.1.cls = true ∧ y.1 = y.2.1.cls) (hl : (as.flatMap fun v => if v.category = 2 then [some v, none] else [some v]).length ≤ y.2.2.2.1) (h : ∀ z, aE z y R Q 0 (a_el y.2.2.2.1 as) [] n mem 0 0) : aRuns y R as n mem Q := by
  intro l g
  refine Met.ofW (cc := y.2.2.1) (maxL := y.2.2.2.1) (ret := y.2.2.2.2) hy.1 rfl ?_
  intro p e s m args below meth c s₁ B hml hv
  obtain ⟨rfl, hR, hK⟩ := hv
  have hts := atoms_spec (ws := a_ws y) B.pre
  have hown : s.vm.findClass y.1 = some m.cls := by rw [hy.2]; exact findClass_of_methodNamed B.named
  rw [lg_entry_eq]
  exact h _ g rfl p l e s m _ below meth c s.heap [] _ ⟨B.exec, B.bytes, B.returns, hml, hown, fun w hw => hts w (List.mem_cons_of_mem _ hw), B.notSynchronized, (name_of_methodNamed B.named B.method).1, hK⟩ va_S.rf hR (a_el_ok g _ as hl)
end
section
section AE
variable {z : Nat × (Nat → Int32)} {mem' : aM} {y : aY} {R : Room} {Q : Option Value → Nat → aM → Prop} {pc : Nat} {ls : List (Option Value)} {st : List Value} {n : Nat} {mem : aM} {k1 k2 : Nat}
theorem aE_iconst {i : Int} {v : Int32} (hd : decode y.2.2.1 pc = .ok (.iconst i, 1)) (hv : Int32.ofInt i = v) (k : aE z y R Q (pc + 1) ls (.int v :: st) n mem k1 k2) : aE z y R Q pc ls (st) n mem k1 k2 := by
  intro g hz p l e s m args below meth c H locs A hF hS hR hL
  exact lv_iconst hF.1 hF.2.1 hd hv (k g hz p l e s m args below meth c H locs A hF hS hR hL)
theorem aE_bipush {i : Int} {v : Int32} (hd : decode y.2.2.1 pc = .ok (.bipush i, 2)) (hv : (Int8.ofInt i).toInt32 = v) (k : aE z y R Q (pc + 2) ls (.int v :: st) n mem k1 k2) : aE z y R Q pc ls (st) n mem k1 k2 := by
  intro g hz p l e s m args below meth c H locs A hF hS hR hL
  exact lv_bipush hF.1 hF.2.1 hd hv (k g hz p l e s m args below meth c H locs A hF hS hR hL)
theorem aE_sipush {i : Int} {v : Int32} (hd : decode y.2.2.1 pc = .ok (.sipush i, 3)) (hv : (Int16.ofInt i).toInt32 = v) (k : aE z y R Q (pc + 3) ls (.int v :: st) n mem k1 k2) : aE z y R Q pc ls (st) n mem k1 k2 := by
  intro g hz p l e s m args below meth c H locs A hF hS hR hL
  exact lv_sipush hF.1 hF.2.1 hd hv (k g hz p l e s m args below meth c H locs A hF hS hR hL)
theorem aE_ldc {i : Nat} {v : Int32} (hd : decode y.2.2.1 pc = .ok (.ldc i, 2)) (hw : Cond.constant y.1 i v ∈ lw_g) (k : aE z y R Q (pc + 2) ls (.int v :: st) n mem k1 k2) : aE z y R Q pc ls (st) n mem k1 k2 := by
  intro g hz p l e s m args below meth c H locs A hF hS hR hL
  exact lv_ldc hF.1 hF.2.1 hF.2.2.2.2.1 (hF.2.2.2.2.2.1 _ hw) hd (k g hz p l e s m args below meth c H locs A hF hS hR hL)
theorem aE_ldcw {i : Nat} {v : Int32} (hd : decode y.2.2.1 pc = .ok (.ldc_w i, 3)) (hw : Cond.constant y.1 i v ∈ lw_g) (k : aE z y R Q (pc + 3) ls (.int v :: st) n mem k1 k2) : aE z y R Q pc ls (st) n mem k1 k2 := by
  intro g hz p l e s m args below meth c H locs A hF hS hR hL
  exact lv_ldcw hF.1 hF.2.1 hF.2.2.2.2.1 (hF.2.2.2.2.2.1 _ hw) hd (k g hz p l e s m args below meth c H locs A hF hS hR hL)
theorem aE_ldc2 {i : Nat} {v : Int64} (hd : decode y.2.2.1 pc = .ok (.ldc2_w i, 3)) (hw : Cond.constantLong y.1 i v ∈ lw_g) (k : aE z y R Q (pc + 3) ls (.long v :: st) n mem k1 k2) : aE z y R Q pc ls (st) n mem k1 k2 := by
  intro g hz p l e s m args below meth c H locs A hF hS hR hL
  exact lv_ldc2 hF.1 hF.2.1 hF.2.2.2.2.1 (hF.2.2.2.2.2.1 _ hw) hd (k g hz p l e s m args below meth c H locs A hF hS hR hL)
theorem aE_iload_n {j : Fin 4} {i : Nat} {x : Int32} (hd : decode y.2.2.1 pc = .ok (.iload_n j, 1)) (hi : (j : Nat) = i) (hx : a_lk ls i = some (.int x)) (k : aE z y R Q (pc + 1) ls (.int x :: st) n mem k1 k2) : aE z y R Q pc ls (st) n mem k1 k2 := by
  intro g hz p l e s m args below meth c H locs A hF hS hR hL
  exact lv_iload_n hF.1 hF.2.1 hd hi (hL.2.2 i _ hx) (k g hz p l e s m args below meth c H locs A hF hS hR hL)
theorem aE_iload {i : Nat} {x : Int32} (hd : decode y.2.2.1 pc = .ok (.iload i, 2)) (hx : a_lk ls i = some (.int x)) (k : aE z y R Q (pc + 2) ls (.int x :: st) n mem k1 k2) : aE z y R Q pc ls (st) n mem k1 k2 := by
  intro g hz p l e s m args below meth c H locs A hF hS hR hL
  exact lv_iload hF.1 hF.2.1 hd (hL.2.2 i _ hx) (k g hz p l e s m args below meth c H locs A hF hS hR hL)
theorem aE_aload_n {j : Fin 4} {i : Nat} {x : Nat} (hd : decode y.2.2.1 pc = .ok (.aload_n j, 1)) (hi : (j : Nat) = i) (hx : a_lk ls i = some (.ref x)) (k : aE z y R Q (pc + 1) ls (.ref x :: st) n mem k1 k2) : aE z y R Q pc ls (st) n mem k1 k2 := by
  intro g hz p l e s m args below meth c H locs A hF hS hR hL
  exact lv_aload_n hF.1 hF.2.1 hd hi (hL.2.2 i _ hx) (k g hz p l e s m args below meth c H locs A hF hS hR hL)
theorem aE_aload {i : Nat} {x : Nat} (hd : decode y.2.2.1 pc = .ok (.aload i, 2)) (hx : a_lk ls i = some (.ref x)) (k : aE z y R Q (pc + 2) ls (.ref x :: st) n mem k1 k2) : aE z y R Q pc ls (st) n mem k1 k2 := by
  intro g hz p l e s m args below meth c H locs A hF hS hR hL
  exact lv_aload hF.1 hF.2.1 hd (hL.2.2 i _ hx) (k g hz p l e s m args below meth c H locs A hF hS hR hL)
theorem aE_lload_n {j : Fin 4} {i : Nat} {x : Int64} (hd : decode y.2.2.1 pc = .ok (.lload_n j, 1)) (hi : (j : Nat) = i) (hx : a_lk ls i = some (.long x)) (k : aE z y R Q (pc + 1) ls (.long x :: st) n mem k1 k2) : aE z y R Q pc ls (st) n mem k1 k2 := by
  intro g hz p l e s m args below meth c H locs A hF hS hR hL
  exact lv_lload_n hF.1 hF.2.1 hd hi (hL.2.2 i _ hx) (k g hz p l e s m args below meth c H locs A hF hS hR hL)
theorem aE_dup {v : Value} (hd : decode y.2.2.1 pc = .ok (.dup, 1)) (hv : v.category = 1) (k : aE z y R Q (pc + 1) ls (v :: v :: st) n mem k1 k2) : aE z y R Q pc ls (v :: st) n mem k1 k2 := by
  intro g hz p l e s m args below meth c H locs A hF hS hR hL
  exact lv_dup hF.1 hF.2.1 hd ((a_cat g v).trans hv) (k g hz p l e s m args below meth c H locs A hF hS hR hL)
theorem aE_dup2 {v w : Value} (hd : decode y.2.2.1 pc = .ok (.dup2, 1)) (hv : v.category = 1) (hw : w.category = 1) (k : aE z y R Q (pc + 1) ls (v :: w :: v :: w :: st) n mem k1 k2) : aE z y R Q pc ls (v :: w :: st) n mem k1 k2 := by
  intro g hz p l e s m args below meth c H locs A hF hS hR hL
  exact lv_dup2_11 hF.1 hF.2.1 hd ((a_cat g v).trans hv) ((a_cat g w).trans hw) (k g hz p l e s m args below meth c H locs A hF hS hR hL)
theorem aE_iadd {a b : Int32} (hd : decode y.2.2.1 pc = .ok (.iadd, 1))  (k : aE z y R Q (pc + 1) ls (.int (a + b) :: st) n mem k1 k2) : aE z y R Q pc ls (.int b :: .int a :: st) n mem k1 k2 := by
  intro g hz p l e s m args below meth c H locs A hF hS hR hL
  exact lv_iadd hF.1 hF.2.1 hd (k g hz p l e s m args below meth c H locs A hF hS hR hL)
theorem aE_isub {a b : Int32} (hd : decode y.2.2.1 pc = .ok (.isub, 1))  (k : aE z y R Q (pc + 1) ls (.int (a - b) :: st) n mem k1 k2) : aE z y R Q pc ls (.int b :: .int a :: st) n mem k1 k2 := by
  intro g hz p l e s m args below meth c H locs A hF hS hR hL
  exact lv_isub hF.1 hF.2.1 hd (k g hz p l e s m args below meth c H locs A hF hS hR hL)
theorem aE_imul {a b : Int32} (hd : decode y.2.2.1 pc = .ok (.imul, 1))  (k : aE z y R Q (pc + 1) ls (.int (a * b) :: st) n mem k1 k2) : aE z y R Q pc ls (.int b :: .int a :: st) n mem k1 k2 := by
  intro g hz p l e s m args below meth c H locs A hF hS hR hL
  exact lv_imul hF.1 hF.2.1 hd (k g hz p l e s m args below meth c H locs A hF hS hR hL)
theorem aE_iand {a b : Int32} (hd : decode y.2.2.1 pc = .ok (.iand, 1))  (k : aE z y R Q (pc + 1) ls (.int (a &&& b) :: st) n mem k1 k2) : aE z y R Q pc ls (.int b :: .int a :: st) n mem k1 k2 := by
  intro g hz p l e s m args below meth c H locs A hF hS hR hL
  exact lv_iand hF.1 hF.2.1 hd (k g hz p l e s m args below meth c H locs A hF hS hR hL)
theorem aE_ior {a b : Int32} (hd : decode y.2.2.1 pc = .ok (.ior, 1))  (k : aE z y R Q (pc + 1) ls (.int (a ||| b) :: st) n mem k1 k2) : aE z y R Q pc ls (.int b :: .int a :: st) n mem k1 k2 := by
  intro g hz p l e s m args below meth c H locs A hF hS hR hL
  exact lv_ior hF.1 hF.2.1 hd (k g hz p l e s m args below meth c H locs A hF hS hR hL)
theorem aE_ixor {a b : Int32} (hd : decode y.2.2.1 pc = .ok (.ixor, 1))  (k : aE z y R Q (pc + 1) ls (.int (a ^^^ b) :: st) n mem k1 k2) : aE z y R Q pc ls (.int b :: .int a :: st) n mem k1 k2 := by
  intro g hz p l e s m args below meth c H locs A hF hS hR hL
  exact lv_ixor hF.1 hF.2.1 hd (k g hz p l e s m args below meth c H locs A hF hS hR hL)
theorem aE_idiv {a b : Int32} (hd : decode y.2.2.1 pc = .ok (.idiv, 1)) (hb : ¬ b = 0) (k : aE z y R Q (pc + 1) ls (.int (a / b) :: st) n mem k1 k2) : aE z y R Q pc ls (.int b :: .int a :: st) n mem k1 k2 := by
  intro g hz p l e s m args below meth c H locs A hF hS hR hL
  exact lv_idiv hF.1 hF.2.1 hd hb (k g hz p l e s m args below meth c H locs A hF hS hR hL)
theorem aE_irem {a b : Int32} (hd : decode y.2.2.1 pc = .ok (.irem, 1)) (hb : ¬ b = 0) (k : aE z y R Q (pc + 1) ls (.int (a - a / b * b) :: st) n mem k1 k2) : aE z y R Q pc ls (.int b :: .int a :: st) n mem k1 k2 := by
  intro g hz p l e s m args below meth c H locs A hF hS hR hL
  exact lv_irem hF.1 hF.2.1 hd hb (k g hz p l e s m args below meth c H locs A hF hS hR hL)
theorem aE_ineg {a : Int32} (hd : decode y.2.2.1 pc = .ok (.ineg, 1))  (k : aE z y R Q (pc + 1) ls (.int (-a) :: st) n mem k1 k2) : aE z y R Q pc ls (.int a :: st) n mem k1 k2 := by
  intro g hz p l e s m args below meth c H locs A hF hS hR hL
  exact lv_ineg hF.1 hF.2.1 hd (k g hz p l e s m args below meth c H locs A hF hS hR hL)
theorem aE_ishl {a b : Int32} (hd : decode y.2.2.1 pc = .ok (.ishl, 1))  (k : aE z y R Q (pc + 1) ls (.int (a <<< (b &&& 31)) :: st) n mem k1 k2) : aE z y R Q pc ls (.int b :: .int a :: st) n mem k1 k2 := by
  intro g hz p l e s m args below meth c H locs A hF hS hR hL
  exact lv_ishl hF.1 hF.2.1 hd (k g hz p l e s m args below meth c H locs A hF hS hR hL)
theorem aE_ishr {a b : Int32} (hd : decode y.2.2.1 pc = .ok (.ishr, 1))  (k : aE z y R Q (pc + 1) ls (.int (a >>> (b &&& 31)) :: st) n mem k1 k2) : aE z y R Q pc ls (.int b :: .int a :: st) n mem k1 k2 := by
  intro g hz p l e s m args below meth c H locs A hF hS hR hL
  exact lv_ishr hF.1 hF.2.1 hd (k g hz p l e s m args below meth c H locs A hF hS hR hL)
theorem aE_iushr {a b : Int32} (hd : decode y.2.2.1 pc = .ok (.iushr, 1))  (k : aE z y R Q (pc + 1) ls (.int (a.toUInt32 >>> (b.toUInt32 &&& Int32.toUInt32 31)).toInt32 :: st) n mem k1 k2) : aE z y R Q pc ls (.int b :: .int a :: st) n mem k1 k2 := by
  intro g hz p l e s m args below meth c H locs A hF hS hR hL
  exact lv_iushr hF.1 hF.2.1 hd rfl (k g hz p l e s m args below meth c H locs A hF hS hR hL)
theorem aE_i2l {a : Int32} (hd : decode y.2.2.1 pc = .ok (.i2l, 1))  (k : aE z y R Q (pc + 1) ls (.long a.toInt64 :: st) n mem k1 k2) : aE z y R Q pc ls (.int a :: st) n mem k1 k2 := by
  intro g hz p l e s m args below meth c H locs A hF hS hR hL
  exact lv_i2l hF.1 hF.2.1 hd rfl (k g hz p l e s m args below meth c H locs A hF hS hR hL)
theorem aE_l2i {a : Int64} (hd : decode y.2.2.1 pc = .ok (.l2i, 1))  (k : aE z y R Q (pc + 1) ls (.int a.toInt32 :: st) n mem k1 k2) : aE z y R Q pc ls (.long a :: st) n mem k1 k2 := by
  intro g hz p l e s m args below meth c H locs A hF hS hR hL
  exact lv_l2i hF.1 hF.2.1 hd rfl (k g hz p l e s m args below meth c H locs A hF hS hR hL)
theorem aE_i2b {a : Int32} (hd : decode y.2.2.1 pc = .ok (.i2b, 1))  (k : aE z y R Q (pc + 1) ls (.int a.toInt8.toInt32 :: st) n mem k1 k2) : aE z y R Q pc ls (.int a :: st) n mem k1 k2 := by
  intro g hz p l e s m args below meth c H locs A hF hS hR hL
  exact lv_i2b hF.1 hF.2.1 hd rfl (k g hz p l e s m args below meth c H locs A hF hS hR hL)
theorem aE_i2s {a : Int32} (hd : decode y.2.2.1 pc = .ok (.i2s, 1))  (k : aE z y R Q (pc + 1) ls (.int a.toInt16.toInt32 :: st) n mem k1 k2) : aE z y R Q pc ls (.int a :: st) n mem k1 k2 := by
  intro g hz p l e s m args below meth c H locs A hF hS hR hL
  exact lv_i2s hF.1 hF.2.1 hd rfl (k g hz p l e s m args below meth c H locs A hF hS hR hL)
theorem aE_ladd {a b : Int64} (hd : decode y.2.2.1 pc = .ok (.ladd, 1))  (k : aE z y R Q (pc + 1) ls (.long (a + b) :: st) n mem k1 k2) : aE z y R Q pc ls (.long b :: .long a :: st) n mem k1 k2 := by
  intro g hz p l e s m args below meth c H locs A hF hS hR hL
  exact lv_ladd hF.1 hF.2.1 hd (k g hz p l e s m args below meth c H locs A hF hS hR hL)
theorem aE_land {a b : Int64} (hd : decode y.2.2.1 pc = .ok (.land, 1))  (k : aE z y R Q (pc + 1) ls (.long (a &&& b) :: st) n mem k1 k2) : aE z y R Q pc ls (.long b :: .long a :: st) n mem k1 k2 := by
  intro g hz p l e s m args below meth c H locs A hF hS hR hL
  exact lv_land hF.1 hF.2.1 hd (k g hz p l e s m args below meth c H locs A hF hS hR hL)
theorem aE_lor {a b : Int64} (hd : decode y.2.2.1 pc = .ok (.lor, 1))  (k : aE z y R Q (pc + 1) ls (.long (a ||| b) :: st) n mem k1 k2) : aE z y R Q pc ls (.long b :: .long a :: st) n mem k1 k2 := by
  intro g hz p l e s m args below meth c H locs A hF hS hR hL
  exact lv_lor hF.1 hF.2.1 hd (k g hz p l e s m args below meth c H locs A hF hS hR hL)
theorem aE_lshl {a : Int64} {b : Int32} (hd : decode y.2.2.1 pc = .ok (.lshl, 1))  (k : aE z y R Q (pc + 1) ls (.long (a <<< (b.toInt64 &&& 63)) :: st) n mem k1 k2) : aE z y R Q pc ls (.int b :: .long a :: st) n mem k1 k2 := by
  intro g hz p l e s m args below meth c H locs A hF hS hR hL
  exact lv_lshl hF.1 hF.2.1 hd rfl (k g hz p l e s m args below meth c H locs A hF hS hR hL)
theorem aE_lshr {a : Int64} {b : Int32} (hd : decode y.2.2.1 pc = .ok (.lshr, 1))  (k : aE z y R Q (pc + 1) ls (.long (a >>> (b.toInt64 &&& 63)) :: st) n mem k1 k2) : aE z y R Q pc ls (.int b :: .long a :: st) n mem k1 k2 := by
  intro g hz p l e s m args below meth c H locs A hF hS hR hL
  exact lv_lshr hF.1 hF.2.1 hd rfl (k g hz p l e s m args below meth c H locs A hF hS hR hL)
theorem aE_lcmp {a b : Int64} (hd : decode y.2.2.1 pc = .ok (.lcmp, 1))  (k : aE z y R Q (pc + 1) ls (.int (lg_cmp a b) :: st) n mem k1 k2) : aE z y R Q pc ls (.long b :: .long a :: st) n mem k1 k2 := by
  intro g hz p l e s m args below meth c H locs A hF hS hR hL
  exact W.lcmp hF.1 hF.2.1 hd (k g hz p l e s m args below meth c H locs A hF hS hR hL)
theorem aE_icmp_eq {a b : Int32} {off : Int} {tgt : Nat} (hd : decode y.2.2.1 pc = .ok (.if_icmp .eq off, 3)) (ht : (pc : Int) + off = (tgt : Int)) (kt : a = b → aE z y R Q tgt ls st n mem k1 k2) (kf : ¬ a = b → aE z y R Q (pc + 3) ls st n mem k1 k2) : aE z y R Q pc ls (.int b :: .int a :: st) n mem k1 k2 := by
  intro g hz p l e s m args below meth c H locs A hF hS hR hL
  exact lv_icmp_eq hF.1 hF.2.1 hd ht (fun h => kt h g hz p l e s m args below meth c H locs A hF hS hR hL) (fun h => kf h g hz p l e s m args below meth c H locs A hF hS hR hL)
theorem aE_if_eq {a : Int32} {off : Int} {tgt : Nat} (hd : decode y.2.2.1 pc = .ok (.ifCond .eq off, 3)) (ht : (pc : Int) + off = (tgt : Int)) (kt : a = 0 → aE z y R Q tgt ls st n mem k1 k2) (kf : ¬ a = 0 → aE z y R Q (pc + 3) ls st n mem k1 k2) : aE z y R Q pc ls (.int a :: st) n mem k1 k2 := by
  intro g hz p l e s m args below meth c H locs A hF hS hR hL
  exact lv_if_eq hF.1 hF.2.1 hd ht (fun h => kt h g hz p l e s m args below meth c H locs A hF hS hR hL) (fun h => kf h g hz p l e s m args below meth c H locs A hF hS hR hL)
theorem aE_icmp_ne {a b : Int32} {off : Int} {tgt : Nat} (hd : decode y.2.2.1 pc = .ok (.if_icmp .ne off, 3)) (ht : (pc : Int) + off = (tgt : Int)) (kt : ¬ a = b → aE z y R Q tgt ls st n mem k1 k2) (kf : a = b → aE z y R Q (pc + 3) ls st n mem k1 k2) : aE z y R Q pc ls (.int b :: .int a :: st) n mem k1 k2 := by
  intro g hz p l e s m args below meth c H locs A hF hS hR hL
  exact lv_icmp_ne hF.1 hF.2.1 hd ht (fun h => kt h g hz p l e s m args below meth c H locs A hF hS hR hL) (fun h => kf h g hz p l e s m args below meth c H locs A hF hS hR hL)
theorem aE_if_ne {a : Int32} {off : Int} {tgt : Nat} (hd : decode y.2.2.1 pc = .ok (.ifCond .ne off, 3)) (ht : (pc : Int) + off = (tgt : Int)) (kt : ¬ a = 0 → aE z y R Q tgt ls st n mem k1 k2) (kf : a = 0 → aE z y R Q (pc + 3) ls st n mem k1 k2) : aE z y R Q pc ls (.int a :: st) n mem k1 k2 := by
  intro g hz p l e s m args below meth c H locs A hF hS hR hL
  exact lv_if_ne hF.1 hF.2.1 hd ht (fun h => kt h g hz p l e s m args below meth c H locs A hF hS hR hL) (fun h => kf h g hz p l e s m args below meth c H locs A hF hS hR hL)
theorem aE_icmp_lt {a b : Int32} {off : Int} {tgt : Nat} (hd : decode y.2.2.1 pc = .ok (.if_icmp .lt off, 3)) (ht : (pc : Int) + off = (tgt : Int)) (kt : a < b → aE z y R Q tgt ls st n mem k1 k2) (kf : ¬ a < b → aE z y R Q (pc + 3) ls st n mem k1 k2) : aE z y R Q pc ls (.int b :: .int a :: st) n mem k1 k2 := by
  intro g hz p l e s m args below meth c H locs A hF hS hR hL
  exact lv_icmp_lt hF.1 hF.2.1 hd ht (fun h => kt h g hz p l e s m args below meth c H locs A hF hS hR hL) (fun h => kf h g hz p l e s m args below meth c H locs A hF hS hR hL)
theorem aE_if_lt {a : Int32} {off : Int} {tgt : Nat} (hd : decode y.2.2.1 pc = .ok (.ifCond .lt off, 3)) (ht : (pc : Int) + off = (tgt : Int)) (kt : a < 0 → aE z y R Q tgt ls st n mem k1 k2) (kf : ¬ a < 0 → aE z y R Q (pc + 3) ls st n mem k1 k2) : aE z y R Q pc ls (.int a :: st) n mem k1 k2 := by
  intro g hz p l e s m args below meth c H locs A hF hS hR hL
  exact lv_if_lt hF.1 hF.2.1 hd ht (fun h => kt h g hz p l e s m args below meth c H locs A hF hS hR hL) (fun h => kf h g hz p l e s m args below meth c H locs A hF hS hR hL)
theorem aE_icmp_ge {a b : Int32} {off : Int} {tgt : Nat} (hd : decode y.2.2.1 pc = .ok (.if_icmp .ge off, 3)) (ht : (pc : Int) + off = (tgt : Int)) (kt : b ≤ a → aE z y R Q tgt ls st n mem k1 k2) (kf : ¬ b ≤ a → aE z y R Q (pc + 3) ls st n mem k1 k2) : aE z y R Q pc ls (.int b :: .int a :: st) n mem k1 k2 := by
  intro g hz p l e s m args below meth c H locs A hF hS hR hL
  exact lv_icmp_ge hF.1 hF.2.1 hd ht (fun h => kt h g hz p l e s m args below meth c H locs A hF hS hR hL) (fun h => kf h g hz p l e s m args below meth c H locs A hF hS hR hL)
theorem aE_if_ge {a : Int32} {off : Int} {tgt : Nat} (hd : decode y.2.2.1 pc = .ok (.ifCond .ge off, 3)) (ht : (pc : Int) + off = (tgt : Int)) (kt : 0 ≤ a → aE z y R Q tgt ls st n mem k1 k2) (kf : ¬ 0 ≤ a → aE z y R Q (pc + 3) ls st n mem k1 k2) : aE z y R Q pc ls (.int a :: st) n mem k1 k2 := by
  intro g hz p l e s m args below meth c H locs A hF hS hR hL
  exact lv_if_ge hF.1 hF.2.1 hd ht (fun h => kt h g hz p l e s m args below meth c H locs A hF hS hR hL) (fun h => kf h g hz p l e s m args below meth c H locs A hF hS hR hL)
theorem aE_icmp_gt {a b : Int32} {off : Int} {tgt : Nat} (hd : decode y.2.2.1 pc = .ok (.if_icmp .gt off, 3)) (ht : (pc : Int) + off = (tgt : Int)) (kt : b < a → aE z y R Q tgt ls st n mem k1 k2) (kf : ¬ b < a → aE z y R Q (pc + 3) ls st n mem k1 k2) : aE z y R Q pc ls (.int b :: .int a :: st) n mem k1 k2 := by
  intro g hz p l e s m args below meth c H locs A hF hS hR hL
  exact lv_icmp_gt hF.1 hF.2.1 hd ht (fun h => kt h g hz p l e s m args below meth c H locs A hF hS hR hL) (fun h => kf h g hz p l e s m args below meth c H locs A hF hS hR hL)
theorem aE_if_gt {a : Int32} {off : Int} {tgt : Nat} (hd : decode y.2.2.1 pc = .ok (.ifCond .gt off, 3)) (ht : (pc : Int) + off = (tgt : Int)) (kt : 0 < a → aE z y R Q tgt ls st n mem k1 k2) (kf : ¬ 0 < a → aE z y R Q (pc + 3) ls st n mem k1 k2) : aE z y R Q pc ls (.int a :: st) n mem k1 k2 := by
  intro g hz p l e s m args below meth c H locs A hF hS hR hL
  exact lv_if_gt hF.1 hF.2.1 hd ht (fun h => kt h g hz p l e s m args below meth c H locs A hF hS hR hL) (fun h => kf h g hz p l e s m args below meth c H locs A hF hS hR hL)
theorem aE_icmp_le {a b : Int32} {off : Int} {tgt : Nat} (hd : decode y.2.2.1 pc = .ok (.if_icmp .le off, 3)) (ht : (pc : Int) + off = (tgt : Int)) (kt : a ≤ b → aE z y R Q tgt ls st n mem k1 k2) (kf : ¬ a ≤ b → aE z y R Q (pc + 3) ls st n mem k1 k2) : aE z y R Q pc ls (.int b :: .int a :: st) n mem k1 k2 := by
  intro g hz p l e s m args below meth c H locs A hF hS hR hL
  exact lv_icmp_le hF.1 hF.2.1 hd ht (fun h => kt h g hz p l e s m args below meth c H locs A hF hS hR hL) (fun h => kf h g hz p l e s m args below meth c H locs A hF hS hR hL)
theorem aE_if_le {a : Int32} {off : Int} {tgt : Nat} (hd : decode y.2.2.1 pc = .ok (.ifCond .le off, 3)) (ht : (pc : Int) + off = (tgt : Int)) (kt : a ≤ 0 → aE z y R Q tgt ls st n mem k1 k2) (kf : ¬ a ≤ 0 → aE z y R Q (pc + 3) ls st n mem k1 k2) : aE z y R Q pc ls (.int a :: st) n mem k1 k2 := by
  intro g hz p l e s m args below meth c H locs A hF hS hR hL
  exact lv_if_le hF.1 hF.2.1 hd ht (fun h => kt h g hz p l e s m args below meth c H locs A hF hS hR hL) (fun h => kf h g hz p l e s m args below meth c H locs A hF hS hR hL)
theorem aE_goto {off : Int} {tgt : Nat} (hd : decode y.2.2.1 pc = .ok (.goto off, 3)) (ht : (pc : Int) + off = (tgt : Int)) (k : aE z y R Q tgt ls st n mem k1 k2) : aE z y R Q pc ls st n mem k1 k2 := by
  intro g hz p l e s m args below meth c H locs A hF hS hR hL
  exact lv_goto hF.1 hF.2.1 hd ht (k g hz p l e s m args below meth c H locs A hF hS hR hL)
theorem aE_nonnull {off : Int} {tgt x : Nat} (hd : decode y.2.2.1 pc = .ok (.ifnonnull off, 3)) (ht : (pc : Int) + off = (tgt : Int)) (k : aE z y R Q tgt ls st n mem k1 k2) : aE z y R Q pc ls (.ref x :: st) n mem k1 k2 := by
  intro g hz p l e s m args below meth c H locs A hF hS hR hL
  exact lv_ifnonnull hF.1 hF.2.1 hd ht (k g hz p l e s m args below meth c H locs A hF hS hR hL)
theorem aE_nonnullN {off : Int} (hd : decode y.2.2.1 pc = .ok (.ifnonnull off, 3)) (k : aE z y R Q (pc + 3) ls st n mem k1 k2) : aE z y R Q pc ls (.null :: st) n mem k1 k2 := by
  intro g hz p l e s m args below meth c H locs A hF hS hR hL
  exact lv_ifnonnullN hF.1 hF.2.1 hd (k g hz p l e s m args below meth c H locs A hF hS hR hL)
theorem aE_tableOut {dflt lo hi : Int} {offs : Array Int} {len tgt : Nat} {x : Int32} (hd : decode y.2.2.1 pc = .ok (.tableswitch dflt lo hi offs, len)) (h : x.toInt < lo ∨ hi < x.toInt) (ht : (pc : Int) + dflt = (tgt : Int)) (k : aE z y R Q tgt ls st n mem k1 k2) : aE z y R Q pc ls (.int x :: st) n mem k1 k2 := by
  intro g hz p l e s m args below meth c H locs A hF hS hR hL
  exact lv_tableOut hF.1 hF.2.1 hd h ht (k g hz p l e s m args below meth c H locs A hF hS hR hL)
theorem aE_tableIn {dflt lo hi off : Int} {offs : Array Int} {len tgt : Nat} {x : Int32} (hd : decode y.2.2.1 pc = .ok (.tableswitch dflt lo hi offs, len)) (h1 : ¬ x.toInt < lo) (h2 : ¬ hi < x.toInt) (ho : offs[(x.toInt - lo).toNat]? = some off) (ht : (pc : Int) + off = (tgt : Int)) (k : aE z y R Q tgt ls st n mem k1 k2) : aE z y R Q pc ls (.int x :: st) n mem k1 k2 := by
  intro g hz p l e s m args below meth c H locs A hF hS hR hL
  exact lv_tableIn hF.1 hF.2.1 hd h1 h2 ho ht (k g hz p l e s m args below meth c H locs A hF hS hR hL)
theorem aE_lookup {dflt off : Int} {ps : Array (Int × Int)} {len tgt : Nat} {x : Int32} (hd : decode y.2.2.1 pc = .ok (.lookupswitch dflt ps, len)) (hp : (ps.toList.zip (ps.toList.drop 1)).all (fun (a, next) => a.1 < next.1) = true) (ho : Op.lookupswitch.offset ps.toList dflt x.toInt = off) (ht : (pc : Int) + off = (tgt : Int)) (k : aE z y R Q tgt ls st n mem k1 k2) : aE z y R Q pc ls (.int x :: st) n mem k1 k2 := by
  intro g hz p l e s m args below meth c H locs A hF hS hR hL
  exact lv_lookup hF.1 hF.2.1 hd hp ho ht (k g hz p l e s m args below meth c H locs A hF hS hR hL)
/-! storing into locals -/
def a_c2 (ls : List (Option Value)) : Nat → Bool
  | 0 => true
  | j + 1 => match a_lk ls j with
    | some v => v.category == 1
    | none => true
def a_al (g : aG) (ls : List (Option Value)) : List (Nat × Value) := (List.range ls.length).filterMap fun i => (a_lk ls i).map fun v => (i, a_cv g v)
theorem a_al_has {g : aG} {nL : Nat} {ls : List (Option Value)} {A : Array Slot} (h : a_L g nL ls A) : lv_has A nL (a_al g ls) := by
  refine ⟨h.1, h.2.1, fun q hq => ?_⟩
  obtain ⟨i, -, hi⟩ := List.mem_filterMap.mp hq
  cases hv : a_lk ls i with
  | none => rw [hv] at hi; cases hi
  | some v =>
    rw [hv] at hi
    cases hi
    exact h.2.2 i v hv
theorem a_L_store {g : aG} {nL i : Nat} {ls : List (Option Value)} {A : Array Slot} {v : Value} (hc : a_c2 ls i = true) (h : lv_has A nL ((i, a_cv g v) :: (a_al g ls).filter (fun q => !(q.1 == i) && !(q.1 + 1 == i && q.2.category == 2)))) : a_L g nL (a_set ls i v) A := by
  refine ⟨h.1, h.2.1, fun j w hj => ?_⟩
  rcases a_lk_set ls i j v w hj with ⟨rfl, rfl⟩ | ⟨hne, hw⟩
  · exact h.2.2 _ List.mem_cons_self
  · refine h.2.2 (j, a_cv g w) (List.mem_cons_of_mem _ (List.mem_filter.mpr ⟨?_, ?_⟩))
    · refine List.mem_filterMap.mpr ⟨j, List.mem_range.mpr ?_, by rw [hw]; rfl⟩
      have := a_lk_get _ _ _ hw
      exact (List.getElem?_eq_some_iff.mp this).1
    · simp only [Bool.and_eq_true, Bool.not_eq_true', beq_eq_false_iff_ne, ne_eq, Bool.and_eq_false_iff]
      refine ⟨hne, ?_⟩
      by_cases h1 : j + 1 = i
      · right
        subst h1
        simp only [a_c2, hw, beq_iff_eq] at hc
        rw [a_cat, hc]
        decide
      · left
        exact h1
theorem aE_istore_n {j : Fin 4} {i : Nat} {x : Int32} (hd : decode y.2.2.1 pc = .ok (.istore_n j, 1)) (hi : (j : Nat) = i) (hn : i < y.2.2.2.1) (hc : a_c2 ls i = true) (k : aE z y R Q (pc + 1) (a_set ls i (.int x)) st n mem k1 k2) : aE z y R Q pc ls (.int x :: st) n mem k1 k2 := by
  intro g hz p l e s m args below meth c H locs A hF hS hR hL
  exact lv_istore_n hF.1 hF.2.1 hd hi (a_al_has hL) hn rfl fun A' hA' => k g hz p l e s m args below meth c H locs A' hF hS hR (a_L_store (v := .int x) hc hA')
theorem aE_istore {i : Nat} {x : Int32} (hd : decode y.2.2.1 pc = .ok (.istore i, 2)) (hn : i < y.2.2.2.1) (hc : a_c2 ls i = true) (k : aE z y R Q (pc + 2) (a_set ls i (.int x)) st n mem k1 k2) : aE z y R Q pc ls (.int x :: st) n mem k1 k2 := by
  intro g hz p l e s m args below meth c H locs A hF hS hR hL
  exact lv_istore hF.1 hF.2.1 hd (a_al_has hL) hn rfl fun A' hA' => k g hz p l e s m args below meth c H locs A' hF hS hR (a_L_store (v := .int x) hc hA')
theorem aE_astore_n {j : Fin 4} {i : Nat} {x : Nat} (hd : decode y.2.2.1 pc = .ok (.astore_n j, 1)) (hi : (j : Nat) = i) (hn : i < y.2.2.2.1) (hc : a_c2 ls i = true) (k : aE z y R Q (pc + 1) (a_set ls i (.ref x)) st n mem k1 k2) : aE z y R Q pc ls (.ref x :: st) n mem k1 k2 := by
  intro g hz p l e s m args below meth c H locs A hF hS hR hL
  exact lv_astore_n hF.1 hF.2.1 hd hi (a_al_has hL) hn rfl fun A' hA' => k g hz p l e s m args below meth c H locs A' hF hS hR (a_L_store (v := .ref x) hc hA')
theorem aE_astore {i : Nat} {x : Nat} (hd : decode y.2.2.1 pc = .ok (.astore i, 2)) (hn : i < y.2.2.2.1) (hc : a_c2 ls i = true) (k : aE z y R Q (pc + 2) (a_set ls i (.ref x)) st n mem k1 k2) : aE z y R Q pc ls (.ref x :: st) n mem k1 k2 := by
  intro g hz p l e s m args below meth c H locs A hF hS hR hL
  exact lv_astore hF.1 hF.2.1 hd (a_al_has hL) hn rfl fun A' hA' => k g hz p l e s m args below meth c H locs A' hF hS hR (a_L_store (v := .ref x) hc hA')
theorem aE_iinc {i : Nat} {dz : Int} {x v : Int32} (hd : decode y.2.2.1 pc = .ok (.iinc i dz, 3)) (hx : a_lk ls i = some (.int x)) (hv : x + Int32.ofInt dz = v) (hn : i < y.2.2.2.1) (hc : a_c2 ls i = true) (k : aE z y R Q (pc + 3) (a_set ls i (.int v)) st n mem k1 k2) : aE z y R Q pc ls st n mem k1 k2 := by
  intro g hz p l e s m args below meth c H locs A hF hS hR hL
  have hm : (i, Value.int x) ∈ a_al g ls := List.mem_filterMap.mpr ⟨i, List.mem_range.mpr (List.getElem?_eq_some_iff.mp (a_lk_get _ _ _ hx)).1, by rw [hx]; rfl⟩
  obtain ⟨q, hq⟩ := List.getElem?_of_mem hm
  exact lv_iinc hF.1 hF.2.1 hd (a_al_has hL) hq hv hn rfl fun A' hA' => k g hz p l e s m args below meth c H locs A' hF hS hR (a_L_store (v := .int v) hc hA')
/-! fields -/
/-- a class's own facts: its number, name, fields -/
def a_cf (ci : Nat) (C : String) (T : u_T) (N : Nat) : Prop := vwCl[ci]? = some (C, T, N) ∧ ci < 100 ∧ (∀ w ∈ u_ws C T N, w ∈ lw_g) ∧ (∃ ty0 : Nat → FieldType, ∀ k, k < N → parseFieldDescriptor (T k).2.2.1 = some (ty0 k)) ∧ (∀ a, a < N → ∀ b, b < N → a ≠ b → (T a).2.1 ≠ (T b).2.1)
/-- entry idx of class own: field j of class ci -/
def a_fw (own : String) (idx ci N j : Nat) (fin : Bool) (ty : FieldType) : Prop := ∃ (C : String) (T : u_T), a_cf ci C T N ∧ j < N ∧ Cond.fieldLink own idx (T j).1 (T j).2.1 (T j).2.2.1 ∈ lw_g ∧ (T j).2.2.2 = fin ∧ parseFieldDescriptor (T j).2.2.1 = some ty ∧ (fin = true → (T j).1 = own)
def a_up (mem : aM) (a j : Nat) (v : Value) : aM := fun q i => if q = a ∧ i = j then v else mem q i
theorem a_up_ne {mem : aM} {a j q : Nat} {v : Value} (h : q ≠ a) : a_up mem a j v q = mem q := by
  funext i; simp [a_up, h]
theorem a_ce_o {g : aG} {a ci N : Nat} {row : Nat → Value} (hs : a_sh a = (ci, N)) (hc : ci < 100) : a_ce g (a_sh a) row = .inr (ci, (List.range N).map fun j => a_cv g (row j)) := by
  rw [hs]
  unfold a_ce
  simp only
  rw [if_neg (by omega), if_neg (by omega), if_neg (by omega)]
theorem a_R_set {g : aG} {n k : Nat} {mem mem' : aM} {H H' : Heap} (hR : a_R g n mem H) (hk : k < n) (hm : ∀ q, q ≠ k → mem' q = mem q) (he : va_at (aD g) vwCl (aB g + k, a_ce g (a_sh k) (mem' k)) H') (hz : H'.size = H.size) (oq : ∀ q : Nat, q ≠ aB g + k → H'[q]? = H[q]?) : a_R g n mem' H' := by
  refine ⟨?_, hz.trans hR.2.1, hR.2.2⟩
  rw [← a_wl_set hk hm]
  exact hR.1.set (a_wl_D g n mem) (a_wl_get hk) he oq
theorem a_R_push {g : aG} {n : Nat} {mem mem' : aM} {H H' : Heap} (hR : a_R g n mem H) (hn : n + 1 ≤ 1000) (hm : ∀ q, q < n → mem' q = mem q) (he : va_at (aD g) vwCl (aB g + n, a_ce g (a_sh n) (mem' n)) H') (hz : H'.size = H.size + 1) (oq : ∀ q : Nat, q < H.size → H'[q]? = H[q]?) : a_R g (n + 1) mem' H' := by
  refine ⟨?_, by rw [hz, hR.2.1]; rfl, hn⟩
  rw [← a_wl_push hm]
  refine va_P.app (hR.1.kept fun k q hk => oq _ ((hR.1 k q hk).lt)) fun k x hx => ?_
  have h0 : k < 1 := (List.getElem?_eq_some_iff.mp hx).1
  rw [show k = 0 by omega] at hx
  cases hx
  exact he
theorem a_S_push {g : aG} {H0 H H' : Heap} {locs : List Loc} (hS : va_S (a_A g) H0 H locs) (hz : H.size ≤ H'.size) (oq : ∀ q : Nat, q < H.size → H'[q]? = H[q]?) : va_S (a_A g) H0 H' locs :=
  ⟨Nat.le_trans hS.1 hz, fun q h1 h2 => (oq q (Nat.lt_of_lt_of_le h1 hS.1)).trans (hS.2.1 q h1 h2), hS.2.2⟩
theorem aE_getf {idx ci N j a : Nat} {fin : Bool} {ty : FieldType} {v : Value} (hd : decode y.2.2.1 pc = .ok (.getfield idx, 3)) (hl : a_fw y.1 idx ci N j fin ty) (ha : a < n) (hs : a_sh a = (ci, N)) (hv : mem a j = v) (k : aE z y R Q (pc + 3) ls (v :: st) n mem k1 k2) : aE z y R Q pc ls (.ref a :: st) n mem k1 k2 := by
  intro g hz p l e s m args below meth c H locs A hF hS hR hL
  obtain ⟨C, T, ⟨c1, c2, c3, c4, c5⟩, hj, hw, -⟩ := hl
  have he := a_wl_get (g := g) (mem := mem) ha
  rw [a_ce_o hs c2] at he
  have hk := k g hz p l e s m args below meth c H locs A hF hS hR hL
  simp only [List.map_cons, a_cv] at hk ⊢
  rw [a_ad_k hR ha]
  exact va_get (D := aD g) hF.1 hF.2.1 (Ts := lw_g) hF.2.2.2.2.2.1 c3 hF.2.2.2.2.1 hF.2.2.2.2.2.2.2.2.1 hR.1 a he c1 j hj (hF.2.2.2.2.2.1 _ hw) (fun _ h => h) (v := a_cv g v) (by simp [hj, hv]) hd hk
theorem a_fsset {g : aG} {N j : Nat} {row : Nat → Value} {v : Value} (_hj : j < N) : ((List.range N).map fun i => a_cv g (row i)).set j (a_cv g v) = (List.range N).map fun i => a_cv g (if i = j then v else row i) := by
  apply List.ext_getElem?
  intro i
  by_cases hi : i = j
  · subst hi
    rw [List.getElem?_set_self (by simp; exact _hj)]
    simp [_hj]
  · rw [List.getElem?_set_ne (Ne.symm hi)]
    by_cases hl : i < N
    · simp [hl, hi]
    · simp [hl]
theorem aE_putf {idx ci N j a : Nat} {fin : Bool} {ty : FieldType} {v : Value} (hd : decode y.2.2.1 pc = .ok (.putfield idx, 3)) (hl : a_fw y.1 idx ci N j fin ty) (hfin : fin = false ∨ y.2.1.name = "<init>") (ha : a < n) (hs : a_sh a = (ci, N)) (hv : ∀ g : aG, narrow ty (a_cv g v) = a_cv g v ∧ fits ty (a_cv g v) = true) (k : aE z y R Q (pc + 3) ls st n (a_up mem a j v) k1 k2) : aE z y R Q pc ls (v :: .ref a :: st) n mem k1 k2 := by
  intro g hz p l e s m args below meth c H locs A hF hS hR hL
  obtain ⟨C, T, ⟨c1, c2, c3, ⟨ty0, c4⟩, c5⟩, hj, hw, hf, hd2, hdecl⟩ := hl
  have he := a_wl_get (g := g) (mem := mem) ha
  have hce := a_ce_o (g := g) (row := mem a) hs c2
  have hce' := a_ce_o (g := g) (row := a_up mem a j v a) hs c2
  rw [hce] at he
  simp only [List.map_cons]
  rw [show a_cv g (.ref a) = .ref (aB g + a) from congrArg Value.ref (a_ad_k hR ha)]
  have hts := hF.2.2.2.2.2.1
  have hK := hF.2.2.2.2.2.2.2.2.1
  have hap := va_apart (own := y.1) hts c3 ty0 c4 c5 hK c1
  obtain ⟨r, h1, cell, q1, q2, q3, q4⟩ := hR.1 a _ he
  have hr : r = (C, T, N) := Option.some.inj (h1.symm.trans c1)
  subst hr
  obtain ⟨hSl, hfc, kC, hkC, hkind⟩ := hK.1 ci _ c1
  obtain ⟨cf, kf, fi, f, hi, hsl⟩ := hSl j hj
  have hlay := hts _ (c3 _ (u_in_lay hj))
  unfold u_lay at hlay
  have hst := (u_facts hfc hkC (u_lays hts c3 hj) hi).1
  have fin1 : ∀ H' : Heap, H'[aB g + a]? = some (cell.setSlot f.slot (a_cv g v)) → H'.size = H.size → (∀ q, q ≠ aB g + a → H'[q]? = H[q]?) → W p l e R s m args below meth c H' (locs ++ [⟨aB g + a, f.slot⟩]) k1 k2 (MQ below (a_Q g Q) args s R.cells R.slots (a_A g)) (F0 m (pc + 3) A (st.map (a_cv g))) := by
    intro H' e1 e2 e3
    rw [hsl] at e1 ⊢
    refine k g hz p l e s m args below meth c H' _ A hF (hS.put e2 e3 (Nat.le_add_right _ _)) (a_R_set hR ha (fun q hq => a_up_ne hq) ?_ e2 e3) hL
    rw [hce']
    refine ⟨_, c1, t_OB.to (V := updV (vp_V ((List.range N).map fun j => a_cv g (mem a j))) j (a_cv g v)) ⟨_, e1, q2, q3, t_set q4 hap hj (a_cv g v)⟩ (fun i _ => ?_)⟩
    rw [vp_updV_set (by simp; exact hj), a_fsset hj]
    congr 2
    funext i
    simp [a_up]
  by_cases hfb : fin = true
  · rw [if_pos (by rw [hf]; exact hfb)] at hlay
    have hcf : m.cls = cf := by
      obtain ⟨_, _, c', _, _, _, -, -, hf', -, -, -, hown2, -⟩ := Cond.laysFinal_spec hlay
      have e1 : c' = cf := by have := hi.symm.trans hf'; simp at this; exact this.1.symm
      rw [hdecl hfb] at hown2
      rw [← e1]; exact Option.some.inj (hF.2.2.2.2.1.symm.trans hown2)
    have h6 := u_fits hfc hkC hkind (Or.inr hlay) hi hd2 (hv g).1 (hv g).2
    have hin2 : meth.name = "<init>" := by
      rw [hF.2.2.2.2.2.2.2.1]
      rcases hfin with h | h
      · rw [h] at hfb; cases hfb
      · exact h
    exact W.putFinK hF.1 hF.2.1 hF.2.2.2.2.1 (hts _ hw) hi hst hcf hin2 (by rw [q2]; exact h6) q1 q3 (by rw [hsl]; exact k2_hasslot (q4 j hj)) rfl rfl hd fin1
  · rw [if_neg (by rw [hf]; exact hfb)] at hlay
    have h6 := u_store hfc hkC hkind hlay hi hd2 (hv g).1 (hv g).2
    exact W.putK hF.1 hF.2.1 (f := f) ⟨hF.2.2.2.2.1, hts _ hw, ⟨_, _, _, hi⟩, hst⟩ (by rw [q2]; exact h6) q1 q3 (by rw [hsl]; exact k2_hasslot (q4 j hj)) rfl rfl hd fin1
/-! arrays -/
theorem a_ce_i {g : aG} {a N : Nat} {row : Nat → Value} (hs : a_sh a = (100, N)) : a_ce g (a_sh a) row = .inl (aC g 0, N, .inl fun i => a_vi (row i)) := by
  rw [hs]
  unfold a_ce
  simp
theorem a_ce_z {g : aG} {a N : Nat} {row : Nat → Value} (hs : a_sh a = (101, N)) : a_ce g (a_sh a) row = .inl (aC g 1, N, .inl fun i => a_vi (row i)) := by
  rw [hs]
  unfold a_ce
  simp
theorem a_ce_q {g : aG} {a N t : Nat} {row : Nat → Value} (ht : 102 ≤ t) (hs : a_sh a = (t, N)) : a_ce g (a_sh a) row = .inl (aC g (t - 100), N, .inr (.inr (.inr (.inr fun i => a_vr g (row i))))) := by
  rw [hs]
  unfold a_ce
  simp only
  rw [if_neg (by omega), if_neg (by omega), if_pos ht]
theorem aE_iald {a N j : Nat} {i x : Int32} (hd : decode y.2.2.1 pc = .ok (.iaload, 1)) (ha : a < n) (hs : a_sh a = (100, N)) (hN : N < 2 ^ 31) (hi : i = nI j) (hj : j < N) (hv : mem a j = .int x) (k : aE z y R Q (pc + 1) ls (.int x :: st) n mem k1 k2) : aE z y R Q pc ls (.int i :: .ref a :: st) n mem k1 k2 := by
  intro g hz p l e s m args below meth c H locs A hF hS hR hL
  have he := a_wl_get (g := g) (mem := mem) ha
  rw [a_ce_i hs] at he
  have hk := k g hz p l e s m args below meth c H locs A hF hS hR hL
  simp only [List.map_cons, a_cv] at hk ⊢
  rw [a_ad_k hR ha]
  subst hi
  refine va_iald (D := aD g) hF.1 hF.2.1 hF.2.2.2.2.2.2.2.2.1 hR.1 a 0 he rfl (vp_in_nI hj hN) hd ?_
  rw [nI_clamp (by omega)]
  simp only [hv, a_vi]
  exact hk
theorem aE_zald {a N j : Nat} {i x : Int32} (hd : decode y.2.2.1 pc = .ok (.baload, 1)) (ha : a < n) (hs : a_sh a = (101, N)) (hN : N < 2 ^ 31) (hi : i = nI j) (hj : j < N) (hv : mem a j = .int x) (k : aE z y R Q (pc + 1) ls (.int x :: st) n mem k1 k2) : aE z y R Q pc ls (.int i :: .ref a :: st) n mem k1 k2 := by
  intro g hz p l e s m args below meth c H locs A hF hS hR hL
  have he := a_wl_get (g := g) (mem := mem) ha
  rw [a_ce_z hs] at he
  have hk := k g hz p l e s m args below meth c H locs A hF hS hR hL
  simp only [List.map_cons, a_cv] at hk ⊢
  rw [a_ad_k hR ha]
  subst hi
  refine va_zald (D := aD g) hF.1 hF.2.1 hF.2.2.2.2.2.2.2.2.1 hR.1 a 1 he rfl (vp_in_nI hj hN) hd ?_
  rw [nI_clamp (by omega)]
  simp only [hv, a_vi]
  exact hk
theorem a_arr {g : aG} {s : State} (hK : a_K g s) {t : Nat} {ty : FieldType} (ht : (a_tys g)[t]? = some (aC g t, ty)) : ArrOfT s (aC g t) ty := (hK.1.2 t _ ht).1
theorem aE_aald {a N j t r : Nat} {i : Int32} (hd : decode y.2.2.1 pc = .ok (.aaload, 1)) (ha : a < n) (ht : 102 ≤ t ∧ t < 106) (hs : a_sh a = (t, N)) (hN : N < 2 ^ 31) (hi : i = nI j) (hj : j < N) (hv : mem a j = .ref r) (k : aE z y R Q (pc + 1) ls (.ref r :: st) n mem k1 k2) : aE z y R Q pc ls (.int i :: .ref a :: st) n mem k1 k2 := by
  intro g hz p l e s m args below meth c H locs A hF hS hR hL
  have he := a_wl_get (g := g) (mem := mem) ha
  rw [a_ce_q ht.1 hs] at he
  have hk := k g hz p l e s m args below meth c H locs A hF hS hR hL
  simp only [List.map_cons, a_cv] at hk ⊢
  rw [a_ad_k hR ha]
  subst hi
  have hcell : H[aB g + a]? = some (arrV (aC g (t - 100)) N fun q => va_rf (a_vr g (mem a q))) := hR.1 a _ he
  have hty : ∃ ty : FieldType, ty.isReference = true ∧ ArrOfT s (aC g (t - 100)) ty := by
    have hK := hF.2.2.2.2.2.2.2.2
    rcases (show t = 102 ∨ t = 103 ∨ t = 104 ∨ t = 105 by omega) with rfl | rfl | rfl | rfl
    · exact ⟨_, rfl, a_arr hK (t := 2) rfl⟩
    · exact ⟨_, rfl, a_arr hK (t := 3) rfl⟩
    · exact ⟨_, rfl, a_arr hK (t := 4) rfl⟩
    · exact ⟨_, rfl, a_arr hK (t := 5) rfl⟩
  obtain ⟨ty, hr, hty⟩ := hty
  refine W.aald (v := .ref (a_ad g r)) (ty := ty) hF.1 hF.2.1 hcell (hty N _) hr (fun q => by cases q) (by rw [arrV_size]; exact vp_in_nI hj hN) ?_ rfl rfl hd hk
  rw [nI_clamp (by omega), arrV_read _ _ hj, hv]
  rfl
theorem a_updi {g : aG} {a j N : Nat} {mem : aM} {x : Int32} {cA : ClassId} : (arrV cA N (fun q => .int (a_vi (mem a q)))).setSlot j (.int x) = arrV cA N (fun q => .int (a_vi (a_up mem a j (.int x) a q))) := by
  rw [arrV_store]
  congr 1
  funext q
  by_cases hq : q = j
  · subst hq; simp [updV, a_up, a_vi]
  · simp [updV, a_up, hq]
theorem aE_iast {a N j : Nat} {i x : Int32} (hd : decode y.2.2.1 pc = .ok (.iastore, 1)) (ha : a < n) (hs : a_sh a = (100, N)) (hN : N < 2 ^ 31) (hi : i = nI j) (hj : j < N) (k : aE z y R Q (pc + 1) ls st n (a_up mem a j (.int x)) k1 k2) : aE z y R Q pc ls (.int x :: .int i :: .ref a :: st) n mem k1 k2 := by
  intro g hz p l e s m args below meth c H locs A hF hS hR hL
  have he := a_wl_get (g := g) (mem := mem) ha
  rw [a_ce_i hs] at he
  simp only [List.map_cons, a_cv]
  rw [a_ad_k hR ha]
  subst hi
  have hcell : H[aB g + a]? = some (arrV (aC g 0) N fun q => .int (a_vi (mem a q))) := hR.1 a _ he
  refine W.iast hF.1 hF.2.1 hcell (a_arr hF.2.2.2.2.2.2.2.2 (t := 0) rfl N _) (fun q => by cases q) (by rw [arrV_size]; exact vp_in_nI hj hN) rfl rfl hd fun H1 e1 z oq => ?_
  refine k g hz p l e s m args below meth c H1 _ A hF (hS.put z oq (Nat.le_add_right _ _)) (a_R_set hR ha (fun q hq => a_up_ne hq) ?_ z oq) hL
  rw [a_ce_i hs]
  show H1[aB g + a]? = some (vp_cell _ _)
  rw [vp_cell_i, e1, nI_clamp (by omega), a_updi (g := g)]
theorem a_narZ {x : Int32} (h : x = 0 ∨ x = 1) : narrow .boolean (.int x) = .int x ∧ fits .boolean (.int x) = true := by
  rcases h with rfl | rfl <;> exact ⟨rfl, rfl⟩
theorem aE_zast {a N j : Nat} {i x : Int32} (hd : decode y.2.2.1 pc = .ok (.bastore, 1)) (ha : a < n) (hs : a_sh a = (101, N)) (hN : N < 2 ^ 31) (hi : i = nI j) (hj : j < N) (hx : x = 0 ∨ x = 1) (k : aE z y R Q (pc + 1) ls st n (a_up mem a j (.int x)) k1 k2) : aE z y R Q pc ls (.int x :: .int i :: .ref a :: st) n mem k1 k2 := by
  intro g hz p l e s m args below meth c H locs A hF hS hR hL
  have he := a_wl_get (g := g) (mem := mem) ha
  rw [a_ce_z hs] at he
  simp only [List.map_cons, a_cv]
  rw [a_ad_k hR ha]
  subst hi
  have hcell : H[aB g + a]? = some (arrV (aC g 1) N fun q => .int (a_vi (mem a q))) := hR.1 a _ he
  refine W.zast hF.1 hF.2.1 hcell (a_arr hF.2.2.2.2.2.2.2.2 (t := 1) rfl N _) (fun q => by cases q) (by rw [arrV_size]; exact vp_in_nI hj hN) rfl rfl hd fun H1 e1 z oq => ?_
  refine k g hz p l e s m args below meth c H1 _ A hF (hS.put z oq (Nat.le_add_right _ _)) (a_R_set hR ha (fun q hq => a_up_ne hq) ?_ z oq) hL
  rw [a_ce_z hs]
  show H1[aB g + a]? = some (vp_cell _ _)
  rw [(a_narZ hx).1] at e1
  rw [vp_cell_i, e1, nI_clamp (by omega), a_updi (g := g)]
theorem aE_alen {a N : Nat} (hd : decode y.2.2.1 pc = .ok (.arraylength, 1)) (ha : a < n) (hs : a_sh a = (100, N)) (k : aE z y R Q (pc + 1) ls (.int (nI N) :: st) n mem k1 k2) : aE z y R Q pc ls (.ref a :: st) n mem k1 k2 := by
  intro g hz p l e s m args below meth c H locs A hF hS hR hL
  have he := a_wl_get (g := g) (mem := mem) ha
  rw [a_ce_i hs] at he
  have hk := k g hz p l e s m args below meth c H locs A hF hS hR hL
  simp only [List.map_cons, a_cv] at hk ⊢
  rw [a_ad_k hR ha]
  exact va_alen (D := aD g) hF.1 hF.2.1 hF.2.2.2.2.2.2.2.2.1 hR.1 a 0 he (ty := .int) rfl rfl hd hk
/-! the script and UNDER -/
theorem aE_sld {i : Int32} {j : Nat} (hd : decode y.2.2.1 pc = .ok (.iaload, 1)) (hi : i = nI j) (hN : z.1 < 2 ^ 31) (hj : j < z.1) (k : aE z y R Q (pc + 1) ls (.int (z.2 j) :: st) n mem k1 k2) : aE z y R Q pc ls (.int i :: .ref 100000 :: st) n mem k1 k2 := by
  intro g hz p l e s m args below meth c H locs A hF hS hR hL
  have hk := k g hz p l e s m args below meth c H locs A hF hS hR hL
  have hK := hF.2.2.2.2.2.2.2.2
  subst hi
  subst hz
  refine va_sld hF.1 hF.2.1 hK.2.1 (Nat.lt_of_lt_of_le hK.2.2.1 hK.2.2.2.2.2.2.2.2.2.2) (Nat.not_le.mpr hK.2.2.1) hS (vp_in_nI hj hN) hd ?_
  rw [nI_clamp (Nat.lt_trans hj hN)]
  exact hk
theorem aE_slen (hd : decode y.2.2.1 pc = .ok (.arraylength, 1)) (k : aE z y R Q (pc + 1) ls (.int (nI z.1) :: st) n mem k1 k2) : aE z y R Q pc ls (.ref 100000 :: st) n mem k1 k2 := by
  intro g hz p l e s m args below meth c H locs A hF hS hR hL
  have hk := k g hz p l e s m args below meth c H locs A hF hS hR hL
  have hK := hF.2.2.2.2.2.2.2.2
  subst hz
  exact va_slen hF.1 hF.2.1 hK.2.1 (Nat.lt_of_lt_of_le hK.2.2.1 hK.2.2.2.2.2.2.2.2.2.2) (Nat.not_le.mpr hK.2.2.1) hS hd hk
theorem aE_under {idx : Nat} (hd : decode y.2.2.1 pc = .ok (.getstatic idx, 3)) (hw : Cond.fieldLink y.1 idx "BellWaves" "UNDER" "[I" ∈ lw_g) (k : aE z y R Q (pc + 3) ls (.ref 100001 :: st) n mem k1 k2) : aE z y R Q pc ls st n mem k1 k2 := by
  intro g hz p l e s m args below meth c H locs A hF hS hR hL
  have hk := k g hz p l e s m args below meth c H locs A hF hS hR hL
  have hK := hF.2.2.2.2.2.2.2.2
  exact va_gets hF.1 hF.2.1 hK.2.2.2.1 hS hF.2.2.2.2.1 (hF.2.2.2.2.2.1 _ hw) (fun _ h => h) hd hk
theorem aE_uld {i : Int32} {j : Nat} {v : Int32} (hd : decode y.2.2.1 pc = .ok (.iaload, 1)) (hi : i = nI j) (hj : j < 4) (hv : a_un j = .int v) (k : aE z y R Q (pc + 1) ls (.int v :: st) n mem k1 k2) : aE z y R Q pc ls (.int i :: .ref 100001 :: st) n mem k1 k2 := by
  intro g hz p l e s m args below meth c H locs A hF hS hR hL
  have hk := k g hz p l e s m args below meth c H locs A hF hS hR hL
  have hK := hF.2.2.2.2.2.2.2.2
  subst hi
  exact va_ti hF.1 hF.2.1 hK.2.2.2.2.1 hS (vp_in_nI hj (by omega)) (by rw [nI_clamp (by omega)]; exact hv) hd hk
/-! making cells -/
theorem aE_new {idx ci N : Nat} {C : String} {T : u_T} (hd : decode y.2.2.1 pc = .ok (.new idx, 3)) (hc : a_cf ci C T N) (hw : Cond.classLink y.1 idx C ∈ lw_g ∧ Cond.instantiable C N ∈ lw_g ∧ Cond.initialized C ∈ lw_g) (hs : a_sh n = (ci, N)) (hm : ∀ j, j < N → ∀ ty, parseFieldDescriptor (T j).2.2.1 = some ty → mem' n j = defaultValue ty) (hmm : ∀ q, q < n → mem' q = mem q) (hn : n + 1 ≤ 1000) (hr : k1 + 1 ≤ R.cells ∧ k2 + N ≤ R.slots) (k : aE z y R Q (pc + 3) ls (.ref n :: st) (n + 1) mem' (k1 + 1) (k2 + N)) : aE z y R Q pc ls st n mem k1 k2 := by
  intro g hz p l e s m args below meth c H locs A hF hS hR hL
  obtain ⟨c1, c2, c3, ⟨ty0, c4⟩, c5⟩ := hc
  have hts := hF.2.2.2.2.2.1
  have hK := hF.2.2.2.2.2.2.2.2.1
  have hKn := hK.1 ci _ c1
  refine W.newcK hF.1 hF.2.1 hF.2.2.2.2.1 (hts _ hw.1) (hts _ hw.2.1) (hts _ hw.2.2) rfl hd hr.1 hr.2 hKn.2.1 rfl fun H1 kC hkC e1 z1 o1 => ?_
  have hH : H.size = aB g + n := hR.2.1
  have hR1 : a_R g (n + 1) mem' H1 := by
    refine a_R_push hR hn hmm ?_ z1 o1
    rw [a_ce_o hs c2]
    rw [hH] at e1
    refine ⟨_, c1, (u_born ty0 hts c3 hKn hkC e1 c4).to fun j hj => ?_⟩
    have hj : j < N := hj
    have h1 := hm j hj _ (c4 j hj)
    have h2 : a_cv g (defaultValue (ty0 j)) = defaultValue (ty0 j) := by cases ty0 j <;> rfl
    simp [vp_V, hj, h1, h2]
  have hk := k g hz p l e s m args below meth c H1 locs A hF (a_S_push hS (by omega) o1) hR1 hL
  rw [hH]
  simp only [List.map_cons, a_cv] at hk
  rw [a_ad_k hR1 (Nat.lt_succ_self n)] at hk
  exact hk
theorem aE_newa {N : Nat} {i : Int32} {t : Nat} {atype : ArrayType} {ty : FieldType} (hd : decode y.2.2.1 pc = .ok (.newarray atype, 2)) (hty : (atype = .int ∧ ty = .int ∧ t = 0) ∨ (atype = .boolean ∧ ty = .boolean ∧ t = 1)) (hw : Cond.arrayClass ty ∈ lw_g) (hi : i = nI N) (hN : N ≤ 100000) (hs : a_sh n = (100 + t, N)) (hm : ∀ j, mem' n j = .int 0) (hmm : ∀ q, q < n → mem' q = mem q) (hn : n + 1 ≤ 1000) (hr : k1 + 1 ≤ R.cells ∧ k2 + N ≤ R.slots) (k : aE z y R Q (pc + 2) ls (.ref n :: st) (n + 1) mem' (k1 + 1) (k2 + N)) : aE z y R Q pc ls (.int i :: st) n mem k1 k2 := by
  intro g hz p l e s m args below meth c H locs A hF hS hR hL
  have hts := hF.2.2.2.2.2.1
  have hH : H.size = aB g + n := hR.2.1
  subst hi
  have htt : newarray.typeOf atype = ty := by rcases hty with ⟨rfl, rfl, rfl⟩ | ⟨rfl, rfl, rfl⟩ <;> rfl
  have hdf : defaultValue ty = .int 0 := by rcases hty with ⟨rfl, rfl, rfl⟩ | ⟨rfl, rfl, rfl⟩ <;> rfl
  have hcb : componentBytes ty ≤ 4 := by rcases hty with ⟨rfl, rfl, rfl⟩ | ⟨rfl, rfl, rfl⟩ <;> decide
  have hb : N * componentBytes ty ≤ 536870912 := Nat.le_trans (Nat.mul_le_mul_left N hcb) (by omega)
  refine va_newaK hF.1 hF.2.1 (by rw [htt]; exact hts _ hw) rfl hd (n := nI N) rfl (nI_pos (by omega)) (nI_clamp (by omega)) (by rw [htt]; exact hb) hr.1 hr.2 hH fun H1 cA e1 z1 o1 hAr hNm => ?_
  rw [htt] at e1 hNm
  have hcA : cA = aC g t := by
    have hK := hF.2.2.2.2.2.2.2.2.1
    rcases hty with ⟨rfl, rfl, rfl⟩ | ⟨rfl, rfl, rfl⟩
    · exact Option.some.inj (hNm.symm.trans (hK.2 0 _ rfl).2)
    · exact Option.some.inj (hNm.symm.trans (hK.2 1 _ rfl).2)
  have hR1 : a_R g (n + 1) mem' H1 := by
    refine a_R_push hR hn hmm ?_ (by rw [z1, hH]) (fun q hq => o1 q (by omega))
    have hce : a_ce g (a_sh n) (mem' n) = .inl (aC g t, N, .inl fun i => a_vi (mem' n i)) := by
      rcases hty with ⟨rfl, rfl, rfl⟩ | ⟨rfl, rfl, rfl⟩
      · exact a_ce_i hs
      · exact a_ce_z hs
    rw [hce]
    show H1[aB g + n]? = some (vp_cell _ _)
    rw [vp_cell_i, e1, hcA, hdf]
    congr 2
    funext j
    rw [hm j]
    rfl
  have hk := k g hz p l e s m args below meth c H1 locs A hF (a_S_push hS (by omega) (fun q hq => o1 q (by omega))) hR1 hL
  simp only [List.map_cons, a_cv] at hk
  rw [a_ad_k hR1 (Nat.lt_succ_self n)] at hk
  exact hk
theorem a_tO {g : aG} {U : State} (hK : a_K g U) {t : Nat} {C : String} (hC : (t = 2 ∧ C = "BellWaves$School") ∨ (t = 3 ∧ C = "BellWaves$Stop") ∨ (t = 4 ∧ C = "BellWaves$Sheet")) : va_AO C U ∧ ArrOfT U (aC g t) (.object C) ∧ va_RA U (aC g t) (.object C) := by
  obtain ⟨h1, h2, h3, h4, h5, h6, h7, h8, h9, h10, h11⟩ := hK
  rcases hC with ⟨rfl, rfl⟩ | ⟨rfl, rfl⟩ | ⟨rfl, rfl⟩
  · exact ⟨h7, h1.2 2 _ rfl⟩
  · exact ⟨h8, h1.2 3 _ rfl⟩
  · exact ⟨h9, h1.2 4 _ rfl⟩
theorem aE_anew {idx N t : Nat} {i : Int32} {C : String} (hd : decode y.2.2.1 pc = .ok (.anewarray idx, 3)) (hC : (t = 2 ∧ C = "BellWaves$School") ∨ (t = 3 ∧ C = "BellWaves$Stop") ∨ (t = 4 ∧ C = "BellWaves$Sheet")) (hw : Cond.classLink y.1 idx C ∈ lw_g) (hi : i = nI N) (hN : N ≤ 100000) (hs : a_sh n = (100 + t, N)) (hm : ∀ j, mem' n j = .null) (hmm : ∀ q, q < n → mem' q = mem q) (hn : n + 1 ≤ 1000) (hr : k1 + 1 ≤ R.cells ∧ k2 + N ≤ R.slots) (k : aE z y R Q (pc + 3) ls (.ref n :: st) (n + 1) mem' (k1 + 1) (k2 + N)) : aE z y R Q pc ls (.int i :: st) n mem k1 k2 := by
  intro g hz p l e s m args below meth c H locs A hF hS hR hL
  have hts := hF.2.2.2.2.2.1
  have hH : H.size = aB g + n := hR.2.1
  subst hi
  obtain ⟨hO, -, hRA⟩ := a_tO hF.2.2.2.2.2.2.2.2 hC
  have hcl : (nI N).toNatClampNeg = N := nI_clamp (by omega)
  refine W.anew hF.1 hF.2.1 hF.2.2.2.2.1 (hts _ hw) (va_AO.use hO) rfl hd rfl (nI_pos (by omega)) (by rw [hcl]; omega) hr.1 (by rw [hcl]; exact hr.2) fun cA kA comp f1 f2 f3 f4 => ?_
  rw [hcl]
  generalize hH1 : H.push ({ cls := cA, slots := Array.replicate N .null, vm := .none } : Cell) = H1
  have z1 : H1.size = H.size + 1 := by rw [← hH1, Array.size_push]
  have e1 : H1[H.size]? = some (arrV cA N (fun _ => .null)) := by rw [← hH1, Array.getElem?_push_size, ← arrV_new]
  have o1 : ∀ q : Nat, q < H.size → H1[q]? = H[q]? := fun q hq => by rw [← hH1, Array.getElem?_push, if_neg (Nat.ne_of_lt hq)]
  have hcA : cA = aC g t := by
    obtain ⟨_, _, -, -, -, q4⟩ := hRA
    exact Option.some.inj (f1.symm.trans q4)
  have ht2 : 102 ≤ 100 + t := by rcases hC with ⟨rfl, -⟩ | ⟨rfl, -⟩ | ⟨rfl, -⟩ <;> omega
  have hR1 : a_R g (n + 1) mem' H1 := by
    refine a_R_push hR hn hmm ?_ z1 o1
    rw [a_ce_q ht2 hs]
    show H1[aB g + n]? = some (vp_cell _ _)
    rw [vp_cell_q, ← hH, e1, hcA, show 100 + t - 100 = t by omega]
    congr 2
    funext j
    rw [hm j]
    rfl
  have hk := k g hz p l e s m args below meth c H1 locs A hF (a_S_push hS (by omega) o1) hR1 hL
  simp only [List.map_cons, a_cv] at hk
  rw [a_ad_k hR1 (Nat.lt_succ_self n), ← hH] at hk
  exact hk
theorem aE_aast {a N j r t ci Nr : Nat} {i : Int32} {C : String} {T : u_T} (hd : decode y.2.2.1 pc = .ok (.aastore, 1)) (ha : a < n) (hr : r < n) (hC : (t = 2 ∧ C = "BellWaves$School") ∨ (t = 3 ∧ C = "BellWaves$Stop") ∨ (t = 4 ∧ C = "BellWaves$Sheet")) (hs : a_sh a = (100 + t, N)) (hsr : a_sh r = (ci, Nr)) (hc : vwCl[ci]? = some (C, T, Nr) ∧ ci < 100) (hN : N < 2 ^ 31) (hi : i = nI j) (hj : j < N) (k : aE z y R Q (pc + 1) ls st n (a_up mem a j (.ref r)) k1 k2) : aE z y R Q pc ls (.ref r :: .int i :: .ref a :: st) n mem k1 k2 := by
  intro g hz p l e s m args below meth c H locs A hF hS hR hL
  have ht2 : 102 ≤ 100 + t := by rcases hC with ⟨rfl, -⟩ | ⟨rfl, -⟩ | ⟨rfl, -⟩ <;> omega
  have he := a_wl_get (g := g) (mem := mem) ha
  rw [a_ce_q ht2 hs, show 100 + t - 100 = t by omega] at he
  have her := a_wl_get (g := g) (mem := mem) hr
  rw [a_ce_o hsr hc.2] at her
  simp only [List.map_cons, a_cv]
  rw [a_ad_k hR ha, a_ad_k hR hr]
  subst hi
  have hcell : H[aB g + a]? = some (arrV (aC g t) N fun q => va_rf (a_vr g (mem a q))) := hR.1 a _ he
  obtain ⟨-, -, kA, comp, q1, q2, q3, -⟩ := a_tO hF.2.2.2.2.2.2.2.2 hC
  have hK := hF.2.2.2.2.2.2.2.2.1
  obtain ⟨r', hr', cellV, g1, g2, g3, -⟩ := hR.1 r _ her
  have hcls := (hK.1 ci _ hc.1).2
  have hcomp : comp = (aD g).1 ci := Option.some.inj (q3.symm.trans hcls.1)
  subst hcomp
  obtain ⟨kC, hkC, -⟩ := hcls.2
  refine W.aast hF.1 hF.2.1 hcell (fun q h => by cases h) (fun h => by cases h) q1 q2 rfl hkC ⟨nI_pos (by omega), by rw [arrV_size, nI_clamp (by omega)]; exact hj⟩ g1 (fun q h => by rw [g3] at h; cases h) (by rw [g2]; exact hkC) (by rw [g2]; exact va_assign hcls) rfl rfl hd fun H1 e1 z1 oq => ?_
  refine k g hz p l e s m args below meth c H1 _ A hF (hS.put z1 oq (Nat.le_add_right _ _)) (a_R_set hR ha (fun q hq => a_up_ne hq) ?_ z1 oq) hL
  rw [a_ce_q ht2 hs, show 100 + t - 100 = t by omega]
  show H1[aB g + a]? = some (vp_cell _ _)
  rw [vp_cell_q, e1, nI_clamp (by omega), arrV_store]
  congr 2
  funext q
  by_cases hq : q = j
  · subst hq; simp [updV, a_up, a_vr, va_rf, a_ad_k hR hr]
  · simp [updV, a_up, hq]
theorem a_R_of {g : aG} {n : Nat} {mem : aM} {H : Heap} (h : ∀ k, k < n → va_at (aD g) vwCl (aB g + k, a_ce g (a_sh k) (mem k)) H) (hz : H.size = aB g + n) (hn : n ≤ 1000) : a_R g n mem H := by
  refine ⟨fun k q hk => ?_, hz, hn⟩
  obtain ⟨h1, rfl⟩ := a_wl_inv hk
  exact h k h1
theorem aE_mna {idx N M : Nat} {i j : Int32} (hd : decode y.2.2.1 pc = .ok (.multianewarray idx 2, 4)) (hw : Cond.classLink y.1 idx "[[I" ∈ lw_g ∧ Cond.arrayClass .int ∈ lw_g) (hi : i = nI N) (hj : j = nI M) (hN : N ≤ 100 ∧ M ≤ 100) (hs : a_sh n = (105, N)) (hs2 : ∀ q, q < N → a_sh (n + 1 + q) = (100, M)) (hm : ∀ q, mem' n q = if q < N then .ref (n + 1 + q) else .null) (hm2 : ∀ q, q < N → ∀ b, mem' (n + 1 + q) b = .int 0) (hmm : ∀ q, q < n → mem' q = mem q) (hn : n + 1 + N ≤ 1000) (hr : k1 + (1 + N) ≤ R.cells ∧ k2 + (N + N * M) ≤ R.slots) (k : aE z y R Q (pc + 4) ls (.ref n :: st) (n + 1 + N) mem' (k1 + 1 + N) (k2 + N + N * M)) : aE z y R Q pc ls (.int j :: .int i :: st) n mem k1 k2 := by
  intro g hz p l e s m args below meth c H locs A hF hS hR hL
  have hts := hF.2.2.2.2.2.1
  have hH : H.size = aB g + n := hR.2.1
  subst hi
  subst hj
  have hcN : (nI N).toNatClampNeg = N := nI_clamp (by omega)
  have hcM : (nI M).toNatClampNeg = M := nI_clamp (by omega)
  have hK := hF.2.2.2.2.2.2.2.2
  obtain ⟨K1, -, -, -, -, -, -, -, -, hAO, -⟩ := hK
  intro T hT Xs
  obtain ⟨vm₁, cA, comp, -, fA, fC, hO, -, X', step⟩ := Xs.multianewarray2F hF.1 hF.2.2.2.2.1 (ty := .int) (hts _ hw.1) (va_AOA.use hAO) (hts _ hw.2) (g := F0 m pc A (.int (nI M) :: .int (nI N) :: st.map (a_cv g))) rfl (by rw [hF.2.1]; exact hd) rfl (nI_pos (by omega)) (nI_pos (by omega)) (by rw [hcN]; omega) (by rw [hcM, show componentBytes .int = 4 from rfl]; omega) (by rw [hcM]; omega) rfl rfl (by rw [hcN]; exact hr.1) (by rw [hcN, hcM]; exact hr.2)
  rw [hcN, hcM] at X' step
  have eA : cA = aC g 5 := Option.some.inj (fA.symm.trans (K1.2 5 _ rfl).2)
  have eC : comp = aC g 0 := Option.some.inj (fC.symm.trans (K1.2 0 _ rfl).2)
  subst eA
  subst eC
  generalize hFl : Jvm.Free.Multi.fill (T.setVm vm₁) (aC g 5) (aC g 0) N M (defaultValue .int) N = F at X' step
  have hTh : (T.setVm vm₁).heap = H := hT
  obtain ⟨f1, f2, -, -⟩ := Jvm.Free.Multi.fill_facts (T.setVm vm₁) (aC g 5) (aC g 0) N M (defaultValue .int) N
  rw [hFl, hTh] at f1 f2
  have hold : ∀ x : Nat, x < H.size → F.heap[x]? = H[x]? := fun x hx => by
    have := Jvm.Free.Multi.fill_old (T.setVm vm₁) (aC g 5) (aC g 0) N M (defaultValue .int) (a := x) (by rw [hTh]; exact hx) N
    rw [hFl, hTh] at this
    exact this
  have hrow : ∀ q : Nat, q < N → F.heap[H.size + 1 + q]? = some (arrV (aC g 0) M fun _ => .int 0) := fun q hq => by
    have := Jvm.Free.Multi.fill_inner (T.setVm vm₁) (aC g 5) (aC g 0) N M (defaultValue .int) N q hq
    rw [hFl, hTh] at this
    rw [this]
    exact congrArg some (arrV_new (aC g 0) M (.int 0))
  have hout := vr_outer (aC g 5) N H.size N
  rw [hout] at f2
  have f1' : F.heap.size = H.size + 1 + N := by first | exact f1 | omega
  have hR1 : a_R g (n + 1 + N) mem' F.heap := by
    refine a_R_of (fun q hq => ?_) (by rw [f1', hH]; omega) hn
    by_cases h1 : q < n
    · have h2 := hR.1 q _ (a_wl_get h1)
      rw [hmm q h1]
      exact h2.kept (hold _ (by rw [hH]; exact Nat.add_lt_add_left h1 _))
    · by_cases h2 : q = n
      · subst h2
        rw [a_ce_q (by omega) hs]
        show F.heap[aB g + q]? = some (vp_cell _ _)
        rw [vp_cell_q, ← hH, f2]
        congr 2
        funext b
        rw [hm b]
        by_cases hb : b < N
        · simp only [hb, if_true, a_vr, va_rf]
          rw [a_ad, if_neg (by omega), if_neg (by omega), show aB g + (q + 1 + b) = H.size + 1 + b by omega]
        · simp [hb, a_vr, va_rf]
      · obtain ⟨b, rfl⟩ : ∃ b, q = n + 1 + b := ⟨q - (n + 1), by omega⟩
        rw [a_ce_i (hs2 b (by omega))]
        show F.heap[aB g + (n + 1 + b)]? = some (vp_cell _ _)
        rw [vp_cell_i, show aB g + (n + 1 + b) = H.size + 1 + b by omega, hrow b (by omega)]
        congr 2
        funext x
        rw [hm2 b (by omega)]
        rfl
  have hk := k g hz p l e s m args below meth c F.heap locs A hF (a_S_push hS (by omega) hold) hR1 hL
  simp only [List.map_cons, a_cv] at hk
  rw [a_ad_k hR1 (by omega), ← hH] at hk
  obtain ⟨t, a1, b1⟩ := hk F rfl X'
  refine ⟨t, step t ?_, b1⟩
  have e : T.heap.size = H.size := by rw [hT]
  rw [e]
  exact a1
/-! the end of a method -/
theorem aE_iret {v : Int32} (hd : decode y.2.2.1 pc = .ok (.ireturn, 1)) (hr : y.2.2.2.2 = some .int) (hk : k1 ≤ R.cells ∧ k2 ≤ R.slots) (hq : Q (some (.int v)) n mem) : aE z y R Q pc ls [.int v] n mem k1 k2 := by
  intro g hz p l e s m args below meth c H locs A hF hS hR hL
  refine W.widen hk.1 hk.2 ?_
  have hlocks := hF.2.2.2.2.2.2.1
  exact W.iret hF.1 hF.2.1 (hF.2.2.1.trans hr) (fun t ht hW => ⟨⟨some (.int v), n, mem, rfl, hq, by rw [ht]; exact hR⟩, hS.F ht⟩) hS.2.2 hd hlocks
theorem aE_zret {v : Int32} (hd : decode y.2.2.1 pc = .ok (.ireturn, 1)) (hr : y.2.2.2.2 = some .boolean) (hv : v = 0 ∨ v = 1) (hk : k1 ≤ R.cells ∧ k2 ≤ R.slots) (hq : Q (some (.int v)) n mem) : aE z y R Q pc ls [.int v] n mem k1 k2 := by
  intro g hz p l e s m args below meth c H locs A hF hS hR hL
  refine W.widen hk.1 hk.2 ?_
  have hlocks := hF.2.2.2.2.2.2.1
  exact W.zret hF.1 hF.2.1 (hF.2.2.1.trans hr) (a_narZ hv).1 (fun t ht hW => ⟨⟨some (.int v), n, mem, rfl, hq, by rw [ht]; exact hR⟩, hS.F ht⟩) hS.2.2 hd hlocks
theorem aE_vret (hd : decode y.2.2.1 pc = .ok (.return_, 1)) (hr : y.2.2.2.2 = none) (hk : k1 ≤ R.cells ∧ k2 ≤ R.slots) (hq : Q none n mem) : aE z y R Q pc ls [] n mem k1 k2 := by
  intro g hz p l e s m args below meth c H locs A hF hS hR hL
  refine W.widen hk.1 hk.2 ?_
  have hlocks := hF.2.2.2.2.2.2.1
  exact W.vret hF.1 hF.2.1 (hF.2.2.1.trans hr) (fun t ht hW => ⟨⟨none, n, mem, rfl, hq, by rw [ht]; exact hR⟩, hS.F ht⟩) hS.2.2 hd hlocks
theorem aE_aret {a : Nat} {ty : FieldType} (hd : decode y.2.2.1 pc = .ok (.areturn, 1)) (hr : y.2.2.2.2 = some ty) (hty : (∃ n, ty = .object n) ∨ ∃ t, ty = .array t) (hk : k1 ≤ R.cells ∧ k2 ≤ R.slots) (hq : Q (some (.ref a)) n mem) : aE z y R Q pc ls [.ref a] n mem k1 k2 := by
  intro g hz p l e s m args below meth c H locs A hF hS hR hL
  refine W.widen hk.1 hk.2 ?_
  have hlocks := hF.2.2.2.2.2.2.1
  exact W.aret hF.1 hF.2.1 (hF.2.2.1.trans hr) hty (Or.inr ⟨_, rfl⟩) (fun t ht hW => ⟨⟨some (.ref a), n, mem, rfl, hq, by rw [ht]; exact hR⟩, hS.F ht⟩) hS.2.2 hd hlocks
/-! calls -/
theorem a_blind (g : aG) (as : List Value) (n : Nat) (mem : aM) : FrameBlind (a_P g as n mem) := by
  intro a U f mk h
  exact ⟨h.1, h.2.1, a_K_to (s := U) h.2.2 (State.WarmedH.refl U) (Nat.le_refl _) (fun _ _ _ => rfl)⟩
theorem a_pre {g : aG} {as : List Value} {n : Nat} {mem : aM} {s : State} {H : Heap} {locs : List Loc} (hK : a_K g s) (hS : va_S (a_A g) s.heap H locs) (hR : a_R g n mem H) : ∀ U : State, U.heap = H → s.WarmedH U.vm → a_P g as n mem (as.map (a_cv g)).toArray U := by
  intro U hU hW
  subst hU
  exact ⟨rfl, hR, a_K_to hK hW hS.1 hS.2.1⟩
theorem a_go {g : aG} {p : Program} {l : Launch} {e : Env} {s : State} {m : MethodId} {args a : Array Value} {below : List Frame} {meth : Method} {c : Code} {H : Heap} {locs : List Loc} {A : Array Slot} {mc ms : Nat} {st0 rest : List Value} {Qz : Option Value → Nat → aM → Prop} {Qw : State → Prop} {free : Addr → Prop}
    (hr : va_Run p l e R s m args below meth c H locs k1 k2 mc ms (F0 m pc A st0) rest (a_Q g Qz a) free) (hS : va_S (a_A g) s.heap H locs) (hf : ∀ q, free q → a_A g q)
    (kk : ∀ (r : Option Value) (n' : Nat) (mem' : aM) (H1 : Heap) (locs1 : List Loc), Qz r n' mem' → a_R g n' mem' H1 → va_S (a_A g) s.heap H1 locs1 → W p l e R s m args below meth c H1 locs1 (k1 + mc) (k2 + ms) Qw (F0 m (pc + 3) A ((r.map (a_cv g)).toList ++ rest))) :
    W p l e R s m args below meth c H locs k1 k2 Qw (F0 m pc A st0) := by
  intro T hT X
  obtain ⟨v, st₀, t, T', L, h0, X', hL, e1, e2, ⟨⟨r, n', mem', hv, hp, hb⟩, hz, hk⟩, st⟩ := hr T hT X
  cases hv
  rw [h0] at hz hk
  obtain ⟨t2, a1, b1⟩ := kk r n' mem' T'.heap (locs ++ L) hp (by rw [e1]; exact hb)
    ⟨Nat.le_trans hS.1 (by rw [e1]; exact hz), fun q h1 h2 => by rw [e1, hk q (Nat.lt_of_lt_of_le h1 hS.1) h2]; exact hS.2.1 q h1 h2, fun q hq => by
      rcases List.mem_append.mp hq with h | h
      · exact hS.2.2 q h
      · exact hf _ (hL q h)⟩ T' rfl X'
  exact ⟨t2, st t2 a1, b1⟩
/-- a method's own words -/
def a_me (x : aY) (np : Nat) : Prop := Cond.code x.2.1 x.2.2.1 x.2.2.2.1 x.2.2.2.2 ∈ lw_g ∧ Cond.initialized x.2.1.cls ∈ lw_g ∧ (x.2.1.cls ≠ "java/lang/invoke/MethodHandle" ∧ x.2.1.cls ≠ "java/lang/invoke/VarHandle" ∧ (parseMethodDescriptor x.2.1.desc).map (fun d => d.parameters.length) = some np) ∧ plainName x.2.1.cls = true ∧ x.1 = x.2.1.cls
def a_mv (x : aY) (np ci : Nat) : Prop := a_me x np ∧ Cond.instanceMethod x.2.1 ∈ lw_g ∧ Cond.selects x.2.1.cls x.2.1 x.2.1 ∈ lw_g ∧ (∃ (T : u_T) (N : Nat), vwCl[ci]? = some (x.2.1.cls, T, N)) ∧ ci < 100
def a_ms (x : aY) (np : Nat) : Prop := a_me x np ∧ Cond.static x.2.1 ∈ lw_g
def a_mi (x : aY) (np : Nat) : Prop := a_me x np ∧ Cond.instanceMethod x.2.1 ∈ lw_g ∧ x.2.1.name = "<init>" ∧ x.2.2.2.2 = none
def a_ok (x : aY) (Rx R : Room) : Prop := Rx.frames + 1 ≤ R.frames ∧ 8 + (x.2.2.2.1 + 11) + Rx.locals ≤ R.locals
theorem a_goodws (x : aY) (h : Cond.code x.2.1 x.2.2.1 x.2.2.2.1 x.2.2.2.2 ∈ lw_g) : GoodIn lw_g (a_ws x) := by
  intro w hw
  rcases List.mem_cons.mp hw with rfl | h1
  · exact ⟨h, a_good h⟩
  · exact ⟨h1, a_good h1⟩
theorem a_cats (g : aG) (st : List Value) : ((st.map (a_cv g)).map fun v => v.category).sum = (st.map fun v => v.category).sum := by
  congr 1
  rw [List.map_map]
  apply List.map_congr_left
  intro v _
  exact a_cat g v
theorem aE_callV {x : aY} {Rx : Room} {idx np ci N b : Nat} {as st0 : List Value} {Qx : Option Value → Nat → aM → Prop} (hd : decode y.2.2.1 pc = .ok (.invokevirtual idx, 3)) (hw : Cond.methodLink y.1 idx x.2.1 ∈ lw_g) (hm : a_mv x np ci) (hM : aRuns x Rx (.ref b :: as) n mem Qx) (hst : st0 = as.reverse ++ .ref b :: st) (hb : b < n) (hs : a_sh b = (ci, N)) (hnp : as.length = np) (hok : a_ok x Rx R) (hcat : (st.map fun v => v.category).sum ≤ 8) (hf : k1 + Rx.cells ≤ R.cells ∧ k2 + Rx.slots ≤ R.slots)
    (k : ∀ r n' mem', Qx r n' mem' → aE z y R Q (pc + 3) ls (r.toList ++ st) n' mem' (k1 + Rx.cells) (k2 + Rx.slots)) : aE z y R Q pc ls st0 n mem k1 k2 := by
  intro g hz p l e s m args below meth c H locs A hF hS hR hL
  subst hst
  obtain ⟨⟨hc, hi, hdd, -, -⟩, hin, hsel, ⟨T, N', hcl⟩, hci⟩ := hm
  have hts := hF.2.2.2.2.2.1
  have hK := hF.2.2.2.2.2.2.2.2
  have he := a_wl_get (g := g) (mem := mem) hb
  rw [a_ce_o hs hci] at he
  have hrun := va_runV (p := p) (l := l) (e := e) (R := R) (s := s) (m := m) (args := args) (below := below) (meth := meth) (c := c) (H := H) (locs := locs) (cells := k1) (slots := k2) (g := F0 m pc A ((as.reverse ++ .ref b :: st).map (a_cv g))) (b := aB g + b) (As := as.map (a_cv g)) (rest := st.map (a_cv g)) (C := x.2.1.cls) ⟨hF.1, hF.2.1, hF.2.2.2.1, hF.2.2.2.2.1, hts⟩ (hM l g)
    ⟨callB_of np hts (a_goodws x hc) rfl rfl rfl (hts _ hi) (hts _ hw) hdd hok, hts _ hin, hts _ hsel⟩
    ⟨a_blind g _ n mem, va_recv hK.1 hR.1 hcl he, fun U hU hW => by
      have := a_pre (as := .ref b :: as) hK hS hR U hU hW
      simp only [List.map_cons, a_cv] at this
      rw [a_ad_k hR hb] at this
      exact this⟩ rfl (by rw [List.length_map]; exact hnp) hL.1 (by simp [List.map_append, List.map_reverse, a_cv, a_ad_k hR hb]) (by show 2 * 0 + _ ≤ 8; rw [a_cats]; omega) hd hf
  refine a_go hrun hS (fun q h => h) fun r n' mem' H1 locs1 hq hR1 hS1 => ?_
  have hk := k r n' mem' hq g hz p l e s m args below meth c H1 locs1 A hF hS1 hR1 hL
  have er : (r.toList ++ st).map (a_cv g) = (r.map (a_cv g)).toList ++ st.map (a_cv g) := by cases r <;> simp
  rw [er] at hk
  exact hk
theorem aE_callVN {x : aY} {Rx : Room} {idx np ci N b : Nat} {host : String} {as st0 : List Value} {Qx : Option Value → Nat → aM → Prop} (hd : decode y.2.2.1 pc = .ok (.invokevirtual idx, 3)) (hw : Cond.methodLinkNest y.1 idx x.2.1 host ∈ lw_n) (hm : a_mv x np ci) (hM : aRuns x Rx (.ref b :: as) n mem Qx) (hst : st0 = as.reverse ++ .ref b :: st) (hb : b < n) (hs : a_sh b = (ci, N)) (hnp : as.length = np) (hok : a_ok x Rx R) (hcat : (st.map fun v => v.category).sum ≤ 8) (hf : k1 + Rx.cells ≤ R.cells ∧ k2 + Rx.slots ≤ R.slots)
    (k : ∀ r n' mem', Qx r n' mem' → aE z y R Q (pc + 3) ls (r.toList ++ st) n' mem' (k1 + Rx.cells) (k2 + Rx.slots)) : aE z y R Q pc ls st0 n mem k1 k2 := by
  intro g hz p l e s m args below meth c H locs A hF hS hR hL
  subst hst
  obtain ⟨⟨hc, hi, hdd, -, -⟩, hin, hsel, ⟨T, N', hcl⟩, hci⟩ := hm
  have hts := hF.2.2.2.2.2.1
  have hK := hF.2.2.2.2.2.2.2.2
  have hNw := hK.2.2.2.2.2.1 _ hw
  have he := a_wl_get (g := g) (mem := mem) hb
  rw [a_ce_o hs hci] at he
  have hrun := va_runVN (p := p) (l := l) (e := e) (R := R) (s := s) (m := m) (args := args) (below := below) (meth := meth) (c := c) (H := H) (locs := locs) (cells := k1) (slots := k2) (g := F0 m pc A ((as.reverse ++ .ref b :: st).map (a_cv g))) (b := aB g + b) (As := as.map (a_cv g)) (rest := st.map (a_cv g)) (C := x.2.1.cls) ⟨hF.1, hF.2.1, hF.2.2.2.1, hF.2.2.2.2.1, hts⟩ (hM l g)
    ⟨va_cnB np hts (a_goodws x hc) rfl rfl rfl hNw (hts _ hi) hdd hok, hts _ hin, hts _ hsel⟩
    ⟨a_blind g _ n mem, va_recv hK.1 hR.1 hcl he, fun U hU hW => by
      have := a_pre (as := .ref b :: as) hK hS hR U hU hW
      simp only [List.map_cons, a_cv] at this
      rw [a_ad_k hR hb] at this
      exact this⟩ rfl (by rw [List.length_map]; exact hnp) hL.1 (by simp [List.map_append, List.map_reverse, a_cv, a_ad_k hR hb]) (by show 2 * 0 + _ ≤ 8; rw [a_cats]; omega) hd hf
  refine a_go hrun hS (fun q h => h) fun r n' mem' H1 locs1 hq hR1 hS1 => ?_
  have hk := k r n' mem' hq g hz p l e s m args below meth c H1 locs1 A hF hS1 hR1 hL
  have er : (r.toList ++ st).map (a_cv g) = (r.map (a_cv g)).toList ++ st.map (a_cv g) := by cases r <;> simp
  rw [er] at hk
  exact hk
theorem aE_callS {x : aY} {Rx : Room} {idx np : Nat} {as st0 : List Value} {Qx : Option Value → Nat → aM → Prop} (hd : decode y.2.2.1 pc = .ok (.invokestatic idx, 3)) (hw : Cond.methodLink y.1 idx x.2.1 ∈ lw_g) (hm : a_ms x np) (hM : aRuns x Rx as n mem Qx) (hst : st0 = as.reverse ++ st) (hnp : as.length = np) (hok : a_ok x Rx R) (hcat : (st.map fun v => v.category).sum ≤ 8) (hf : k1 + Rx.cells ≤ R.cells ∧ k2 + Rx.slots ≤ R.slots)
    (k : ∀ r n' mem', Qx r n' mem' → aE z y R Q (pc + 3) ls (r.toList ++ st) n' mem' (k1 + Rx.cells) (k2 + Rx.slots)) : aE z y R Q pc ls st0 n mem k1 k2 := by
  intro g hz p l e s m args below meth c H locs A hF hS hR hL
  subst hst
  obtain ⟨⟨hc, hi, hdd, -, -⟩, hsta⟩ := hm
  have hts := hF.2.2.2.2.2.1
  have hK := hF.2.2.2.2.2.2.2.2
  have hrun := va_runS (p := p) (l := l) (e := e) (R := R) (s := s) (m := m) (args := args) (below := below) (meth := meth) (c := c) (H := H) (locs := locs) (cells := k1) (slots := k2) (g := F0 m pc A ((as.reverse ++ st).map (a_cv g))) (As := as.map (a_cv g)) (rest := st.map (a_cv g)) ⟨hF.1, hF.2.1, hF.2.2.2.1, hF.2.2.2.2.1, hts⟩ (hM l g)
    ⟨callB_of np hts (a_goodws x hc) rfl rfl rfl (hts _ hi) (hts _ hw) hdd hok, hts _ hsta⟩
    ⟨a_blind g _ n mem, a_pre (as := as) hK hS hR⟩ rfl (by rw [List.length_map]; exact hnp) hL.1 (by simp [List.map_append, List.map_reverse]) (by show 2 * 0 + _ ≤ 8; rw [a_cats]; omega) hd hf
  refine a_go hrun hS (fun q h => h) fun r n' mem' H1 locs1 hq hR1 hS1 => ?_
  have hk := k r n' mem' hq g hz p l e s m args below meth c H1 locs1 A hF hS1 hR1 hL
  have er : (r.toList ++ st).map (a_cv g) = (r.map (a_cv g)).toList ++ st.map (a_cv g) := by cases r <;> simp
  rw [er] at hk
  exact hk
theorem aE_callSN {x : aY} {Rx : Room} {idx np : Nat} {host : String} {as st0 : List Value} {Qx : Option Value → Nat → aM → Prop} (hd : decode y.2.2.1 pc = .ok (.invokestatic idx, 3)) (hw : Cond.methodLinkNest y.1 idx x.2.1 host ∈ lw_n) (hm : a_ms x np) (hM : aRuns x Rx as n mem Qx) (hst : st0 = as.reverse ++ st) (hnp : as.length = np) (hok : a_ok x Rx R) (hcat : (st.map fun v => v.category).sum ≤ 8) (hf : k1 + Rx.cells ≤ R.cells ∧ k2 + Rx.slots ≤ R.slots)
    (k : ∀ r n' mem', Qx r n' mem' → aE z y R Q (pc + 3) ls (r.toList ++ st) n' mem' (k1 + Rx.cells) (k2 + Rx.slots)) : aE z y R Q pc ls st0 n mem k1 k2 := by
  intro g hz p l e s m args below meth c H locs A hF hS hR hL
  subst hst
  obtain ⟨⟨hc, hi, hdd, -, -⟩, hsta⟩ := hm
  have hts := hF.2.2.2.2.2.1
  have hK := hF.2.2.2.2.2.2.2.2
  have hrun := va_runSN (p := p) (l := l) (e := e) (R := R) (s := s) (m := m) (args := args) (below := below) (meth := meth) (c := c) (H := H) (locs := locs) (cells := k1) (slots := k2) (g := F0 m pc A ((as.reverse ++ st).map (a_cv g))) (As := as.map (a_cv g)) (rest := st.map (a_cv g)) ⟨hF.1, hF.2.1, hF.2.2.2.1, hF.2.2.2.2.1, hts⟩ (hM l g)
    ⟨va_cnB np hts (a_goodws x hc) rfl rfl rfl (hK.2.2.2.2.2.1 _ hw) (hts _ hi) hdd hok, hts _ hsta, trivial⟩
    ⟨a_blind g _ n mem, a_pre (as := as) hK hS hR⟩ rfl (by rw [List.length_map]; exact hnp) hL.1 (by simp [List.map_append, List.map_reverse]) (by show 2 * 0 + _ ≤ 8; rw [a_cats]; omega) hd hf
  refine a_go hrun hS (fun q h => h) fun r n' mem' H1 locs1 hq hR1 hS1 => ?_
  have hk := k r n' mem' hq g hz p l e s m args below meth c H1 locs1 A hF hS1 hR1 hL
  have er : (r.toList ++ st).map (a_cv g) = (r.map (a_cv g)).toList ++ st.map (a_cv g) := by cases r <;> simp
  rw [er] at hk
  exact hk
theorem aE_callI {x : aY} {Rx : Room} {idx np b : Nat} {as st0 : List Value} {Qx : Option Value → Nat → aM → Prop} (hd : decode y.2.2.1 pc = .ok (.invokespecial idx, 3)) (hw : (Cond.methodLink y.1 idx x.2.1 ∈ lw_g) ∨ ∃ host, Cond.methodLinkNest y.1 idx x.2.1 host ∈ lw_n) (hm : a_mi x np) (hM : aRuns x Rx (.ref b :: as) n mem Qx) (hst : st0 = as.reverse ++ .ref b :: st) (hb : b < n) (hnp : as.length = np) (hok : a_ok x Rx R) (hcat : (st.map fun v => v.category).sum ≤ 8) (hf : k1 + Rx.cells ≤ R.cells ∧ k2 + Rx.slots ≤ R.slots)
    (k : ∀ r n' mem', Qx r n' mem' → aE z y R Q (pc + 3) ls (r.toList ++ st) n' mem' (k1 + Rx.cells) (k2 + Rx.slots)) : aE z y R Q pc ls st0 n mem k1 k2 := by
  intro g hz p l e s m args below meth c H locs A hF hS hR hL
  subst hst
  obtain ⟨⟨hc, hi, hdd, -, -⟩, hin, hnm, hret⟩ := hm
  have hts := hF.2.2.2.2.2.1
  have hK := hF.2.2.2.2.2.2.2.2
  have hPre : PreS s H (a_P g (.ref b :: as) n mem) (.ref (aB g + b) :: as.map (a_cv g)) := ⟨a_blind g _ n mem, fun U hU hW => by
      have := a_pre (as := .ref b :: as) hK hS hR U hU hW
      simp only [List.map_cons, a_cv] at this
      rw [a_ad_k hR hb] at this
      exact this⟩
  have hws : a_ws x = Cond.code x.2.1 x.2.2.1 x.2.2.2.1 none :: lw_g := by unfold a_ws; rw [hret]
  have hrun : va_Run p l e R s m args below meth c H locs k1 k2 Rx.cells Rx.slots (F0 m pc A ((as.reverse ++ .ref b :: st).map (a_cv g))) (st.map (a_cv g)) (a_Q g Qx (Value.ref (aB g + b) :: as.map (a_cv g)).toArray) (a_A g) := by
    rcases hw with hw | ⟨host, hw⟩
    · exact va_runI (b := aB g + b) (As := as.map (a_cv g)) (maxL := x.2.2.2.1) (bytes := x.2.2.1) ⟨hF.1, hF.2.1, hF.2.2.2.1, hF.2.2.2.2.1, hts⟩ (hM l g)
        ⟨callB_of np hts (a_goodws x hc) hws rfl rfl (hts _ hi) (hts _ hw) hdd hok, hnm, hts _ hin⟩ hPre rfl (by rw [List.length_map]; exact hnp) hL.1 (by simp [List.map_append, List.map_reverse, a_cv, a_ad_k hR hb]) (by show 2 * 0 + _ ≤ 8; rw [a_cats]; omega) hd hf
    · exact va_runIN (b := aB g + b) (As := as.map (a_cv g)) (maxL := x.2.2.2.1) (bytes := x.2.2.1) (host := host) ⟨hF.1, hF.2.1, hF.2.2.2.1, hF.2.2.2.2.1, hts⟩ (hM l g)
        ⟨va_cnB np hts (a_goodws x hc) hws rfl rfl (hK.2.2.2.2.2.1 _ hw) (hts _ hi) hdd hok, hnm, hts _ hin⟩ hPre rfl (by rw [List.length_map]; exact hnp) hL.1 (by simp [List.map_append, List.map_reverse, a_cv, a_ad_k hR hb]) (by show 2 * 0 + _ ≤ 8; rw [a_cats]; omega) hd hf
  refine a_go hrun hS (fun q h => h) fun r n' mem' H1 locs1 hq hR1 hS1 => ?_
  have hk := k r n' mem' hq g hz p l e s m args below meth c H1 locs1 A hF hS1 hR1 hL
  have er : (r.toList ++ st).map (a_cv g) = (r.map (a_cv g)).toList ++ st.map (a_cv g) := by cases r <;> simp
  rw [er] at hk
  exact hk
theorem aE_obj {idx b : Nat} (hd : decode y.2.2.1 pc = .ok (.invokespecial idx, 3)) (hw : Cond.methodLink y.1 idx Lib.objectInit ∈ lw_g ∧ Cond.instanceMethod Lib.objectInit ∈ lw_g ∧ Cond.code Lib.objectInit ⟨#[0xb1]⟩ 1 none ∈ lw_g) (hok : 1 ≤ R.frames ∧ 20 ≤ R.locals) (hcat : (st.map fun v => v.category).sum ≤ 8) (k : aE z y R Q (pc + 3) ls st n mem k1 k2) : aE z y R Q pc ls (.ref b :: st) n mem k1 k2 := by
  intro g hz p l e s m args below meth c H locs A hF hS hR hL
  have hts := hF.2.2.2.2.2.1
  exact W.objInit hF.1 hF.2.1 hF.2.2.2.2.1 (hts _ hw.1) (hts _ hw.2.1) (hts _ hw.2.2) rfl (hL.1.trans hF.2.2.2.1.symm) rfl hd hok.1 (by show 2 * 0 + _ + 12 ≤ _; rw [a_cats]; omega) (k g hz p l e s m args below meth c H locs A hF hS hR hL)
end AE
end
