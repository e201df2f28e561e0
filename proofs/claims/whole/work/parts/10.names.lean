-- ===== PART A: goes FIRST, ahead of the names: the tables' words, and 'selects' of the private methods out of them =====
/-- a private method of a class that the tables say can be made, by its rows of tables_1 -/
def lw_okq (q : MethodName × Nat) : Prop := (q.1.cls ≠ "java/lang/invoke/MethodHandle" ∧ q.1.cls ≠ "java/lang/invoke/VarHandle") ∧ Cond.instantiable q.1.cls q.2 ∈ tables_1 ∧ Cond.privateMethod q.1 ∈ tables_1 ∧ Cond.instanceMethod q.1 ∈ tables_1
theorem lw_p0 : lw_okq (⟨"DarkLand$Reader", "split", "([II)V"⟩, 7) := ⟨⟨by decide +kernel, by decide +kernel⟩, List.mem_of_getElem? (i := 198) (by decide +kernel), List.mem_of_getElem? (i := 553) (by decide +kernel), List.mem_of_getElem? (i := 554) (by decide +kernel)⟩
theorem lw_p1 : lw_okq (⟨"DarkLand$Reader", "need", "(I)V"⟩, 7) := ⟨⟨by decide +kernel, by decide +kernel⟩, List.mem_of_getElem? (i := 198) (by decide +kernel), List.mem_of_getElem? (i := 647) (by decide +kernel), List.mem_of_getElem? (i := 648) (by decide +kernel)⟩
theorem lw_p2 : lw_okq (⟨"DarkLand$Reader", "part", "(II)V"⟩, 7) := ⟨⟨by decide +kernel, by decide +kernel⟩, List.mem_of_getElem? (i := 198) (by decide +kernel), List.mem_of_getElem? (i := 651) (by decide +kernel), List.mem_of_getElem? (i := 652) (by decide +kernel)⟩
theorem lw_p3 : lw_okq (⟨"DarkLand$Reader", "compared", "(I)V"⟩, 7) := ⟨⟨by decide +kernel, by decide +kernel⟩, List.mem_of_getElem? (i := 198) (by decide +kernel), List.mem_of_getElem? (i := 655) (by decide +kernel), List.mem_of_getElem? (i := 656) (by decide +kernel)⟩
theorem lw_p4 : lw_okq (⟨"DarkLand$Reader", "opens", "(I)Z"⟩, 7) := ⟨⟨by decide +kernel, by decide +kernel⟩, List.mem_of_getElem? (i := 198) (by decide +kernel), List.mem_of_getElem? (i := 659) (by decide +kernel), List.mem_of_getElem? (i := 660) (by decide +kernel)⟩
theorem lw_p5 : lw_okq (⟨"DarkLand$Reader", "put", "(I)V"⟩, 7) := ⟨⟨by decide +kernel, by decide +kernel⟩, List.mem_of_getElem? (i := 198) (by decide +kernel), List.mem_of_getElem? (i := 663) (by decide +kernel), List.mem_of_getElem? (i := 664) (by decide +kernel)⟩
theorem lw_p6 : lw_okq (⟨"DarkLand$Reader", "one", "(I)V"⟩, 7) := ⟨⟨by decide +kernel, by decide +kernel⟩, List.mem_of_getElem? (i := 198) (by decide +kernel), List.mem_of_getElem? (i := 667) (by decide +kernel), List.mem_of_getElem? (i := 668) (by decide +kernel)⟩
theorem lw_p7 : lw_okq (⟨"DarkLand$Land", "manned", "(I)Z"⟩, 16) := ⟨⟨by decide +kernel, by decide +kernel⟩, List.mem_of_getElem? (i := 257) (by decide +kernel), List.mem_of_getElem? (i := 771) (by decide +kernel), List.mem_of_getElem? (i := 772) (by decide +kernel)⟩
theorem lw_p8 : lw_okq (⟨"DarkLand$Land", "mayMeet", "(II)Z"⟩, 16) := ⟨⟨by decide +kernel, by decide +kernel⟩, List.mem_of_getElem? (i := 257) (by decide +kernel), List.mem_of_getElem? (i := 775) (by decide +kernel), List.mem_of_getElem? (i := 776) (by decide +kernel)⟩
theorem lw_p9 : lw_okq (⟨"DarkLand$Land", "powered", "(I)Z"⟩, 16) := ⟨⟨by decide +kernel, by decide +kernel⟩, List.mem_of_getElem? (i := 257) (by decide +kernel), List.mem_of_getElem? (i := 782) (by decide +kernel), List.mem_of_getElem? (i := 783) (by decide +kernel)⟩
theorem lw_p10 : lw_okq (⟨"DarkLand$Land", "evenSwing", "(II)V"⟩, 16) := ⟨⟨by decide +kernel, by decide +kernel⟩, List.mem_of_getElem? (i := 257) (by decide +kernel), List.mem_of_getElem? (i := 787) (by decide +kernel), List.mem_of_getElem? (i := 788) (by decide +kernel)⟩
theorem lw_p11 : lw_okq (⟨"DarkLand$Land", "weightOn", "(I)I"⟩, 16) := ⟨⟨by decide +kernel, by decide +kernel⟩, List.mem_of_getElem? (i := 257) (by decide +kernel), List.mem_of_getElem? (i := 791) (by decide +kernel), List.mem_of_getElem? (i := 792) (by decide +kernel)⟩
theorem lw_p12 : lw_okq (⟨"DarkLand$Land", "isOnIn", "(II)Z"⟩, 16) := ⟨⟨by decide +kernel, by decide +kernel⟩, List.mem_of_getElem? (i := 257) (by decide +kernel), List.mem_of_getElem? (i := 795) (by decide +kernel), List.mem_of_getElem? (i := 796) (by decide +kernel)⟩
theorem lw_p13 : lw_okq (⟨"DarkLand$Land", "mark", "()V"⟩, 16) := ⟨⟨by decide +kernel, by decide +kernel⟩, List.mem_of_getElem? (i := 257) (by decide +kernel), List.mem_of_getElem? (i := 799) (by decide +kernel), List.mem_of_getElem? (i := 800) (by decide +kernel)⟩
theorem lw_p14 : lw_okq (⟨"DarkLand$Land", "moveCrews", "()V"⟩, 16) := ⟨⟨by decide +kernel, by decide +kernel⟩, List.mem_of_getElem? (i := 257) (by decide +kernel), List.mem_of_getElem? (i := 836) (by decide +kernel), List.mem_of_getElem? (i := 837) (by decide +kernel)⟩
theorem lw_p15 : lw_okq (⟨"DarkLand$Land", "obey", "()V"⟩, 16) := ⟨⟨by decide +kernel, by decide +kernel⟩, List.mem_of_getElem? (i := 257) (by decide +kernel), List.mem_of_getElem? (i := 840) (by decide +kernel), List.mem_of_getElem? (i := 841) (by decide +kernel)⟩
def lw_privs_1 : List (MethodName × Nat) := [(⟨"DarkLand$Reader", "split", "([II)V"⟩, 7), (⟨"DarkLand$Reader", "need", "(I)V"⟩, 7), (⟨"DarkLand$Reader", "part", "(II)V"⟩, 7), (⟨"DarkLand$Reader", "compared", "(I)V"⟩, 7), (⟨"DarkLand$Reader", "opens", "(I)Z"⟩, 7), (⟨"DarkLand$Reader", "put", "(I)V"⟩, 7), (⟨"DarkLand$Reader", "one", "(I)V"⟩, 7), (⟨"DarkLand$Land", "manned", "(I)Z"⟩, 16), (⟨"DarkLand$Land", "mayMeet", "(II)Z"⟩, 16), (⟨"DarkLand$Land", "powered", "(I)Z"⟩, 16), (⟨"DarkLand$Land", "evenSwing", "(II)V"⟩, 16), (⟨"DarkLand$Land", "weightOn", "(I)I"⟩, 16), (⟨"DarkLand$Land", "isOnIn", "(II)Z"⟩, 16), (⟨"DarkLand$Land", "mark", "()V"⟩, 16), (⟨"DarkLand$Land", "moveCrews", "()V"⟩, 16), (⟨"DarkLand$Land", "obey", "()V"⟩, 16)]
theorem lw_r1 : ∀ q ∈ lw_privs_1, lw_okq q := List.forall_mem_cons.mpr ⟨lw_p0, List.forall_mem_cons.mpr ⟨lw_p1, List.forall_mem_cons.mpr ⟨lw_p2, List.forall_mem_cons.mpr ⟨lw_p3, List.forall_mem_cons.mpr ⟨lw_p4, List.forall_mem_cons.mpr ⟨lw_p5, List.forall_mem_cons.mpr ⟨lw_p6, List.forall_mem_cons.mpr ⟨lw_p7, List.forall_mem_cons.mpr ⟨lw_p8, List.forall_mem_cons.mpr ⟨lw_p9, List.forall_mem_cons.mpr ⟨lw_p10, List.forall_mem_cons.mpr ⟨lw_p11, List.forall_mem_cons.mpr ⟨lw_p12, List.forall_mem_cons.mpr ⟨lw_p13, List.forall_mem_cons.mpr ⟨lw_p14, List.forall_mem_cons.mpr ⟨lw_p15, fun _ h => absurd h List.not_mem_nil⟩⟩⟩⟩⟩⟩⟩⟩⟩⟩⟩⟩⟩⟩⟩⟩
theorem lw_p16 : lw_okq (⟨"DarkLand$Land", "warm", "()V"⟩, 16) := ⟨⟨by decide +kernel, by decide +kernel⟩, List.mem_of_getElem? (i := 257) (by decide +kernel), List.mem_of_getElem? (i := 870) (by decide +kernel), List.mem_of_getElem? (i := 871) (by decide +kernel)⟩
theorem lw_p17 : lw_okq (⟨"DarkLand$Land", "warmOne", "(I)Z"⟩, 16) := ⟨⟨by decide +kernel, by decide +kernel⟩, List.mem_of_getElem? (i := 257) (by decide +kernel), List.mem_of_getElem? (i := 874) (by decide +kernel), List.mem_of_getElem? (i := 875) (by decide +kernel)⟩
theorem lw_p18 : lw_okq (⟨"DarkLand$Land", "followAll", "()V"⟩, 16) := ⟨⟨by decide +kernel, by decide +kernel⟩, List.mem_of_getElem? (i := 257) (by decide +kernel), List.mem_of_getElem? (i := 879) (by decide +kernel), List.mem_of_getElem? (i := 880) (by decide +kernel)⟩
theorem lw_p19 : lw_okq (⟨"DarkLand$Land", "follow", "(I)V"⟩, 16) := ⟨⟨by decide +kernel, by decide +kernel⟩, List.mem_of_getElem? (i := 257) (by decide +kernel), List.mem_of_getElem? (i := 883) (by decide +kernel), List.mem_of_getElem? (i := 884) (by decide +kernel)⟩
theorem lw_p20 : lw_okq (⟨"DarkLand$Land", "demand", "(I)I"⟩, 16) := ⟨⟨by decide +kernel, by decide +kernel⟩, List.mem_of_getElem? (i := 257) (by decide +kernel), List.mem_of_getElem? (i := 887) (by decide +kernel), List.mem_of_getElem? (i := 888) (by decide +kernel)⟩
theorem lw_p21 : lw_okq (⟨"DarkLand$Loads", "isCold", "(I)Z"⟩, 6) := ⟨⟨by decide +kernel, by decide +kernel⟩, List.mem_of_getElem? (i := 329) (by decide +kernel), List.mem_of_getElem? (i := 895) (by decide +kernel), List.mem_of_getElem? (i := 896) (by decide +kernel)⟩
theorem lw_p22 : lw_okq (⟨"DarkLand$Land", "rampAll", "(II)I"⟩, 16) := ⟨⟨by decide +kernel, by decide +kernel⟩, List.mem_of_getElem? (i := 257) (by decide +kernel), List.mem_of_getElem? (i := 901) (by decide +kernel), List.mem_of_getElem? (i := 902) (by decide +kernel)⟩
theorem lw_p23 : lw_okq (⟨"DarkLand$Land", "chargeOf", "(I)I"⟩, 16) := ⟨⟨by decide +kernel, by decide +kernel⟩, List.mem_of_getElem? (i := 257) (by decide +kernel), List.mem_of_getElem? (i := 908) (by decide +kernel), List.mem_of_getElem? (i := 909) (by decide +kernel)⟩
theorem lw_p24 : lw_okq (⟨"DarkLand$Land", "tumble", "(II)V"⟩, 16) := ⟨⟨by decide +kernel, by decide +kernel⟩, List.mem_of_getElem? (i := 257) (by decide +kernel), List.mem_of_getElem? (i := 916) (by decide +kernel), List.mem_of_getElem? (i := 917) (by decide +kernel)⟩
theorem lw_p25 : lw_okq (⟨"DarkLand$Land", "serve", "()V"⟩, 16) := ⟨⟨by decide +kernel, by decide +kernel⟩, List.mem_of_getElem? (i := 257) (by decide +kernel), List.mem_of_getElem? (i := 920) (by decide +kernel), List.mem_of_getElem? (i := 921) (by decide +kernel)⟩
theorem lw_p26 : lw_okq (⟨"DarkLand$Planner", "extend", "(I)V"⟩, 13) := ⟨⟨by decide +kernel, by decide +kernel⟩, List.mem_of_getElem? (i := 422) (by decide +kernel), List.mem_of_getElem? (i := 1015) (by decide +kernel), List.mem_of_getElem? (i := 1016) (by decide +kernel)⟩
theorem lw_p27 : lw_okq (⟨"DarkLand$Planner", "isInRow", "(II)Z"⟩, 13) := ⟨⟨by decide +kernel, by decide +kernel⟩, List.mem_of_getElem? (i := 422) (by decide +kernel), List.mem_of_getElem? (i := 1019) (by decide +kernel), List.mem_of_getElem? (i := 1020) (by decide +kernel)⟩
theorem lw_p28 : lw_okq (⟨"DarkLand$Planner", "compare", "(II)V"⟩, 13) := ⟨⟨by decide +kernel, by decide +kernel⟩, List.mem_of_getElem? (i := 422) (by decide +kernel), List.mem_of_getElem? (i := 1045) (by decide +kernel), List.mem_of_getElem? (i := 1046) (by decide +kernel)⟩
theorem lw_p29 : lw_okq (⟨"DarkLandModel", "isNode", "(I)Z"⟩, 55) := ⟨⟨by decide +kernel, by decide +kernel⟩, List.mem_of_getElem? (i := 1117) (by decide +kernel), List.mem_of_getElem? (i := 1312) (by decide +kernel), List.mem_of_getElem? (i := 1313) (by decide +kernel)⟩
theorem lw_p30 : lw_okq (⟨"DarkLandModel", "isOf", "(II)Z"⟩, 55) := ⟨⟨by decide +kernel, by decide +kernel⟩, List.mem_of_getElem? (i := 1117) (by decide +kernel), List.mem_of_getElem? (i := 1358) (by decide +kernel), List.mem_of_getElem? (i := 1359) (by decide +kernel)⟩
theorem lw_p31 : lw_okq (⟨"DarkLandModel", "does", "(II)Z"⟩, 55) := ⟨⟨by decide +kernel, by decide +kernel⟩, List.mem_of_getElem? (i := 1117) (by decide +kernel), List.mem_of_getElem? (i := 1362) (by decide +kernel), List.mem_of_getElem? (i := 1363) (by decide +kernel)⟩
def lw_privs_2 : List (MethodName × Nat) := [(⟨"DarkLand$Land", "warm", "()V"⟩, 16), (⟨"DarkLand$Land", "warmOne", "(I)Z"⟩, 16), (⟨"DarkLand$Land", "followAll", "()V"⟩, 16), (⟨"DarkLand$Land", "follow", "(I)V"⟩, 16), (⟨"DarkLand$Land", "demand", "(I)I"⟩, 16), (⟨"DarkLand$Loads", "isCold", "(I)Z"⟩, 6), (⟨"DarkLand$Land", "rampAll", "(II)I"⟩, 16), (⟨"DarkLand$Land", "chargeOf", "(I)I"⟩, 16), (⟨"DarkLand$Land", "tumble", "(II)V"⟩, 16), (⟨"DarkLand$Land", "serve", "()V"⟩, 16), (⟨"DarkLand$Planner", "extend", "(I)V"⟩, 13), (⟨"DarkLand$Planner", "isInRow", "(II)Z"⟩, 13), (⟨"DarkLand$Planner", "compare", "(II)V"⟩, 13), (⟨"DarkLandModel", "isNode", "(I)Z"⟩, 55), (⟨"DarkLandModel", "isOf", "(II)Z"⟩, 55), (⟨"DarkLandModel", "does", "(II)Z"⟩, 55)]
theorem lw_r2 : ∀ q ∈ lw_privs_2, lw_okq q := List.forall_mem_cons.mpr ⟨lw_p16, List.forall_mem_cons.mpr ⟨lw_p17, List.forall_mem_cons.mpr ⟨lw_p18, List.forall_mem_cons.mpr ⟨lw_p19, List.forall_mem_cons.mpr ⟨lw_p20, List.forall_mem_cons.mpr ⟨lw_p21, List.forall_mem_cons.mpr ⟨lw_p22, List.forall_mem_cons.mpr ⟨lw_p23, List.forall_mem_cons.mpr ⟨lw_p24, List.forall_mem_cons.mpr ⟨lw_p25, List.forall_mem_cons.mpr ⟨lw_p26, List.forall_mem_cons.mpr ⟨lw_p27, List.forall_mem_cons.mpr ⟨lw_p28, List.forall_mem_cons.mpr ⟨lw_p29, List.forall_mem_cons.mpr ⟨lw_p30, List.forall_mem_cons.mpr ⟨lw_p31, fun _ h => absurd h List.not_mem_nil⟩⟩⟩⟩⟩⟩⟩⟩⟩⟩⟩⟩⟩⟩⟩⟩
theorem lw_p32 : lw_okq (⟨"DarkLandModel", "may", "(II)Z"⟩, 55) := ⟨⟨by decide +kernel, by decide +kernel⟩, List.mem_of_getElem? (i := 1117) (by decide +kernel), List.mem_of_getElem? (i := 1366) (by decide +kernel), List.mem_of_getElem? (i := 1367) (by decide +kernel)⟩
theorem lw_p33 : lw_okq (⟨"DarkLandModel", "mayClose", "(I)Z"⟩, 55) := ⟨⟨by decide +kernel, by decide +kernel⟩, List.mem_of_getElem? (i := 1117) (by decide +kernel), List.mem_of_getElem? (i := 1370) (by decide +kernel), List.mem_of_getElem? (i := 1371) (by decide +kernel)⟩
theorem lw_p34 : lw_okq (⟨"DarkLandModel", "isServed", "(I)Z"⟩, 55) := ⟨⟨by decide +kernel, by decide +kernel⟩, List.mem_of_getElem? (i := 1117) (by decide +kernel), List.mem_of_getElem? (i := 1374) (by decide +kernel), List.mem_of_getElem? (i := 1375) (by decide +kernel)⟩
theorem lw_p35 : lw_okq (⟨"DarkLandModel", "closes", "(I)V"⟩, 55) := ⟨⟨by decide +kernel, by decide +kernel⟩, List.mem_of_getElem? (i := 1117) (by decide +kernel), List.mem_of_getElem? (i := 1381) (by decide +kernel), List.mem_of_getElem? (i := 1382) (by decide +kernel)⟩
theorem lw_p36 : lw_okq (⟨"DarkLandModel", "weightsOf", "(I)I"⟩, 55) := ⟨⟨by decide +kernel, by decide +kernel⟩, List.mem_of_getElem? (i := 1117) (by decide +kernel), List.mem_of_getElem? (i := 1385) (by decide +kernel), List.mem_of_getElem? (i := 1386) (by decide +kernel)⟩
theorem lw_p37 : lw_okq (⟨"DarkLandModel", "goesOff", "(II)V"⟩, 55) := ⟨⟨by decide +kernel, by decide +kernel⟩, List.mem_of_getElem? (i := 1117) (by decide +kernel), List.mem_of_getElem? (i := 1389) (by decide +kernel), List.mem_of_getElem? (i := 1390) (by decide +kernel)⟩
theorem lw_p38 : lw_okq (⟨"DarkLandModel", "finds", "()V"⟩, 55) := ⟨⟨by decide +kernel, by decide +kernel⟩, List.mem_of_getElem? (i := 1117) (by decide +kernel), List.mem_of_getElem? (i := 1393) (by decide +kernel), List.mem_of_getElem? (i := 1394) (by decide +kernel)⟩
theorem lw_p39 : lw_okq (⟨"DarkLandModel", "minute", "()V"⟩, 55) := ⟨⟨by decide +kernel, by decide +kernel⟩, List.mem_of_getElem? (i := 1117) (by decide +kernel), List.mem_of_getElem? (i := 1409) (by decide +kernel), List.mem_of_getElem? (i := 1410) (by decide +kernel)⟩
theorem lw_p40 : lw_okq (⟨"DarkLandModel", "goCrews", "()V"⟩, 55) := ⟨⟨by decide +kernel, by decide +kernel⟩, List.mem_of_getElem? (i := 1117) (by decide +kernel), List.mem_of_getElem? (i := 1413) (by decide +kernel), List.mem_of_getElem? (i := 1414) (by decide +kernel)⟩
theorem lw_p41 : lw_okq (⟨"DarkLandModel", "tryOrders", "()V"⟩, 55) := ⟨⟨by decide +kernel, by decide +kernel⟩, List.mem_of_getElem? (i := 1117) (by decide +kernel), List.mem_of_getElem? (i := 1417) (by decide +kernel), List.mem_of_getElem? (i := 1418) (by decide +kernel)⟩
theorem lw_p42 : lw_okq (⟨"DarkLandModel", "worth", "(II)I"⟩, 55) := ⟨⟨by decide +kernel, by decide +kernel⟩, List.mem_of_getElem? (i := 1117) (by decide +kernel), List.mem_of_getElem? (i := 1421) (by decide +kernel), List.mem_of_getElem? (i := 1422) (by decide +kernel)⟩
theorem lw_p43 : lw_okq (⟨"DarkLandModel", "named", "(II)I"⟩, 55) := ⟨⟨by decide +kernel, by decide +kernel⟩, List.mem_of_getElem? (i := 1117) (by decide +kernel), List.mem_of_getElem? (i := 1426) (by decide +kernel), List.mem_of_getElem? (i := 1427) (by decide +kernel)⟩
theorem lw_p44 : lw_okq (⟨"DarkLandModel", "seen", "(III)I"⟩, 55) := ⟨⟨by decide +kernel, by decide +kernel⟩, List.mem_of_getElem? (i := 1117) (by decide +kernel), List.mem_of_getElem? (i := 1430) (by decide +kernel), List.mem_of_getElem? (i := 1431) (by decide +kernel)⟩
theorem lw_p45 : lw_okq (⟨"DarkLandModel", "was", "(III)I"⟩, 55) := ⟨⟨by decide +kernel, by decide +kernel⟩, List.mem_of_getElem? (i := 1117) (by decide +kernel), List.mem_of_getElem? (i := 1434) (by decide +kernel), List.mem_of_getElem? (i := 1435) (by decide +kernel)⟩
theorem lw_p46 : lw_okq (⟨"DarkLandModel", "warm", "()V"⟩, 55) := ⟨⟨by decide +kernel, by decide +kernel⟩, List.mem_of_getElem? (i := 1117) (by decide +kernel), List.mem_of_getElem? (i := 1441) (by decide +kernel), List.mem_of_getElem? (i := 1442) (by decide +kernel)⟩
theorem lw_p47 : lw_okq (⟨"DarkLandModel", "goesIsland", "(I)V"⟩, 55) := ⟨⟨by decide +kernel, by decide +kernel⟩, List.mem_of_getElem? (i := 1117) (by decide +kernel), List.mem_of_getElem? (i := 1445) (by decide +kernel), List.mem_of_getElem? (i := 1446) (by decide +kernel)⟩
def lw_privs_3 : List (MethodName × Nat) := [(⟨"DarkLandModel", "may", "(II)Z"⟩, 55), (⟨"DarkLandModel", "mayClose", "(I)Z"⟩, 55), (⟨"DarkLandModel", "isServed", "(I)Z"⟩, 55), (⟨"DarkLandModel", "closes", "(I)V"⟩, 55), (⟨"DarkLandModel", "weightsOf", "(I)I"⟩, 55), (⟨"DarkLandModel", "goesOff", "(II)V"⟩, 55), (⟨"DarkLandModel", "finds", "()V"⟩, 55), (⟨"DarkLandModel", "minute", "()V"⟩, 55), (⟨"DarkLandModel", "goCrews", "()V"⟩, 55), (⟨"DarkLandModel", "tryOrders", "()V"⟩, 55), (⟨"DarkLandModel", "worth", "(II)I"⟩, 55), (⟨"DarkLandModel", "named", "(II)I"⟩, 55), (⟨"DarkLandModel", "seen", "(III)I"⟩, 55), (⟨"DarkLandModel", "was", "(III)I"⟩, 55), (⟨"DarkLandModel", "warm", "()V"⟩, 55), (⟨"DarkLandModel", "goesIsland", "(I)V"⟩, 55)]
theorem lw_r3 : ∀ q ∈ lw_privs_3, lw_okq q := List.forall_mem_cons.mpr ⟨lw_p32, List.forall_mem_cons.mpr ⟨lw_p33, List.forall_mem_cons.mpr ⟨lw_p34, List.forall_mem_cons.mpr ⟨lw_p35, List.forall_mem_cons.mpr ⟨lw_p36, List.forall_mem_cons.mpr ⟨lw_p37, List.forall_mem_cons.mpr ⟨lw_p38, List.forall_mem_cons.mpr ⟨lw_p39, List.forall_mem_cons.mpr ⟨lw_p40, List.forall_mem_cons.mpr ⟨lw_p41, List.forall_mem_cons.mpr ⟨lw_p42, List.forall_mem_cons.mpr ⟨lw_p43, List.forall_mem_cons.mpr ⟨lw_p44, List.forall_mem_cons.mpr ⟨lw_p45, List.forall_mem_cons.mpr ⟨lw_p46, List.forall_mem_cons.mpr ⟨lw_p47, fun _ h => absurd h List.not_mem_nil⟩⟩⟩⟩⟩⟩⟩⟩⟩⟩⟩⟩⟩⟩⟩⟩
theorem lw_p48 : lw_okq (⟨"DarkLandModel", "demandOf", "(I)I"⟩, 55) := ⟨⟨by decide +kernel, by decide +kernel⟩, List.mem_of_getElem? (i := 1117) (by decide +kernel), List.mem_of_getElem? (i := 1449) (by decide +kernel), List.mem_of_getElem? (i := 1450) (by decide +kernel)⟩
theorem lw_p49 : lw_okq (⟨"DarkLandModel", "drawOf", "(I)I"⟩, 55) := ⟨⟨by decide +kernel, by decide +kernel⟩, List.mem_of_getElem? (i := 1117) (by decide +kernel), List.mem_of_getElem? (i := 1453) (by decide +kernel), List.mem_of_getElem? (i := 1454) (by decide +kernel)⟩
theorem lw_p50 : lw_okq (⟨"DarkLandModel", "isOnIn", "(II)Z"⟩, 55) := ⟨⟨by decide +kernel, by decide +kernel⟩, List.mem_of_getElem? (i := 1117) (by decide +kernel), List.mem_of_getElem? (i := 1457) (by decide +kernel), List.mem_of_getElem? (i := 1458) (by decide +kernel)⟩
theorem lw_p51 : lw_okq (⟨"DarkLandModel", "outOf", "(I)I"⟩, 55) := ⟨⟨by decide +kernel, by decide +kernel⟩, List.mem_of_getElem? (i := 1117) (by decide +kernel), List.mem_of_getElem? (i := 1461) (by decide +kernel), List.mem_of_getElem? (i := 1462) (by decide +kernel)⟩
theorem lw_p52 : lw_okq (⟨"DarkLandModel", "falls", "(II)V"⟩, 55) := ⟨⟨by decide +kernel, by decide +kernel⟩, List.mem_of_getElem? (i := 1117) (by decide +kernel), List.mem_of_getElem? (i := 1465) (by decide +kernel), List.mem_of_getElem? (i := 1466) (by decide +kernel)⟩
theorem lw_p53 : lw_okq (⟨"DarkLandModel", "serve", "()V"⟩, 55) := ⟨⟨by decide +kernel, by decide +kernel⟩, List.mem_of_getElem? (i := 1117) (by decide +kernel), List.mem_of_getElem? (i := 1469) (by decide +kernel), List.mem_of_getElem? (i := 1470) (by decide +kernel)⟩
theorem lw_p54 : lw_okq (⟨"DarkLandModel", "keeps", "()V"⟩, 55) := ⟨⟨by decide +kernel, by decide +kernel⟩, List.mem_of_getElem? (i := 1117) (by decide +kernel), List.mem_of_getElem? (i := 1473) (by decide +kernel), List.mem_of_getElem? (i := 1474) (by decide +kernel)⟩
theorem lw_p55 : lw_okq (⟨"DarkLandModel", "isText", "(I)Z"⟩, 55) := ⟨⟨by decide +kernel, by decide +kernel⟩, List.mem_of_getElem? (i := 1117) (by decide +kernel), List.mem_of_getElem? (i := 1520) (by decide +kernel), List.mem_of_getElem? (i := 1521) (by decide +kernel)⟩
theorem lw_p56 : lw_okq (⟨"DarkLandModel", "lays", "(Z)V"⟩, 55) := ⟨⟨by decide +kernel, by decide +kernel⟩, List.mem_of_getElem? (i := 1117) (by decide +kernel), List.mem_of_getElem? (i := 1532) (by decide +kernel), List.mem_of_getElem? (i := 1533) (by decide +kernel)⟩
theorem lw_p57 : lw_okq (⟨"DarkLandModel", "worthNow", "()I"⟩, 55) := ⟨⟨by decide +kernel, by decide +kernel⟩, List.mem_of_getElem? (i := 1117) (by decide +kernel), List.mem_of_getElem? (i := 1536) (by decide +kernel), List.mem_of_getElem? (i := 1537) (by decide +kernel)⟩
theorem lw_p58 : lw_okq (⟨"DarkLandModel", "isPlan", "(III)Z"⟩, 55) := ⟨⟨by decide +kernel, by decide +kernel⟩, List.mem_of_getElem? (i := 1117) (by decide +kernel), List.mem_of_getElem? (i := 1544) (by decide +kernel), List.mem_of_getElem? (i := 1545) (by decide +kernel)⟩
theorem lw_p59 : lw_okq (⟨"DarkLandModel", "areUnlike", "(I)Z"⟩, 55) := ⟨⟨by decide +kernel, by decide +kernel⟩, List.mem_of_getElem? (i := 1117) (by decide +kernel), List.mem_of_getElem? (i := 1548) (by decide +kernel), List.mem_of_getElem? (i := 1549) (by decide +kernel)⟩
theorem lw_p60 : lw_okq (⟨"DarkLandModel", "growsBy", "(IIII)I"⟩, 55) := ⟨⟨by decide +kernel, by decide +kernel⟩, List.mem_of_getElem? (i := 1117) (by decide +kernel), List.mem_of_getElem? (i := 1552) (by decide +kernel), List.mem_of_getElem? (i := 1553) (by decide +kernel)⟩
theorem lw_p61 : lw_okq (⟨"DarkLandModel", "next", "()V"⟩, 55) := ⟨⟨by decide +kernel, by decide +kernel⟩, List.mem_of_getElem? (i := 1117) (by decide +kernel), List.mem_of_getElem? (i := 1569) (by decide +kernel), List.mem_of_getElem? (i := 1570) (by decide +kernel)⟩
theorem lw_p62 : lw_okq (⟨"DarkLandModel", "letters", "()J"⟩, 55) := ⟨⟨by decide +kernel, by decide +kernel⟩, List.mem_of_getElem? (i := 1117) (by decide +kernel), List.mem_of_getElem? (i := 1573) (by decide +kernel), List.mem_of_getElem? (i := 1574) (by decide +kernel)⟩
theorem lw_p63 : lw_okq (⟨"DarkLandModel", "eRead", "()Z"⟩, 55) := ⟨⟨by decide +kernel, by decide +kernel⟩, List.mem_of_getElem? (i := 1117) (by decide +kernel), List.mem_of_getElem? (i := 1577) (by decide +kernel), List.mem_of_getElem? (i := 1578) (by decide +kernel)⟩
def lw_privs_4 : List (MethodName × Nat) := [(⟨"DarkLandModel", "demandOf", "(I)I"⟩, 55), (⟨"DarkLandModel", "drawOf", "(I)I"⟩, 55), (⟨"DarkLandModel", "isOnIn", "(II)Z"⟩, 55), (⟨"DarkLandModel", "outOf", "(I)I"⟩, 55), (⟨"DarkLandModel", "falls", "(II)V"⟩, 55), (⟨"DarkLandModel", "serve", "()V"⟩, 55), (⟨"DarkLandModel", "keeps", "()V"⟩, 55), (⟨"DarkLandModel", "isText", "(I)Z"⟩, 55), (⟨"DarkLandModel", "lays", "(Z)V"⟩, 55), (⟨"DarkLandModel", "worthNow", "()I"⟩, 55), (⟨"DarkLandModel", "isPlan", "(III)Z"⟩, 55), (⟨"DarkLandModel", "areUnlike", "(I)Z"⟩, 55), (⟨"DarkLandModel", "growsBy", "(IIII)I"⟩, 55), (⟨"DarkLandModel", "next", "()V"⟩, 55), (⟨"DarkLandModel", "letters", "()J"⟩, 55), (⟨"DarkLandModel", "eRead", "()Z"⟩, 55)]
theorem lw_r4 : ∀ q ∈ lw_privs_4, lw_okq q := List.forall_mem_cons.mpr ⟨lw_p48, List.forall_mem_cons.mpr ⟨lw_p49, List.forall_mem_cons.mpr ⟨lw_p50, List.forall_mem_cons.mpr ⟨lw_p51, List.forall_mem_cons.mpr ⟨lw_p52, List.forall_mem_cons.mpr ⟨lw_p53, List.forall_mem_cons.mpr ⟨lw_p54, List.forall_mem_cons.mpr ⟨lw_p55, List.forall_mem_cons.mpr ⟨lw_p56, List.forall_mem_cons.mpr ⟨lw_p57, List.forall_mem_cons.mpr ⟨lw_p58, List.forall_mem_cons.mpr ⟨lw_p59, List.forall_mem_cons.mpr ⟨lw_p60, List.forall_mem_cons.mpr ⟨lw_p61, List.forall_mem_cons.mpr ⟨lw_p62, List.forall_mem_cons.mpr ⟨lw_p63, fun _ h => absurd h List.not_mem_nil⟩⟩⟩⟩⟩⟩⟩⟩⟩⟩⟩⟩⟩⟩⟩⟩
theorem lw_p64 : lw_okq (⟨"DarkLandModel", "puts", "(I)V"⟩, 55) := ⟨⟨by decide +kernel, by decide +kernel⟩, List.mem_of_getElem? (i := 1117) (by decide +kernel), List.mem_of_getElem? (i := 1581) (by decide +kernel), List.mem_of_getElem? (i := 1582) (by decide +kernel)⟩
theorem lw_p65 : lw_okq (⟨"DarkLandModel", "unwinds", "(I)V"⟩, 55) := ⟨⟨by decide +kernel, by decide +kernel⟩, List.mem_of_getElem? (i := 1117) (by decide +kernel), List.mem_of_getElem? (i := 1585) (by decide +kernel), List.mem_of_getElem? (i := 1586) (by decide +kernel)⟩
theorem lw_p66 : lw_okq (⟨"DarkLandModel", "opensOne", "(I)Z"⟩, 55) := ⟨⟨by decide +kernel, by decide +kernel⟩, List.mem_of_getElem? (i := 1117) (by decide +kernel), List.mem_of_getElem? (i := 1592) (by decide +kernel), List.mem_of_getElem? (i := 1593) (by decide +kernel)⟩
theorem lw_p67 : lw_okq (⟨"DarkLandModel", "holds", "(I)V"⟩, 55) := ⟨⟨by decide +kernel, by decide +kernel⟩, List.mem_of_getElem? (i := 1117) (by decide +kernel), List.mem_of_getElem? (i := 1596) (by decide +kernel), List.mem_of_getElem? (i := 1597) (by decide +kernel)⟩
theorem lw_p68 : lw_okq (⟨"DarkLandModel", "signOf", "()I"⟩, 55) := ⟨⟨by decide +kernel, by decide +kernel⟩, List.mem_of_getElem? (i := 1117) (by decide +kernel), List.mem_of_getElem? (i := 1600) (by decide +kernel), List.mem_of_getElem? (i := 1601) (by decide +kernel)⟩
theorem lw_p69 : lw_okq (⟨"DarkLandModel", "between", "(I)Z"⟩, 55) := ⟨⟨by decide +kernel, by decide +kernel⟩, List.mem_of_getElem? (i := 1117) (by decide +kernel), List.mem_of_getElem? (i := 1604) (by decide +kernel), List.mem_of_getElem? (i := 1605) (by decide +kernel)⟩
def lw_privs_5 : List (MethodName × Nat) := [(⟨"DarkLandModel", "puts", "(I)V"⟩, 55), (⟨"DarkLandModel", "unwinds", "(I)V"⟩, 55), (⟨"DarkLandModel", "opensOne", "(I)Z"⟩, 55), (⟨"DarkLandModel", "holds", "(I)V"⟩, 55), (⟨"DarkLandModel", "signOf", "()I"⟩, 55), (⟨"DarkLandModel", "between", "(I)Z"⟩, 55)]
theorem lw_r5 : ∀ q ∈ lw_privs_5, lw_okq q := List.forall_mem_cons.mpr ⟨lw_p64, List.forall_mem_cons.mpr ⟨lw_p65, List.forall_mem_cons.mpr ⟨lw_p66, List.forall_mem_cons.mpr ⟨lw_p67, List.forall_mem_cons.mpr ⟨lw_p68, List.forall_mem_cons.mpr ⟨lw_p69, fun _ h => absurd h List.not_mem_nil⟩⟩⟩⟩⟩⟩
def lw_privs : List (MethodName × Nat) := lw_privs_1 ++ (lw_privs_2 ++ (lw_privs_3 ++ (lw_privs_4 ++ (lw_privs_5))))
def lw_tbl : List Cond := k2_sels lw_privs ++ tables_1
theorem lw_privs_ok : ∀ q ∈ lw_privs, lw_okq q := by
  show ∀ q ∈ lw_privs_1 ++ (lw_privs_2 ++ (lw_privs_3 ++ (lw_privs_4 ++ (lw_privs_5)))), lw_okq q
  exact List.forall_mem_append.mpr ⟨lw_r1, List.forall_mem_append.mpr ⟨lw_r2, List.forall_mem_append.mpr ⟨lw_r3, List.forall_mem_append.mpr ⟨lw_r4, lw_r5⟩⟩⟩⟩
-- ===== end of PART A; then your names; then what follows =====
def RX0 : String := "DarkLand$Facts"
def TX0 : u_T := fun k => match k with
  | 0 => ("DarkLand$Facts", "nodes", "I", false)
  | 1 => ("DarkLand$Facts", "lines", "I", false)
  | 2 => ("DarkLand$Facts", "plants", "I", false)
  | 3 => ("DarkLand$Facts", "loads", "I", false)
  | 4 => ("DarkLand$Facts", "crews", "I", false)
  | 5 => ("DarkLand$Facts", "nodeX", "[I", true)
  | 6 => ("DarkLand$Facts", "lineA", "[I", true)
  | 7 => ("DarkLand$Facts", "lineB", "[I", true)
  | 8 => ("DarkLand$Facts", "lineCharge", "[I", true)
  | 9 => ("DarkLand$Facts", "lineManual", "[Z", true)
  | 10 => ("DarkLand$Facts", "plantKind", "[I", true)
  | 11 => ("DarkLand$Facts", "plantNode", "[I", true)
  | 12 => ("DarkLand$Facts", "plantMost", "[I", true)
  | 13 => ("DarkLand$Facts", "plantWeight", "[I", true)
  | 14 => ("DarkLand$Facts", "loadNode", "[I", true)
  | 15 => ("DarkLand$Facts", "loadDraw", "[I", true)
  | _ => ("DarkLand$Facts", "loadRank", "[I", true)
def tyX0 : Nat → FieldType := fun k => match k with
  | 0 => .int
  | 1 => .int
  | 2 => .int
  | 3 => .int
  | 4 => .int
  | 5 => .array .int
  | 6 => .array .int
  | 7 => .array .int
  | 8 => .array .int
  | 9 => .array .boolean
  | 10 => .array .int
  | 11 => .array .int
  | 12 => .array .int
  | 13 => .array .int
  | 14 => .array .int
  | 15 => .array .int
  | _ => .array .int
theorem nmX0 : ∀ a, a < 17 → ∀ b, b < 17 → a ≠ b → (TX0 a).2.1 ≠ (TX0 b).2.1 := by decide +kernel
theorem tyX0_ok : ∀ k, k < 17 → parseFieldDescriptor (TX0 k).2.2.1 = some (tyX0 k) := by decide +kernel
def RX1 : String := "DarkLand$Kind"
def TX1 : u_T := fun k => match k with
  | _ => ("", "", "", false)
def tyX1 : Nat → FieldType := fun k => match k with
  | _ => .int
theorem nmX1 : ∀ a, a < 0 → ∀ b, b < 0 → a ≠ b → (TX1 a).2.1 ≠ (TX1 b).2.1 := by decide +kernel
theorem tyX1_ok : ∀ k, k < 0 → parseFieldDescriptor (TX1 k).2.2.1 = some (tyX1 k) := by decide +kernel
def RX2 : String := "DarkLand$Land"
def TX2 : u_T := fun k => match k with
  | 0 => ("DarkLand$Land", "facts", "LDarkLand$Facts;", true)
  | 1 => ("DarkLand$Land", "rooms", "LDarkLand$Rooms;", true)
  | 2 => ("DarkLand$Land", "texts", "LDarkLand$Texts;", true)
  | 3 => ("DarkLand$Land", "nodes", "LDarkLand$Nodes;", true)
  | 4 => ("DarkLand$Land", "plants", "LDarkLand$Plants;", true)
  | 5 => ("DarkLand$Land", "loads", "LDarkLand$Loads;", true)
  | 6 => ("DarkLand$Land", "crewAt", "[I", true)
  | 7 => ("DarkLand$Land", "crewTo", "[I", true)
  | 8 => ("DarkLand$Land", "crewLeft", "[I", true)
  | 9 => ("DarkLand$Land", "closed", "[Z", true)
  | 10 => ("DarkLand$Land", "done", "[Z", true)
  | 11 => ("DarkLand$Land", "fallMinute", "[I", true)
  | 12 => ("DarkLand$Land", "fallNode", "[I", true)
  | 13 => ("DarkLand$Land", "fallWhy", "[I", true)
  | 14 => ("DarkLand$Land", "minute", "I", false)
  | _ => ("DarkLand$Land", "falls", "I", false)
def tyX2 : Nat → FieldType := fun k => match k with
  | 0 => .object "DarkLand$Facts"
  | 1 => .object "DarkLand$Rooms"
  | 2 => .object "DarkLand$Texts"
  | 3 => .object "DarkLand$Nodes"
  | 4 => .object "DarkLand$Plants"
  | 5 => .object "DarkLand$Loads"
  | 6 => .array .int
  | 7 => .array .int
  | 8 => .array .int
  | 9 => .array .boolean
  | 10 => .array .boolean
  | 11 => .array .int
  | 12 => .array .int
  | 13 => .array .int
  | 14 => .int
  | _ => .int
theorem nmX2 : ∀ a, a < 16 → ∀ b, b < 16 → a ≠ b → (TX2 a).2.1 ≠ (TX2 b).2.1 := by decide +kernel
theorem tyX2_ok : ∀ k, k < 16 → parseFieldDescriptor (TX2 k).2.2.1 = some (tyX2 k) := by decide +kernel
def RX3 : String := "DarkLand$Loads"
def TX3 : u_T := fun k => match k with
  | 0 => ("DarkLand$Loads", "on", "[Z", true)
  | 1 => ("DarkLand$Loads", "litFor", "[I", true)
  | 2 => ("DarkLand$Loads", "served", "[I", true)
  | 3 => ("DarkLand$Loads", "dark", "[I", true)
  | 4 => ("DarkLand$Loads", "darkFor", "[I", true)
  | _ => ("DarkLand$Loads", "cold", "[Z", true)
def tyX3 : Nat → FieldType := fun k => match k with
  | 0 => .array .boolean
  | 1 => .array .int
  | 2 => .array .int
  | 3 => .array .int
  | 4 => .array .int
  | _ => .array .boolean
theorem nmX3 : ∀ a, a < 6 → ∀ b, b < 6 → a ≠ b → (TX3 a).2.1 ≠ (TX3 b).2.1 := by decide +kernel
theorem tyX3_ok : ∀ k, k < 6 → parseFieldDescriptor (TX3 k).2.2.1 = some (tyX3 k) := by decide +kernel
def RX4 : String := "DarkLand$Nodes"
def TX4 : u_T := fun k => match k with
  | 0 => ("DarkLand$Nodes", "island", "[I", true)
  | 1 => ("DarkLand$Nodes", "lit", "[Z", true)
  | 2 => ("DarkLand$Nodes", "swing", "[I", true)
  | 3 => ("DarkLand$Nodes", "volts", "[I", true)
  | 4 => ("DarkLand$Nodes", "spare", "[I", true)
  | 5 => ("DarkLand$Nodes", "held", "[I", true)
  | _ => ("DarkLand$Nodes", "kept", "[I", true)
def tyX4 : Nat → FieldType := fun k => match k with
  | 0 => .array .int
  | 1 => .array .boolean
  | 2 => .array .int
  | 3 => .array .int
  | 4 => .array .int
  | 5 => .array .int
  | _ => .array .int
theorem nmX4 : ∀ a, a < 7 → ∀ b, b < 7 → a ≠ b → (TX4 a).2.1 ≠ (TX4 b).2.1 := by decide +kernel
theorem tyX4_ok : ∀ k, k < 7 → parseFieldDescriptor (TX4 k).2.2.1 = some (tyX4 k) := by decide +kernel
def RX5 : String := "DarkLand$Planner"
def TX5 : u_T := fun k => match k with
  | 0 => ("DarkLand$Planner", "now", "LDarkLand$Land;", true)
  | 1 => ("DarkLand$Planner", "ahead", "[LDarkLand$Land;", true)
  | 2 => ("DarkLand$Planner", "then", "LDarkLand$Land;", true)
  | 3 => ("DarkLand$Planner", "deeds", "[I", true)
  | 4 => ("DarkLand$Planner", "whats", "[I", true)
  | 5 => ("DarkLand$Planner", "choices", "I", false)
  | 6 => ("DarkLand$Planner", "gap", "I", false)
  | 7 => ("DarkLand$Planner", "minutes", "I", false)
  | 8 => ("DarkLand$Planner", "worthNow", "I", false)
  | 9 => ("DarkLand$Planner", "row", "[I", true)
  | 10 => ("DarkLand$Planner", "best", "[I", true)
  | 11 => ("DarkLand$Planner", "bestSize", "I", false)
  | _ => ("DarkLand$Planner", "bestGrowth", "I", false)
def tyX5 : Nat → FieldType := fun k => match k with
  | 0 => .object "DarkLand$Land"
  | 1 => .array (.object "DarkLand$Land")
  | 2 => .object "DarkLand$Land"
  | 3 => .array .int
  | 4 => .array .int
  | 5 => .int
  | 6 => .int
  | 7 => .int
  | 8 => .int
  | 9 => .array .int
  | 10 => .array .int
  | 11 => .int
  | _ => .int
theorem nmX5 : ∀ a, a < 13 → ∀ b, b < 13 → a ≠ b → (TX5 a).2.1 ≠ (TX5 b).2.1 := by decide +kernel
theorem tyX5_ok : ∀ k, k < 13 → parseFieldDescriptor (TX5 k).2.2.1 = some (tyX5 k) := by decide +kernel
def RX6 : String := "DarkLand$Plants"
def TX6 : u_T := fun k => match k with
  | 0 => ("DarkLand$Plants", "state", "[I", true)
  | 1 => ("DarkLand$Plants", "out", "[I", true)
  | 2 => ("DarkLand$Plants", "warmed", "[I", true)
  | _ => ("DarkLand$Plants", "fell", "[I", true)
def tyX6 : Nat → FieldType := fun k => match k with
  | 0 => .array .int
  | 1 => .array .int
  | 2 => .array .int
  | _ => .array .int
theorem nmX6 : ∀ a, a < 4 → ∀ b, b < 4 → a ≠ b → (TX6 a).2.1 ≠ (TX6 b).2.1 := by decide +kernel
theorem tyX6_ok : ∀ k, k < 4 → parseFieldDescriptor (TX6 k).2.2.1 = some (tyX6 k) := by decide +kernel
def RX7 : String := "DarkLand$Reader"
def TX7 : u_T := fun k => match k with
  | 0 => ("DarkLand$Reader", "token", "[I", true)
  | 1 => ("DarkLand$Reader", "place", "[I", true)
  | 2 => ("DarkLand$Reader", "tokens", "I", false)
  | 3 => ("DarkLand$Reader", "at", "I", false)
  | 4 => ("DarkLand$Reader", "wrong", "Z", false)
  | 5 => ("DarkLand$Reader", "code", "[I", true)
  | _ => ("DarkLand$Reader", "size", "I", false)
def tyX7 : Nat → FieldType := fun k => match k with
  | 0 => .array .int
  | 1 => .array .int
  | 2 => .int
  | 3 => .int
  | 4 => .boolean
  | 5 => .array .int
  | _ => .int
theorem nmX7 : ∀ a, a < 7 → ∀ b, b < 7 → a ≠ b → (TX7 a).2.1 ≠ (TX7 b).2.1 := by decide +kernel
theorem tyX7_ok : ∀ k, k < 7 → parseFieldDescriptor (TX7 k).2.2.1 = some (tyX7 k) := by decide +kernel
def RX8 : String := "DarkLand$Rooms"
def TX8 : u_T := fun k => match k with
  | 0 => ("DarkLand$Rooms", "rooms", "I", false)
  | 1 => ("DarkLand$Rooms", "signs", "I", false)
  | 2 => ("DarkLand$Rooms", "orders", "I", false)
  | 3 => ("DarkLand$Rooms", "roomNode", "[I", true)
  | 4 => ("DarkLand$Rooms", "roomDelay", "[I", true)
  | 5 => ("DarkLand$Rooms", "signRoom", "[I", true)
  | 6 => ("DarkLand$Rooms", "signMinute", "[I", true)
  | 7 => ("DarkLand$Rooms", "signWhat", "[I", true)
  | 8 => ("DarkLand$Rooms", "signValue", "[I", true)
  | 9 => ("DarkLand$Rooms", "signMended", "[Z", true)
  | 10 => ("DarkLand$Rooms", "orderRoom", "[I", true)
  | 11 => ("DarkLand$Rooms", "orderText", "[I", true)
  | 12 => ("DarkLand$Rooms", "orderDeed", "[I", true)
  | _ => ("DarkLand$Rooms", "orderWhat", "[I", true)
def tyX8 : Nat → FieldType := fun k => match k with
  | 0 => .int
  | 1 => .int
  | 2 => .int
  | 3 => .array .int
  | 4 => .array .int
  | 5 => .array .int
  | 6 => .array .int
  | 7 => .array .int
  | 8 => .array .int
  | 9 => .array .boolean
  | 10 => .array .int
  | 11 => .array .int
  | 12 => .array .int
  | _ => .array .int
theorem nmX8 : ∀ a, a < 14 → ∀ b, b < 14 → a ≠ b → (TX8 a).2.1 ≠ (TX8 b).2.1 := by decide +kernel
theorem tyX8_ok : ∀ k, k < 14 → parseFieldDescriptor (TX8 k).2.2.1 = some (tyX8 k) := by decide +kernel
def RX9 : String := "DarkLand$Sheet"
def TX9 : u_T := fun k => match k with
  | 0 => ("DarkLand$Sheet", "sort", "I", false)
  | 1 => ("DarkLand$Sheet", "size", "I", false)
  | _ => ("DarkLand$Sheet", "row", "[I", true)
def tyX9 : Nat → FieldType := fun k => match k with
  | 0 => .int
  | 1 => .int
  | _ => .array .int
theorem nmX9 : ∀ a, a < 3 → ∀ b, b < 3 → a ≠ b → (TX9 a).2.1 ≠ (TX9 b).2.1 := by decide +kernel
theorem tyX9_ok : ∀ k, k < 3 → parseFieldDescriptor (TX9 k).2.2.1 = some (tyX9 k) := by decide +kernel
def RX10 : String := "DarkLand$Texts"
def TX10 : u_T := fun k => match k with
  | 0 => ("DarkLand$Texts", "tape", "[I", true)
  | 1 => ("DarkLand$Texts", "fed", "I", false)
  | 2 => ("DarkLand$Texts", "texts", "I", false)
  | 3 => ("DarkLand$Texts", "names", "[I", true)
  | 4 => ("DarkLand$Texts", "code", "[[I", true)
  | 5 => ("DarkLand$Texts", "size", "[I", true)
  | 6 => ("DarkLand$Texts", "stack", "[I", true)
  | _ => ("DarkLand$Texts", "reader", "LDarkLand$Reader;", true)
def tyX10 : Nat → FieldType := fun k => match k with
  | 0 => .array .int
  | 1 => .int
  | 2 => .int
  | 3 => .array .int
  | 4 => .array (.array .int)
  | 5 => .array .int
  | 6 => .array .int
  | _ => .object "DarkLand$Reader"
theorem nmX10 : ∀ a, a < 8 → ∀ b, b < 8 → a ≠ b → (TX10 a).2.1 ≠ (TX10 b).2.1 := by decide +kernel
theorem tyX10_ok : ∀ k, k < 8 → parseFieldDescriptor (TX10 k).2.2.1 = some (tyX10 k) := by decide +kernel
def RX11 : String := "DarkLand"
def TX11 : u_T := fun k => match k with
  | 0 => ("DarkLand", "facts", "LDarkLand$Facts;", true)
  | 1 => ("DarkLand", "rooms", "LDarkLand$Rooms;", true)
  | 2 => ("DarkLand", "texts", "LDarkLand$Texts;", true)
  | 3 => ("DarkLand", "land", "LDarkLand$Land;", true)
  | 4 => ("DarkLand", "planner", "LDarkLand$Planner;", true)
  | _ => ("DarkLand", "sheets", "[LDarkLand$Sheet;", true)
def tyX11 : Nat → FieldType := fun k => match k with
  | 0 => .object "DarkLand$Facts"
  | 1 => .object "DarkLand$Rooms"
  | 2 => .object "DarkLand$Texts"
  | 3 => .object "DarkLand$Land"
  | 4 => .object "DarkLand$Planner"
  | _ => .array (.object "DarkLand$Sheet")
theorem nmX11 : ∀ a, a < 6 → ∀ b, b < 6 → a ≠ b → (TX11 a).2.1 ≠ (TX11 b).2.1 := by decide +kernel
theorem tyX11_ok : ∀ k, k < 6 → parseFieldDescriptor (TX11 k).2.2.1 = some (tyX11 k) := by decide +kernel
def RX12 : String := "DarkLandModel"
def TX12 : u_T := fun k => match k with
  | 0 => ("DarkLandModel", "p", "[I", true)
  | 1 => ("DarkLandModel", "nodes", "I", false)
  | 2 => ("DarkLandModel", "nodeX", "[I", true)
  | 3 => ("DarkLandModel", "lines", "I", false)
  | 4 => ("DarkLandModel", "lineA", "[I", true)
  | 5 => ("DarkLandModel", "lineB", "[I", true)
  | 6 => ("DarkLandModel", "charge", "[I", true)
  | 7 => ("DarkLandModel", "manual", "[I", true)
  | 8 => ("DarkLandModel", "plants", "I", false)
  | 9 => ("DarkLandModel", "kind", "[I", true)
  | 10 => ("DarkLandModel", "plantNode", "[I", true)
  | 11 => ("DarkLandModel", "most", "[I", true)
  | 12 => ("DarkLandModel", "weight", "[I", true)
  | 13 => ("DarkLandModel", "loads", "I", false)
  | 14 => ("DarkLandModel", "loadNode", "[I", true)
  | 15 => ("DarkLandModel", "draw", "[I", true)
  | 16 => ("DarkLandModel", "rank", "[I", true)
  | 17 => ("DarkLandModel", "crews", "I", false)
  | 18 => ("DarkLandModel", "rooms", "I", false)
  | 19 => ("DarkLandModel", "roomNode", "[I", true)
  | 20 => ("DarkLandModel", "delay", "[I", true)
  | 21 => ("DarkLandModel", "orders", "I", false)
  | 22 => ("DarkLandModel", "orderRoom", "[I", true)
  | 23 => ("DarkLandModel", "orderText", "[I", true)
  | 24 => ("DarkLandModel", "orderDeed", "[I", true)
  | 25 => ("DarkLandModel", "orderOf", "[I", true)
  | 26 => ("DarkLandModel", "signs", "I", false)
  | 27 => ("DarkLandModel", "signRoom", "[I", true)
  | 28 => ("DarkLandModel", "signMinute", "[I", true)
  | 29 => ("DarkLandModel", "signWhat", "[I", true)
  | 30 => ("DarkLandModel", "signValue", "[I", true)
  | 31 => ("DarkLandModel", "isMended", "[Z", true)
  | 32 => ("DarkLandModel", "planMany", "I", false)
  | 33 => ("DarkLandModel", "planRow", "[I", true)
  | 34 => ("DarkLandModel", "tape", "[I", true)
  | 35 => ("DarkLandModel", "taped", "I", false)
  | 36 => ("DarkLandModel", "texts", "I", false)
  | 37 => ("DarkLandModel", "codes", "[I", true)
  | 38 => ("DarkLandModel", "starts", "[I", true)
  | 39 => ("DarkLandModel", "first", "[I", true)
  | 40 => ("DarkLandModel", "sheetSort", "[I", true)
  | 41 => ("DarkLandModel", "sheetSize", "[I", true)
  | 42 => ("DarkLandModel", "cells", "[I", true)
  | 43 => ("DarkLandModel", "kept", "[I", true)
  | 44 => ("DarkLandModel", "tried", "[I", true)
  | 45 => ("DarkLandModel", "at", "I", false)
  | 46 => ("DarkLandModel", "begun", "I", false)
  | 47 => ("DarkLandModel", "token", "I", false)
  | 48 => ("DarkLandModel", "value", "I", false)
  | 49 => ("DarkLandModel", "words", "[J", true)
  | 50 => ("DarkLandModel", "held", "[I", true)
  | 51 => ("DarkLandModel", "heldMany", "I", false)
  | 52 => ("DarkLandModel", "opens", "I", false)
  | 53 => ("DarkLandModel", "out", "I", false)
  | _ => ("DarkLandModel", "stack", "[I", true)
def tyX12 : Nat → FieldType := fun k => match k with
  | 0 => .array .int
  | 1 => .int
  | 2 => .array .int
  | 3 => .int
  | 4 => .array .int
  | 5 => .array .int
  | 6 => .array .int
  | 7 => .array .int
  | 8 => .int
  | 9 => .array .int
  | 10 => .array .int
  | 11 => .array .int
  | 12 => .array .int
  | 13 => .int
  | 14 => .array .int
  | 15 => .array .int
  | 16 => .array .int
  | 17 => .int
  | 18 => .int
  | 19 => .array .int
  | 20 => .array .int
  | 21 => .int
  | 22 => .array .int
  | 23 => .array .int
  | 24 => .array .int
  | 25 => .array .int
  | 26 => .int
  | 27 => .array .int
  | 28 => .array .int
  | 29 => .array .int
  | 30 => .array .int
  | 31 => .array .boolean
  | 32 => .int
  | 33 => .array .int
  | 34 => .array .int
  | 35 => .int
  | 36 => .int
  | 37 => .array .int
  | 38 => .array .int
  | 39 => .array .int
  | 40 => .array .int
  | 41 => .array .int
  | 42 => .array .int
  | 43 => .array .int
  | 44 => .array .int
  | 45 => .int
  | 46 => .int
  | 47 => .int
  | 48 => .int
  | 49 => .array .long
  | 50 => .array .int
  | 51 => .int
  | 52 => .int
  | 53 => .int
  | _ => .array .int
theorem nmX12 : ∀ a, a < 55 → ∀ b, b < 55 → a ≠ b → (TX12 a).2.1 ≠ (TX12 b).2.1 := by decide +kernel
theorem tyX12_ok : ∀ k, k < 55 → parseFieldDescriptor (TX12 k).2.2.1 = some (tyX12 k) := by decide +kernel
def RXL : String := "DarkLandLaw"
abbrev vwCl : List vw_C := [(RX0, TX0, 17), (RX2, TX2, 16), (RX3, TX3, 6), (RX4, TX4, 7), (RX5, TX5, 13), (RX6, TX6, 4), (RX7, TX7, 7), (RX8, TX8, 14), (RX9, TX9, 3), (RX10, TX10, 8), (RX11, TX11, 6), (RX12, TX12, 55)]
def clsName (c : Nat) : String := match c with
  | 0 => RX0
  | 1 => RX2
  | 2 => RX3
  | 3 => RX4
  | 4 => RX5
  | 5 => RX6
  | 6 => RX7
  | 7 => RX8
  | 8 => RX9
  | 9 => RX10
  | 10 => RX11
  | 11 => RX12
  | 12 => RX1
  | _ => RXL
def fTab (c : Nat) : u_T := match c with
  | 0 => TX0
  | 1 => TX2
  | 2 => TX3
  | 3 => TX4
  | 4 => TX5
  | 5 => TX6
  | 6 => TX7
  | 7 => TX8
  | 8 => TX9
  | 9 => TX10
  | 10 => TX11
  | 11 => TX12
  | _ => TX1
def fTy (c : Nat) : Nat → FieldType := match c with
  | 0 => tyX0
  | 1 => tyX2
  | 2 => tyX3
  | 3 => tyX4
  | 4 => tyX5
  | 5 => tyX6
  | 6 => tyX7
  | 7 => tyX8
  | 8 => tyX9
  | 9 => tyX10
  | 10 => tyX11
  | 11 => tyX12
  | _ => tyX1
