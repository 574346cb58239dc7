section
-- ===== PART A: goes FIRST, ahead of the names: the tables' words, and 'selects' of the private methods out of them =====
/-- a private method of a class that the tables say can be made, by its rows of tables_1 -/
def lw_okq (q : MethodName × Nat) : Prop := (q.1.cls ≠ "java/lang/invoke/MethodHandle" ∧ q.1.cls ≠ "java/lang/invoke/VarHandle") ∧ Cond.instantiable q.1.cls q.2 ∈ tables_1 ∧ Cond.privateMethod q.1 ∈ tables_1 ∧ Cond.instanceMethod q.1 ∈ tables_1
theorem lw_p0 : lw_okq (⟨"VanRounds", "refuse", "(I)I"⟩, 12) := ⟨⟨by decide +kernel, by decide +kernel⟩, List.mem_of_getElem? (i := 13) (by decide +kernel), List.mem_of_getElem? (i := 323) (by decide +kernel), List.mem_of_getElem? (i := 324) (by decide +kernel)⟩
theorem lw_p1 : lw_okq (⟨"VanRounds$Town", "first", "(II)I"⟩, 6) := ⟨⟨by decide +kernel, by decide +kernel⟩, List.mem_of_getElem? (i := 33) (by decide +kernel), List.mem_of_getElem? (i := 331) (by decide +kernel), List.mem_of_getElem? (i := 332) (by decide +kernel)⟩
theorem lw_p2 : lw_okq (⟨"VanRounds$Town", "reckon", "(II)V"⟩, 6) := ⟨⟨by decide +kernel, by decide +kernel⟩, List.mem_of_getElem? (i := 33) (by decide +kernel), List.mem_of_getElem? (i := 346) (by decide +kernel), List.mem_of_getElem? (i := 347) (by decide +kernel)⟩
theorem lw_p3 : lw_okq (⟨"VanRounds$Trip", "isPaired", "([II)Z"⟩, 12) := ⟨⟨by decide +kernel, by decide +kernel⟩, List.mem_of_getElem? (i := 27) (by decide +kernel), List.mem_of_getElem? (i := 366) (by decide +kernel), List.mem_of_getElem? (i := 367) (by decide +kernel)⟩
theorem lw_p4 : lw_okq (⟨"VanRounds$Trip", "isCarried", "(I[II)Z"⟩, 12) := ⟨⟨by decide +kernel, by decide +kernel⟩, List.mem_of_getElem? (i := 27) (by decide +kernel), List.mem_of_getElem? (i := 370) (by decide +kernel), List.mem_of_getElem? (i := 371) (by decide +kernel)⟩
theorem lw_p5 : lw_okq (⟨"VanRounds$Trip", "isInTime", "(I[II)Z"⟩, 12) := ⟨⟨by decide +kernel, by decide +kernel⟩, List.mem_of_getElem? (i := 27) (by decide +kernel), List.mem_of_getElem? (i := 382) (by decide +kernel), List.mem_of_getElem? (i := 383) (by decide +kernel)⟩
theorem lw_p6 : lw_okq (⟨"VanRounds$Town", "walk", "(III)V"⟩, 6) := ⟨⟨by decide +kernel, by decide +kernel⟩, List.mem_of_getElem? (i := 33) (by decide +kernel), List.mem_of_getElem? (i := 390) (by decide +kernel), List.mem_of_getElem? (i := 391) (by decide +kernel)⟩
theorem lw_p7 : lw_okq (⟨"VanRounds$Trip", "isBack", "(I[II)Z"⟩, 12) := ⟨⟨by decide +kernel, by decide +kernel⟩, List.mem_of_getElem? (i := 27) (by decide +kernel), List.mem_of_getElem? (i := 397) (by decide +kernel), List.mem_of_getElem? (i := 398) (by decide +kernel)⟩
theorem lw_p8 : lw_okq (⟨"VanRounds", "isGap", "(II)Z"⟩, 12) := ⟨⟨by decide +kernel, by decide +kernel⟩, List.mem_of_getElem? (i := 13) (by decide +kernel), List.mem_of_getElem? (i := 508) (by decide +kernel), List.mem_of_getElem? (i := 509) (by decide +kernel)⟩
theorem lw_p9 : lw_okq (⟨"VanRounds", "settle", "()I"⟩, 12) := ⟨⟨by decide +kernel, by decide +kernel⟩, List.mem_of_getElem? (i := 13) (by decide +kernel), List.mem_of_getElem? (i := 529) (by decide +kernel), List.mem_of_getElem? (i := 530) (by decide +kernel)⟩
theorem lw_p10 : lw_okq (⟨"VanRounds", "adopt", "()V"⟩, 12) := ⟨⟨by decide +kernel, by decide +kernel⟩, List.mem_of_getElem? (i := 13) (by decide +kernel), List.mem_of_getElem? (i := 533) (by decide +kernel), List.mem_of_getElem? (i := 534) (by decide +kernel)⟩
theorem lw_p11 : lw_okq (⟨"VanRounds", "isTaken", "(II)Z"⟩, 12) := ⟨⟨by decide +kernel, by decide +kernel⟩, List.mem_of_getElem? (i := 13) (by decide +kernel), List.mem_of_getElem? (i := 580) (by decide +kernel), List.mem_of_getElem? (i := 581) (by decide +kernel)⟩
theorem lw_p12 : lw_okq (⟨"VanRounds$Planner", "tryPuts", "(II)V"⟩, 13) := ⟨⟨by decide +kernel, by decide +kernel⟩, List.mem_of_getElem? (i := 21) (by decide +kernel), List.mem_of_getElem? (i := 601) (by decide +kernel), List.mem_of_getElem? (i := 602) (by decide +kernel)⟩
theorem lw_p13 : lw_okq (⟨"VanRounds$Planner", "weighPut", "(IIIII)V"⟩, 13) := ⟨⟨by decide +kernel, by decide +kernel⟩, List.mem_of_getElem? (i := 21) (by decide +kernel), List.mem_of_getElem? (i := 607) (by decide +kernel), List.mem_of_getElem? (i := 608) (by decide +kernel)⟩
theorem lw_p14 : lw_okq (⟨"VanRounds$Planner", "moveToLess", "(II)Z"⟩, 13) := ⟨⟨by decide +kernel, by decide +kernel⟩, List.mem_of_getElem? (i := 21) (by decide +kernel), List.mem_of_getElem? (i := 625) (by decide +kernel), List.mem_of_getElem? (i := 626) (by decide +kernel)⟩
theorem lw_p15 : lw_okq (⟨"VanRounds$Planner", "extend", "(III)V"⟩, 13) := ⟨⟨by decide +kernel, by decide +kernel⟩, List.mem_of_getElem? (i := 21) (by decide +kernel), List.mem_of_getElem? (i := 642) (by decide +kernel), List.mem_of_getElem? (i := 643) (by decide +kernel)⟩
def lw_privs_1 : List (MethodName × Nat) := [(⟨"VanRounds", "refuse", "(I)I"⟩, 12), (⟨"VanRounds$Town", "first", "(II)I"⟩, 6), (⟨"VanRounds$Town", "reckon", "(II)V"⟩, 6), (⟨"VanRounds$Trip", "isPaired", "([II)Z"⟩, 12), (⟨"VanRounds$Trip", "isCarried", "(I[II)Z"⟩, 12), (⟨"VanRounds$Trip", "isInTime", "(I[II)Z"⟩, 12), (⟨"VanRounds$Town", "walk", "(III)V"⟩, 6), (⟨"VanRounds$Trip", "isBack", "(I[II)Z"⟩, 12), (⟨"VanRounds", "isGap", "(II)Z"⟩, 12), (⟨"VanRounds", "settle", "()I"⟩, 12), (⟨"VanRounds", "adopt", "()V"⟩, 12), (⟨"VanRounds", "isTaken", "(II)Z"⟩, 12), (⟨"VanRounds$Planner", "tryPuts", "(II)V"⟩, 13), (⟨"VanRounds$Planner", "weighPut", "(IIIII)V"⟩, 13), (⟨"VanRounds$Planner", "moveToLess", "(II)Z"⟩, 13), (⟨"VanRounds$Planner", "extend", "(III)V"⟩, 13)]
theorem lw_r1 : ∀ q ∈ lw_privs_1, lw_okq q := List.forall_mem_cons.mpr ⟨lw_p0, List.forall_mem_cons.mpr ⟨lw_p1, List.forall_mem_cons.mpr ⟨lw_p2, List.forall_mem_cons.mpr ⟨lw_p3, List.forall_mem_cons.mpr ⟨lw_p4, List.forall_mem_cons.mpr ⟨lw_p5, List.forall_mem_cons.mpr ⟨lw_p6, List.forall_mem_cons.mpr ⟨lw_p7, List.forall_mem_cons.mpr ⟨lw_p8, List.forall_mem_cons.mpr ⟨lw_p9, List.forall_mem_cons.mpr ⟨lw_p10, List.forall_mem_cons.mpr ⟨lw_p11, List.forall_mem_cons.mpr ⟨lw_p12, List.forall_mem_cons.mpr ⟨lw_p13, List.forall_mem_cons.mpr ⟨lw_p14, List.forall_mem_cons.mpr ⟨lw_p15, fun _ h => absurd h List.not_mem_nil⟩⟩⟩⟩⟩⟩⟩⟩⟩⟩⟩⟩⟩⟩⟩⟩
theorem lw_p16 : lw_okq (⟨"VanRounds$Planner", "weighPlan", "(I)V"⟩, 13) := ⟨⟨by decide +kernel, by decide +kernel⟩, List.mem_of_getElem? (i := 21) (by decide +kernel), List.mem_of_getElem? (i := 646) (by decide +kernel), List.mem_of_getElem? (i := 647) (by decide +kernel)⟩
theorem lw_p17 : lw_okq (⟨"VanRounds", "totalWaiting", "()I"⟩, 12) := ⟨⟨by decide +kernel, by decide +kernel⟩, List.mem_of_getElem? (i := 13) (by decide +kernel), List.mem_of_getElem? (i := 678) (by decide +kernel), List.mem_of_getElem? (i := 679) (by decide +kernel)⟩
theorem lw_p18 : lw_okq (⟨"VanRounds", "totalLateness", "()I"⟩, 12) := ⟨⟨by decide +kernel, by decide +kernel⟩, List.mem_of_getElem? (i := 13) (by decide +kernel), List.mem_of_getElem? (i := 682) (by decide +kernel), List.mem_of_getElem? (i := 683) (by decide +kernel)⟩
theorem lw_p19 : lw_okq (⟨"VanRoundsModel", "no", "(I)I"⟩, 46) := ⟨⟨by decide +kernel, by decide +kernel⟩, List.mem_of_getElem? (i := 707) (by decide +kernel), List.mem_of_getElem? (i := 864) (by decide +kernel), List.mem_of_getElem? (i := 865) (by decide +kernel)⟩
theorem lw_p20 : lw_okq (⟨"VanRoundsModel", "wayOf", "(III)I"⟩, 46) := ⟨⟨by decide +kernel, by decide +kernel⟩, List.mem_of_getElem? (i := 707) (by decide +kernel), List.mem_of_getElem? (i := 868) (by decide +kernel), List.mem_of_getElem? (i := 869) (by decide +kernel)⟩
theorem lw_p21 : lw_okq (⟨"VanRoundsModel", "over", "(III)I"⟩, 46) := ⟨⟨by decide +kernel, by decide +kernel⟩, List.mem_of_getElem? (i := 707) (by decide +kernel), List.mem_of_getElem? (i := 873) (by decide +kernel), List.mem_of_getElem? (i := 874) (by decide +kernel)⟩
theorem lw_p22 : lw_okq (⟨"VanRoundsModel", "tells", "(IIIII)Z"⟩, 46) := ⟨⟨by decide +kernel, by decide +kernel⟩, List.mem_of_getElem? (i := 707) (by decide +kernel), List.mem_of_getElem? (i := 885) (by decide +kernel), List.mem_of_getElem? (i := 886) (by decide +kernel)⟩
theorem lw_p23 : lw_okq (⟨"VanRoundsModel", "allFit", "()Z"⟩, 46) := ⟨⟨by decide +kernel, by decide +kernel⟩, List.mem_of_getElem? (i := 707) (by decide +kernel), List.mem_of_getElem? (i := 889) (by decide +kernel), List.mem_of_getElem? (i := 890) (by decide +kernel)⟩
theorem lw_p24 : lw_okq (⟨"VanRoundsModel", "fits", "(I)Z"⟩, 46) := ⟨⟨by decide +kernel, by decide +kernel⟩, List.mem_of_getElem? (i := 707) (by decide +kernel), List.mem_of_getElem? (i := 893) (by decide +kernel), List.mem_of_getElem? (i := 894) (by decide +kernel)⟩
theorem lw_p25 : lw_okq (⟨"VanRoundsModel", "pairs", "(I)V"⟩, 46) := ⟨⟨by decide +kernel, by decide +kernel⟩, List.mem_of_getElem? (i := 707) (by decide +kernel), List.mem_of_getElem? (i := 897) (by decide +kernel), List.mem_of_getElem? (i := 898) (by decide +kernel)⟩
theorem lw_p26 : lw_okq (⟨"VanRoundsModel", "stands", "(IIII)Z"⟩, 46) := ⟨⟨by decide +kernel, by decide +kernel⟩, List.mem_of_getElem? (i := 707) (by decide +kernel), List.mem_of_getElem? (i := 901) (by decide +kernel), List.mem_of_getElem? (i := 902) (by decide +kernel)⟩
theorem lw_p27 : lw_okq (⟨"VanRoundsModel", "fails", "(II)V"⟩, 46) := ⟨⟨by decide +kernel, by decide +kernel⟩, List.mem_of_getElem? (i := 707) (by decide +kernel), List.mem_of_getElem? (i := 905) (by decide +kernel), List.mem_of_getElem? (i := 906) (by decide +kernel)⟩
theorem lw_p28 : lw_okq (⟨"VanRoundsModel", "loads", "(I)V"⟩, 46) := ⟨⟨by decide +kernel, by decide +kernel⟩, List.mem_of_getElem? (i := 707) (by decide +kernel), List.mem_of_getElem? (i := 909) (by decide +kernel), List.mem_of_getElem? (i := 910) (by decide +kernel)⟩
theorem lw_p29 : lw_okq (⟨"VanRoundsModel", "goes", "(I)V"⟩, 46) := ⟨⟨by decide +kernel, by decide +kernel⟩, List.mem_of_getElem? (i := 707) (by decide +kernel), List.mem_of_getElem? (i := 913) (by decide +kernel), List.mem_of_getElem? (i := 914) (by decide +kernel)⟩
theorem lw_p30 : lw_okq (⟨"VanRoundsModel", "isStop", "(I)Z"⟩, 46) := ⟨⟨by decide +kernel, by decide +kernel⟩, List.mem_of_getElem? (i := 707) (by decide +kernel), List.mem_of_getElem? (i := 926) (by decide +kernel), List.mem_of_getElem? (i := 927) (by decide +kernel)⟩
theorem lw_p31 : lw_okq (⟨"VanRoundsModel", "vanOf", "(I)I"⟩, 46) := ⟨⟨by decide +kernel, by decide +kernel⟩, List.mem_of_getElem? (i := 707) (by decide +kernel), List.mem_of_getElem? (i := 934) (by decide +kernel), List.mem_of_getElem? (i := 935) (by decide +kernel)⟩
def lw_privs_2 : List (MethodName × Nat) := [(⟨"VanRounds$Planner", "weighPlan", "(I)V"⟩, 13), (⟨"VanRounds", "totalWaiting", "()I"⟩, 12), (⟨"VanRounds", "totalLateness", "()I"⟩, 12), (⟨"VanRoundsModel", "no", "(I)I"⟩, 46), (⟨"VanRoundsModel", "wayOf", "(III)I"⟩, 46), (⟨"VanRoundsModel", "over", "(III)I"⟩, 46), (⟨"VanRoundsModel", "tells", "(IIIII)Z"⟩, 46), (⟨"VanRoundsModel", "allFit", "()Z"⟩, 46), (⟨"VanRoundsModel", "fits", "(I)Z"⟩, 46), (⟨"VanRoundsModel", "pairs", "(I)V"⟩, 46), (⟨"VanRoundsModel", "stands", "(IIII)Z"⟩, 46), (⟨"VanRoundsModel", "fails", "(II)V"⟩, 46), (⟨"VanRoundsModel", "loads", "(I)V"⟩, 46), (⟨"VanRoundsModel", "goes", "(I)V"⟩, 46), (⟨"VanRoundsModel", "isStop", "(I)Z"⟩, 46), (⟨"VanRoundsModel", "vanOf", "(I)I"⟩, 46)]
theorem lw_r2 : ∀ q ∈ lw_privs_2, lw_okq q := List.forall_mem_cons.mpr ⟨lw_p16, List.forall_mem_cons.mpr ⟨lw_p17, List.forall_mem_cons.mpr ⟨lw_p18, List.forall_mem_cons.mpr ⟨lw_p19, List.forall_mem_cons.mpr ⟨lw_p20, List.forall_mem_cons.mpr ⟨lw_p21, List.forall_mem_cons.mpr ⟨lw_p22, List.forall_mem_cons.mpr ⟨lw_p23, List.forall_mem_cons.mpr ⟨lw_p24, List.forall_mem_cons.mpr ⟨lw_p25, List.forall_mem_cons.mpr ⟨lw_p26, List.forall_mem_cons.mpr ⟨lw_p27, List.forall_mem_cons.mpr ⟨lw_p28, List.forall_mem_cons.mpr ⟨lw_p29, List.forall_mem_cons.mpr ⟨lw_p30, List.forall_mem_cons.mpr ⟨lw_p31, fun _ h => absurd h List.not_mem_nil⟩⟩⟩⟩⟩⟩⟩⟩⟩⟩⟩⟩⟩⟩⟩⟩
theorem lw_p32 : lw_okq (⟨"VanRoundsModel", "isVan", "(I)Z"⟩, 46) := ⟨⟨by decide +kernel, by decide +kernel⟩, List.mem_of_getElem? (i := 707) (by decide +kernel), List.mem_of_getElem? (i := 957) (by decide +kernel), List.mem_of_getElem? (i := 958) (by decide +kernel)⟩
theorem lw_p33 : lw_okq (⟨"VanRoundsModel", "placeOf", "(I)I"⟩, 46) := ⟨⟨by decide +kernel, by decide +kernel⟩, List.mem_of_getElem? (i := 707) (by decide +kernel), List.mem_of_getElem? (i := 965) (by decide +kernel), List.mem_of_getElem? (i := 966) (by decide +kernel)⟩
theorem lw_p34 : lw_okq (⟨"VanRoundsModel", "costAll", "()I"⟩, 46) := ⟨⟨by decide +kernel, by decide +kernel⟩, List.mem_of_getElem? (i := 707) (by decide +kernel), List.mem_of_getElem? (i := 982) (by decide +kernel), List.mem_of_getElem? (i := 983) (by decide +kernel)⟩
theorem lw_p35 : lw_okq (⟨"VanRoundsModel", "costOf", "(I)I"⟩, 46) := ⟨⟨by decide +kernel, by decide +kernel⟩, List.mem_of_getElem? (i := 707) (by decide +kernel), List.mem_of_getElem? (i := 986) (by decide +kernel), List.mem_of_getElem? (i := 987) (by decide +kernel)⟩
theorem lw_p36 : lw_okq (⟨"VanRoundsModel", "puts", "(III)V"⟩, 46) := ⟨⟨by decide +kernel, by decide +kernel⟩, List.mem_of_getElem? (i := 707) (by decide +kernel), List.mem_of_getElem? (i := 994) (by decide +kernel), List.mem_of_getElem? (i := 995) (by decide +kernel)⟩
theorem lw_p37 : lw_okq (⟨"VanRoundsModel", "takesOut", "(I)V"⟩, 46) := ⟨⟨by decide +kernel, by decide +kernel⟩, List.mem_of_getElem? (i := 707) (by decide +kernel), List.mem_of_getElem? (i := 998) (by decide +kernel), List.mem_of_getElem? (i := 999) (by decide +kernel)⟩
theorem lw_p38 : lw_okq (⟨"VanRoundsModel", "keeps", "([II)V"⟩, 46) := ⟨⟨by decide +kernel, by decide +kernel⟩, List.mem_of_getElem? (i := 707) (by decide +kernel), List.mem_of_getElem? (i := 1010) (by decide +kernel), List.mem_of_getElem? (i := 1011) (by decide +kernel)⟩
theorem lw_p39 : lw_okq (⟨"VanRoundsModel", "settles", "()I"⟩, 46) := ⟨⟨by decide +kernel, by decide +kernel⟩, List.mem_of_getElem? (i := 707) (by decide +kernel), List.mem_of_getElem? (i := 1014) (by decide +kernel), List.mem_of_getElem? (i := 1015) (by decide +kernel)⟩
theorem lw_p40 : lw_okq (⟨"VanRoundsModel", "takes", "([II)V"⟩, 46) := ⟨⟨by decide +kernel, by decide +kernel⟩, List.mem_of_getElem? (i := 707) (by decide +kernel), List.mem_of_getElem? (i := 1018) (by decide +kernel), List.mem_of_getElem? (i := 1019) (by decide +kernel)⟩
theorem lw_p41 : lw_okq (⟨"VanRoundsModel", "notes", "()V"⟩, 46) := ⟨⟨by decide +kernel, by decide +kernel⟩, List.mem_of_getElem? (i := 707) (by decide +kernel), List.mem_of_getElem? (i := 1022) (by decide +kernel), List.mem_of_getElem? (i := 1023) (by decide +kernel)⟩
theorem lw_p42 : lw_okq (⟨"VanRoundsModel", "isAs", "([II)Z"⟩, 46) := ⟨⟨by decide +kernel, by decide +kernel⟩, List.mem_of_getElem? (i := 707) (by decide +kernel), List.mem_of_getElem? (i := 1026) (by decide +kernel), List.mem_of_getElem? (i := 1027) (by decide +kernel)⟩
theorem lw_p43 : lw_okq (⟨"VanRoundsModel", "triesAll", "(II)V"⟩, 46) := ⟨⟨by decide +kernel, by decide +kernel⟩, List.mem_of_getElem? (i := 707) (by decide +kernel), List.mem_of_getElem? (i := 1054) (by decide +kernel), List.mem_of_getElem? (i := 1055) (by decide +kernel)⟩
theorem lw_p44 : lw_okq (⟨"VanRoundsModel", "looksAt", "(IIIII)V"⟩, 46) := ⟨⟨by decide +kernel, by decide +kernel⟩, List.mem_of_getElem? (i := 707) (by decide +kernel), List.mem_of_getElem? (i := 1058) (by decide +kernel), List.mem_of_getElem? (i := 1059) (by decide +kernel)⟩
theorem lw_p45 : lw_okq (⟨"VanRoundsModel", "isBettered", "()Z"⟩, 46) := ⟨⟨by decide +kernel, by decide +kernel⟩, List.mem_of_getElem? (i := 707) (by decide +kernel), List.mem_of_getElem? (i := 1066) (by decide +kernel), List.mem_of_getElem? (i := 1067) (by decide +kernel)⟩
theorem lw_p46 : lw_okq (⟨"VanRoundsModel", "weighs", "()V"⟩, 46) := ⟨⟨by decide +kernel, by decide +kernel⟩, List.mem_of_getElem? (i := 707) (by decide +kernel), List.mem_of_getElem? (i := 1074) (by decide +kernel), List.mem_of_getElem? (i := 1075) (by decide +kernel)⟩
theorem lw_p47 : lw_okq (⟨"VanRoundsModel", "isLess", "()Z"⟩, 46) := ⟨⟨by decide +kernel, by decide +kernel⟩, List.mem_of_getElem? (i := 707) (by decide +kernel), List.mem_of_getElem? (i := 1078) (by decide +kernel), List.mem_of_getElem? (i := 1079) (by decide +kernel)⟩
def lw_privs_3 : List (MethodName × Nat) := [(⟨"VanRoundsModel", "isVan", "(I)Z"⟩, 46), (⟨"VanRoundsModel", "placeOf", "(I)I"⟩, 46), (⟨"VanRoundsModel", "costAll", "()I"⟩, 46), (⟨"VanRoundsModel", "costOf", "(I)I"⟩, 46), (⟨"VanRoundsModel", "puts", "(III)V"⟩, 46), (⟨"VanRoundsModel", "takesOut", "(I)V"⟩, 46), (⟨"VanRoundsModel", "keeps", "([II)V"⟩, 46), (⟨"VanRoundsModel", "settles", "()I"⟩, 46), (⟨"VanRoundsModel", "takes", "([II)V"⟩, 46), (⟨"VanRoundsModel", "notes", "()V"⟩, 46), (⟨"VanRoundsModel", "isAs", "([II)Z"⟩, 46), (⟨"VanRoundsModel", "triesAll", "(II)V"⟩, 46), (⟨"VanRoundsModel", "looksAt", "(IIIII)V"⟩, 46), (⟨"VanRoundsModel", "isBettered", "()Z"⟩, 46), (⟨"VanRoundsModel", "weighs", "()V"⟩, 46), (⟨"VanRoundsModel", "isLess", "()Z"⟩, 46)]
theorem lw_r3 : ∀ q ∈ lw_privs_3, lw_okq q := List.forall_mem_cons.mpr ⟨lw_p32, List.forall_mem_cons.mpr ⟨lw_p33, List.forall_mem_cons.mpr ⟨lw_p34, List.forall_mem_cons.mpr ⟨lw_p35, List.forall_mem_cons.mpr ⟨lw_p36, List.forall_mem_cons.mpr ⟨lw_p37, List.forall_mem_cons.mpr ⟨lw_p38, List.forall_mem_cons.mpr ⟨lw_p39, List.forall_mem_cons.mpr ⟨lw_p40, List.forall_mem_cons.mpr ⟨lw_p41, List.forall_mem_cons.mpr ⟨lw_p42, List.forall_mem_cons.mpr ⟨lw_p43, List.forall_mem_cons.mpr ⟨lw_p44, List.forall_mem_cons.mpr ⟨lw_p45, List.forall_mem_cons.mpr ⟨lw_p46, List.forall_mem_cons.mpr ⟨lw_p47, fun _ h => absurd h List.not_mem_nil⟩⟩⟩⟩⟩⟩⟩⟩⟩⟩⟩⟩⟩⟩⟩⟩
theorem lw_p48 : lw_okq (⟨"VanRoundsModel", "lays", "(III)Z"⟩, 46) := ⟨⟨by decide +kernel, by decide +kernel⟩, List.mem_of_getElem? (i := 707) (by decide +kernel), List.mem_of_getElem? (i := 1085) (by decide +kernel), List.mem_of_getElem? (i := 1086) (by decide +kernel)⟩
theorem lw_p49 : lw_okq (⟨"VanRoundsModel", "inRounds", "()I"⟩, 46) := ⟨⟨by decide +kernel, by decide +kernel⟩, List.mem_of_getElem? (i := 707) (by decide +kernel), List.mem_of_getElem? (i := 1097) (by decide +kernel), List.mem_of_getElem? (i := 1098) (by decide +kernel)⟩
theorem lw_p50 : lw_okq (⟨"VanRoundsModel", "minutes", "(Z)I"⟩, 46) := ⟨⟨by decide +kernel, by decide +kernel⟩, List.mem_of_getElem? (i := 707) (by decide +kernel), List.mem_of_getElem? (i := 1105) (by decide +kernel), List.mem_of_getElem? (i := 1106) (by decide +kernel)⟩
def lw_privs_4 : List (MethodName × Nat) := [(⟨"VanRoundsModel", "lays", "(III)Z"⟩, 46), (⟨"VanRoundsModel", "inRounds", "()I"⟩, 46), (⟨"VanRoundsModel", "minutes", "(Z)I"⟩, 46)]
theorem lw_r4 : ∀ q ∈ lw_privs_4, lw_okq q := List.forall_mem_cons.mpr ⟨lw_p48, List.forall_mem_cons.mpr ⟨lw_p49, List.forall_mem_cons.mpr ⟨lw_p50, fun _ h => absurd h List.not_mem_nil⟩⟩⟩
def lw_privs : List (MethodName × Nat) := lw_privs_1 ++ (lw_privs_2 ++ (lw_privs_3 ++ (lw_privs_4)))
def lw_tbl : List Cond := k2_sels lw_privs ++ tables_1
theorem lw_privs_ok : ∀ q ∈ lw_privs, lw_okq q := by
  show ∀ q ∈ lw_privs_1 ++ (lw_privs_2 ++ (lw_privs_3 ++ (lw_privs_4))), lw_okq q
  exact List.forall_mem_append.mpr ⟨lw_r1, List.forall_mem_append.mpr ⟨lw_r2, List.forall_mem_append.mpr ⟨lw_r3, lw_r4⟩⟩⟩
end
section
-- NAMES: classes and their fields; methods; which words stand in the tables (written by wip/whole/gen_nam.py)
abbrev mi : Type := MethodName × ByteArray × Nat × Option FieldType
theorem mem_at {w : Cond} (i : Nat) (h : lw_tbl[i]? = some w) : w ∈ lw_tbl := List.mem_of_getElem? h
def R_Past : String := "VanRounds$Past"
def F_Past : u_T := fun k => match k with
  | 0 => ("VanRounds$Past", "plans", "[LVanRounds$Plan;", true)
  | 1 => ("VanRounds$Past", "newest", "I", false)
  | _ => ("VanRounds$Past", "held", "I", false)
def t_Past : Nat → FieldType := fun k => match k with
  | 0 => .array (.object "VanRounds$Plan")
  | 1 => .int
  | _ => .int
theorem n_Past : ∀ a, a < 3 → ∀ b, b < 3 → a ≠ b → (F_Past a).2.1 ≠ (F_Past b).2.1 := by decide +kernel
theorem t_Past_ok : ∀ k, k < 3 → parseFieldDescriptor (F_Past k).2.2.1 = some (t_Past k) := by decide +kernel
theorem i_Past : ∀ w ∈ u_ws R_Past F_Past 3, w ∈ lw_tbl := by decide +kernel
def R_Plan : String := "VanRounds$Plan"
def F_Plan : u_T := fun k => match k with
  | 0 => ("VanRounds$Plan", "rounds", "[[I", true)
  | _ => ("VanRounds$Plan", "sizes", "[I", true)
def t_Plan : Nat → FieldType := fun k => match k with
  | 0 => .array (.array .int)
  | _ => .array .int
theorem n_Plan : ∀ a, a < 2 → ∀ b, b < 2 → a ≠ b → (F_Plan a).2.1 ≠ (F_Plan b).2.1 := by decide +kernel
theorem t_Plan_ok : ∀ k, k < 2 → parseFieldDescriptor (F_Plan k).2.2.1 = some (t_Plan k) := by decide +kernel
theorem i_Plan : ∀ w ∈ u_ws R_Plan F_Plan 2, w ∈ lw_tbl := by decide +kernel
def R_Planner : String := "VanRounds$Planner"
def F_Planner : u_T := fun k => match k with
  | 0 => ("VanRounds$Planner", "trip", "LVanRounds$Trip;", true)
  | 1 => ("VanRounds$Planner", "stops", "LVanRounds$Stops;", true)
  | 2 => ("VanRounds$Planner", "vans", "LVanRounds$Vans;", true)
  | 3 => ("VanRounds$Planner", "draft", "LVanRounds$Plan;", true)
  | 4 => ("VanRounds$Planner", "putStop", "I", false)
  | 5 => ("VanRounds$Planner", "putVan", "I", false)
  | 6 => ("VanRounds$Planner", "putPlace", "I", false)
  | 7 => ("VanRounds$Planner", "putDropPlace", "I", false)
  | 8 => ("VanRounds$Planner", "putGrowth", "I", false)
  | 9 => ("VanRounds$Planner", "leastPlan", "LVanRounds$Plan;", true)
  | 10 => ("VanRounds$Planner", "leastMusts", "I", false)
  | 11 => ("VanRounds$Planner", "leastSize", "I", false)
  | _ => ("VanRounds$Planner", "leastCost", "I", false)
def t_Planner : Nat → FieldType := fun k => match k with
  | 0 => .object "VanRounds$Trip"
  | 1 => .object "VanRounds$Stops"
  | 2 => .object "VanRounds$Vans"
  | 3 => .object "VanRounds$Plan"
  | 4 => .int
  | 5 => .int
  | 6 => .int
  | 7 => .int
  | 8 => .int
  | 9 => .object "VanRounds$Plan"
  | 10 => .int
  | 11 => .int
  | _ => .int
theorem n_Planner : ∀ a, a < 13 → ∀ b, b < 13 → a ≠ b → (F_Planner a).2.1 ≠ (F_Planner b).2.1 := by decide +kernel
theorem t_Planner_ok : ∀ k, k < 13 → parseFieldDescriptor (F_Planner k).2.2.1 = some (t_Planner k) := by decide +kernel
theorem i_Planner : ∀ w ∈ u_ws R_Planner F_Planner 13, w ∈ lw_tbl := by decide +kernel
def R_Stops : String := "VanRounds$Stops"
def F_Stops : u_T := fun k => match k with
  | 0 => ("VanRounds$Stops", "total", "I", false)
  | 1 => ("VanRounds$Stops", "kind", "[I", true)
  | 2 => ("VanRounds$Stops", "place", "[I", true)
  | 3 => ("VanRounds$Stops", "from", "[I", true)
  | 4 => ("VanRounds$Stops", "to", "[I", true)
  | 5 => ("VanRounds$Stops", "serve", "[I", true)
  | 6 => ("VanRounds$Stops", "amount", "[I", true)
  | 7 => ("VanRounds$Stops", "mate", "[I", true)
  | _ => ("VanRounds$Stops", "price", "[I", true)
def t_Stops : Nat → FieldType := fun k => match k with
  | 0 => .int
  | 1 => .array .int
  | 2 => .array .int
  | 3 => .array .int
  | 4 => .array .int
  | 5 => .array .int
  | 6 => .array .int
  | 7 => .array .int
  | _ => .array .int
theorem n_Stops : ∀ a, a < 9 → ∀ b, b < 9 → a ≠ b → (F_Stops a).2.1 ≠ (F_Stops b).2.1 := by decide +kernel
theorem t_Stops_ok : ∀ k, k < 9 → parseFieldDescriptor (F_Stops k).2.2.1 = some (t_Stops k) := by decide +kernel
theorem i_Stops : ∀ w ∈ u_ws R_Stops F_Stops 9, w ∈ lw_tbl := by decide +kernel
def R_Town : String := "VanRounds$Town"
def F_Town : u_T := fun k => match k with
  | 0 => ("VanRounds$Town", "takes", "[I", true)
  | 1 => ("VanRounds$Town", "later", "[I", true)
  | 2 => ("VanRounds$Town", "remembered", "[I", true)
  | 3 => ("VanRounds$Town", "comings", "[I", true)
  | 4 => ("VanRounds$Town", "labels", "[I", true)
  | _ => ("VanRounds$Town", "age", "I", false)
def t_Town : Nat → FieldType := fun k => match k with
  | 0 => .array .int
  | 1 => .array .int
  | 2 => .array .int
  | 3 => .array .int
  | 4 => .array .int
  | _ => .int
theorem n_Town : ∀ a, a < 6 → ∀ b, b < 6 → a ≠ b → (F_Town a).2.1 ≠ (F_Town b).2.1 := by decide +kernel
theorem t_Town_ok : ∀ k, k < 6 → parseFieldDescriptor (F_Town k).2.2.1 = some (t_Town k) := by decide +kernel
theorem i_Town : ∀ w ∈ u_ws R_Town F_Town 6, w ∈ lw_tbl := by decide +kernel
def R_Trip : String := "VanRounds$Trip"
def F_Trip : u_T := fun k => match k with
  | 0 => ("VanRounds$Trip", "town", "LVanRounds$Town;", true)
  | 1 => ("VanRounds$Trip", "stops", "LVanRounds$Stops;", true)
  | 2 => ("VanRounds$Trip", "vans", "LVanRounds$Vans;", true)
  | 3 => ("VanRounds$Trip", "come", "[I", true)
  | 4 => ("VanRounds$Trip", "begin", "[I", true)
  | 5 => ("VanRounds$Trip", "leave", "[I", true)
  | 6 => ("VanRounds$Trip", "aboard", "[I", true)
  | 7 => ("VanRounds$Trip", "back", "I", false)
  | 8 => ("VanRounds$Trip", "fault", "I", false)
  | 9 => ("VanRounds$Trip", "expense", "I", false)
  | 10 => ("VanRounds$Trip", "waiting", "I", false)
  | _ => ("VanRounds$Trip", "lateness", "I", false)
def t_Trip : Nat → FieldType := fun k => match k with
  | 0 => .object "VanRounds$Town"
  | 1 => .object "VanRounds$Stops"
  | 2 => .object "VanRounds$Vans"
  | 3 => .array .int
  | 4 => .array .int
  | 5 => .array .int
  | 6 => .array .int
  | 7 => .int
  | 8 => .int
  | 9 => .int
  | 10 => .int
  | _ => .int
theorem n_Trip : ∀ a, a < 12 → ∀ b, b < 12 → a ≠ b → (F_Trip a).2.1 ≠ (F_Trip b).2.1 := by decide +kernel
theorem t_Trip_ok : ∀ k, k < 12 → parseFieldDescriptor (F_Trip k).2.2.1 = some (t_Trip k) := by decide +kernel
theorem i_Trip : ∀ w ∈ u_ws R_Trip F_Trip 12, w ∈ lw_tbl := by decide +kernel
def R_Vans : String := "VanRounds$Vans"
def F_Vans : u_T := fun k => match k with
  | 0 => ("VanRounds$Vans", "total", "I", false)
  | 1 => ("VanRounds$Vans", "load", "[I", true)
  | 2 => ("VanRounds$Vans", "from", "[I", true)
  | 3 => ("VanRounds$Vans", "to", "[I", true)
  | _ => ("VanRounds$Vans", "fee", "[I", true)
def t_Vans : Nat → FieldType := fun k => match k with
  | 0 => .int
  | 1 => .array .int
  | 2 => .array .int
  | 3 => .array .int
  | _ => .array .int
theorem n_Vans : ∀ a, a < 5 → ∀ b, b < 5 → a ≠ b → (F_Vans a).2.1 ≠ (F_Vans b).2.1 := by decide +kernel
theorem t_Vans_ok : ∀ k, k < 5 → parseFieldDescriptor (F_Vans k).2.2.1 = some (t_Vans k) := by decide +kernel
theorem i_Vans : ∀ w ∈ u_ws R_Vans F_Vans 5, w ∈ lw_tbl := by decide +kernel
def R_Van : String := "VanRounds"
def F_Van : u_T := fun k => match k with
  | 0 => ("VanRounds", "planner", "LVanRounds$Planner;", true)
  | 1 => ("VanRounds", "draft", "LVanRounds$Plan;", true)
  | 2 => ("VanRounds", "trip", "LVanRounds$Trip;", true)
  | 3 => ("VanRounds", "town", "LVanRounds$Town;", true)
  | 4 => ("VanRounds", "stops", "LVanRounds$Stops;", true)
  | 5 => ("VanRounds", "vans", "LVanRounds$Vans;", true)
  | 6 => ("VanRounds", "plan", "LVanRounds$Plan;", true)
  | 7 => ("VanRounds", "past", "LVanRounds$Past;", true)
  | 8 => ("VanRounds", "numbers", "[I", true)
  | 9 => ("VanRounds", "rowSize", "I", false)
  | 10 => ("VanRounds", "latestWhere", "I", false)
  | _ => ("VanRounds", "refusals", "[I", true)
def t_Van : Nat → FieldType := fun k => match k with
  | 0 => .object "VanRounds$Planner"
  | 1 => .object "VanRounds$Plan"
  | 2 => .object "VanRounds$Trip"
  | 3 => .object "VanRounds$Town"
  | 4 => .object "VanRounds$Stops"
  | 5 => .object "VanRounds$Vans"
  | 6 => .object "VanRounds$Plan"
  | 7 => .object "VanRounds$Past"
  | 8 => .array .int
  | 9 => .int
  | 10 => .int
  | _ => .array .int
theorem n_Van : ∀ a, a < 12 → ∀ b, b < 12 → a ≠ b → (F_Van a).2.1 ≠ (F_Van b).2.1 := by decide +kernel
theorem t_Van_ok : ∀ k, k < 12 → parseFieldDescriptor (F_Van k).2.2.1 = some (t_Van k) := by decide +kernel
theorem i_Van : ∀ w ∈ u_ws R_Van F_Van 12, w ∈ lw_tbl := by decide +kernel
def R_Mod : String := "VanRoundsModel"
def F_Mod : u_T := fun k => match k with
  | 0 => ("VanRoundsModel", "street", "[I", true)
  | 1 => ("VanRoundsModel", "kind", "[I", true)
  | 2 => ("VanRoundsModel", "place", "[I", true)
  | 3 => ("VanRoundsModel", "from", "[I", true)
  | 4 => ("VanRoundsModel", "to", "[I", true)
  | 5 => ("VanRoundsModel", "serve", "[I", true)
  | 6 => ("VanRoundsModel", "amount", "[I", true)
  | 7 => ("VanRoundsModel", "partner", "[I", true)
  | 8 => ("VanRoundsModel", "price", "[I", true)
  | 9 => ("VanRoundsModel", "load", "[I", true)
  | 10 => ("VanRoundsModel", "begins", "[I", true)
  | 11 => ("VanRoundsModel", "ends", "[I", true)
  | 12 => ("VanRoundsModel", "fee", "[I", true)
  | 13 => ("VanRoundsModel", "stops", "I", false)
  | 14 => ("VanRoundsModel", "vans", "I", false)
  | 15 => ("VanRoundsModel", "round", "[I", true)
  | 16 => ("VanRoundsModel", "size", "[I", true)
  | 17 => ("VanRoundsModel", "undone", "[I", true)
  | 18 => ("VanRoundsModel", "other", "[I", true)
  | 19 => ("VanRoundsModel", "best", "[I", true)
  | 20 => ("VanRoundsModel", "undos", "I", false)
  | 21 => ("VanRoundsModel", "refused", "[I", true)
  | 22 => ("VanRoundsModel", "comes", "[I", true)
  | 23 => ("VanRoundsModel", "isDone", "[Z", true)
  | 24 => ("VanRoundsModel", "before", "[I", true)
  | 25 => ("VanRoundsModel", "arrives", "[I", true)
  | 26 => ("VanRoundsModel", "starts", "[I", true)
  | 27 => ("VanRoundsModel", "leaves", "[I", true)
  | 28 => ("VanRoundsModel", "aboard", "[I", true)
  | 29 => ("VanRoundsModel", "back", "I", false)
  | 30 => ("VanRoundsModel", "why", "I", false)
  | 31 => ("VanRoundsModel", "where", "I", false)
  | 32 => ("VanRoundsModel", "price0", "I", false)
  | 33 => ("VanRoundsModel", "told", "I", false)
  | 34 => ("VanRoundsModel", "growth", "I", false)
  | 35 => ("VanRoundsModel", "gStop", "I", false)
  | 36 => ("VanRoundsModel", "gVan", "I", false)
  | 37 => ("VanRoundsModel", "gPlace", "I", false)
  | 38 => ("VanRoundsModel", "gSecond", "I", false)
  | 39 => ("VanRoundsModel", "goodMusts", "I", false)
  | 40 => ("VanRoundsModel", "goodStops", "I", false)
  | 41 => ("VanRoundsModel", "goodCost", "I", false)
  | 42 => ("VanRoundsModel", "hasGood", "Z", false)
  | 43 => ("VanRoundsModel", "row", "[I", true)
  | 44 => ("VanRoundsModel", "moved", "[I", true)
  | _ => ("VanRoundsModel", "rowSize", "I", false)
def t_Mod : Nat → FieldType := fun k => match k with
  | 0 => .array .int
  | 1 => .array .int
  | 2 => .array .int
  | 3 => .array .int
  | 4 => .array .int
  | 5 => .array .int
  | 6 => .array .int
  | 7 => .array .int
  | 8 => .array .int
  | 9 => .array .int
  | 10 => .array .int
  | 11 => .array .int
  | 12 => .array .int
  | 13 => .int
  | 14 => .int
  | 15 => .array .int
  | 16 => .array .int
  | 17 => .array .int
  | 18 => .array .int
  | 19 => .array .int
  | 20 => .int
  | 21 => .array .int
  | 22 => .array .int
  | 23 => .array .boolean
  | 24 => .array .int
  | 25 => .array .int
  | 26 => .array .int
  | 27 => .array .int
  | 28 => .array .int
  | 29 => .int
  | 30 => .int
  | 31 => .int
  | 32 => .int
  | 33 => .int
  | 34 => .int
  | 35 => .int
  | 36 => .int
  | 37 => .int
  | 38 => .int
  | 39 => .int
  | 40 => .int
  | 41 => .int
  | 42 => .boolean
  | 43 => .array .int
  | 44 => .array .int
  | _ => .int
theorem n_Mod : ∀ a, a < 46 → ∀ b, b < 46 → a ≠ b → (F_Mod a).2.1 ≠ (F_Mod b).2.1 := by decide +kernel
theorem t_Mod_ok : ∀ k, k < 46 → parseFieldDescriptor (F_Mod k).2.2.1 = some (t_Mod k) := by decide +kernel
theorem i_Mod : ∀ w ∈ u_ws R_Mod F_Mod 46, w ∈ lw_tbl := by decide +kernel
abbrev classes : List vw_C := [(R_Past, F_Past, 3), (R_Plan, F_Plan, 2), (R_Planner, F_Planner, 13), (R_Stops, F_Stops, 9), (R_Town, F_Town, 6), (R_Trip, F_Trip, 12), (R_Vans, F_Vans, 5), (R_Van, F_Van, 12), (R_Mod, F_Mod, 46)]
def M_Van_init : mi := (⟨"VanRounds", "<init>", "()V"⟩, prog_1_method_1_code, 1, none)
theorem cd_Van_init : Cond.code M_Van_init.1 M_Van_init.2.1 M_Van_init.2.2.1 M_Van_init.2.2.2 ∈ lw_tbl := mem_at 67 (by decide +kernel)
theorem in_Van_init : Cond.initialized M_Van_init.1.cls ∈ lw_tbl := mem_at 52 (by decide +kernel)
theorem im_Van_init : Cond.instanceMethod M_Van_init.1 ∈ lw_tbl := mem_at 66 (by decide +kernel)
def M_Planner_init : mi := (⟨"VanRounds$Planner", "<init>", "()V"⟩, prog_4_method_1_code, 1, none)
theorem cd_Planner_init : Cond.code M_Planner_init.1 M_Planner_init.2.1 M_Planner_init.2.2.1 M_Planner_init.2.2.2 ∈ lw_tbl := mem_at 75 (by decide +kernel)
theorem in_Planner_init : Cond.initialized M_Planner_init.1.cls ∈ lw_tbl := mem_at 53 (by decide +kernel)
theorem im_Planner_init : Cond.instanceMethod M_Planner_init.1 ∈ lw_tbl := mem_at 74 (by decide +kernel)
def M_Trip_init : mi := (⟨"VanRounds$Trip", "<init>", "()V"⟩, prog_7_method_1_code, 1, none)
theorem cd_Trip_init : Cond.code M_Trip_init.1 M_Trip_init.2.1 M_Trip_init.2.2.1 M_Trip_init.2.2.2 ∈ lw_tbl := mem_at 81 (by decide +kernel)
theorem in_Trip_init : Cond.initialized M_Trip_init.1.cls ∈ lw_tbl := mem_at 54 (by decide +kernel)
theorem im_Trip_init : Cond.instanceMethod M_Trip_init.1 ∈ lw_tbl := mem_at 80 (by decide +kernel)
def M_Town_init : mi := (⟨"VanRounds$Town", "<init>", "()V"⟩, prog_6_method_1_code, 1, none)
theorem cd_Town_init : Cond.code M_Town_init.1 M_Town_init.2.1 M_Town_init.2.2.1 M_Town_init.2.2.2 ∈ lw_tbl := mem_at 87 (by decide +kernel)
theorem in_Town_init : Cond.initialized M_Town_init.1.cls ∈ lw_tbl := mem_at 55 (by decide +kernel)
theorem im_Town_init : Cond.instanceMethod M_Town_init.1 ∈ lw_tbl := mem_at 86 (by decide +kernel)
def M_Stops_init : mi := (⟨"VanRounds$Stops", "<init>", "()V"⟩, prog_5_method_1_code, 1, none)
theorem cd_Stops_init : Cond.code M_Stops_init.1 M_Stops_init.2.1 M_Stops_init.2.2.1 M_Stops_init.2.2.2 ∈ lw_tbl := mem_at 113 (by decide +kernel)
theorem in_Stops_init : Cond.initialized M_Stops_init.1.cls ∈ lw_tbl := mem_at 56 (by decide +kernel)
theorem im_Stops_init : Cond.instanceMethod M_Stops_init.1 ∈ lw_tbl := mem_at 112 (by decide +kernel)
def M_Vans_init : mi := (⟨"VanRounds$Vans", "<init>", "()V"⟩, prog_8_method_1_code, 1, none)
theorem cd_Vans_init : Cond.code M_Vans_init.1 M_Vans_init.2.1 M_Vans_init.2.2.1 M_Vans_init.2.2.2 ∈ lw_tbl := mem_at 166 (by decide +kernel)
theorem in_Vans_init : Cond.initialized M_Vans_init.1.cls ∈ lw_tbl := mem_at 57 (by decide +kernel)
theorem im_Vans_init : Cond.instanceMethod M_Vans_init.1 ∈ lw_tbl := mem_at 165 (by decide +kernel)
def M_Plan_init : mi := (⟨"VanRounds$Plan", "<init>", "()V"⟩, prog_3_method_1_code, 1, none)
theorem cd_Plan_init : Cond.code M_Plan_init.1 M_Plan_init.2.1 M_Plan_init.2.2.1 M_Plan_init.2.2.2 ∈ lw_tbl := mem_at 249 (by decide +kernel)
theorem in_Plan_init : Cond.initialized M_Plan_init.1.cls ∈ lw_tbl := mem_at 58 (by decide +kernel)
theorem im_Plan_init : Cond.instanceMethod M_Plan_init.1 ∈ lw_tbl := mem_at 248 (by decide +kernel)
def M_Past_init : mi := (⟨"VanRounds$Past", "<init>", "()V"⟩, prog_2_method_1_code, 2, none)
theorem cd_Past_init : Cond.code M_Past_init.1 M_Past_init.2.1 M_Past_init.2.2.1 M_Past_init.2.2.2 ∈ lw_tbl := mem_at 313 (by decide +kernel)
theorem in_Past_init : Cond.initialized M_Past_init.1.cls ∈ lw_tbl := mem_at 59 (by decide +kernel)
theorem im_Past_init : Cond.instanceMethod M_Past_init.1 ∈ lw_tbl := mem_at 312 (by decide +kernel)
def M_Van_street : mi := (⟨"VanRounds", "street", "(III)I"⟩, prog_1_method_2_code, 5, some .int)
theorem cd_Van_street : Cond.code M_Van_street.1 M_Van_street.2.1 M_Van_street.2.2.1 M_Van_street.2.2.2 ∈ lw_tbl := mem_at 369 (by decide +kernel)
theorem in_Van_street : Cond.initialized M_Van_street.1.cls ∈ lw_tbl := mem_at 52 (by decide +kernel)
theorem im_Van_street : Cond.instanceMethod M_Van_street.1 ∈ lw_tbl := mem_at 367 (by decide +kernel)
theorem se_Van_street : Cond.selects M_Van_street.1.cls M_Van_street.1 M_Van_street.1 ∈ lw_tbl := mem_at 368 (by decide +kernel)
def M_Van_isPlace : mi := (⟨"VanRounds", "isPlace", "(I)Z"⟩, prog_1_method_40_code, 1, some .boolean)
theorem cd_Van_isPlace : Cond.code M_Van_isPlace.1 M_Van_isPlace.2.1 M_Van_isPlace.2.2.1 M_Van_isPlace.2.2.2 ∈ lw_tbl := mem_at 372 (by decide +kernel)
theorem in_Van_isPlace : Cond.initialized M_Van_isPlace.1.cls ∈ lw_tbl := mem_at 52 (by decide +kernel)
theorem st_Van_isPlace : Cond.static M_Van_isPlace.1 ∈ lw_tbl := mem_at 371 (by decide +kernel)
def M_Van_refuse : mi := (⟨"VanRounds", "refuse", "(I)I"⟩, prog_1_method_33_code, 2, some .int)
theorem cd_Van_refuse : Cond.code M_Van_refuse.1 M_Van_refuse.2.1 M_Van_refuse.2.2.1 M_Van_refuse.2.2.2 ∈ lw_tbl := mem_at 376 (by decide +kernel)
theorem in_Van_refuse : Cond.initialized M_Van_refuse.1.cls ∈ lw_tbl := mem_at 52 (by decide +kernel)
theorem im_Van_refuse : Cond.instanceMethod M_Van_refuse.1 ∈ lw_tbl := mem_at 375 (by decide +kernel)
theorem se_Van_refuse : Cond.selects M_Van_refuse.1.cls M_Van_refuse.1 M_Van_refuse.1 ∈ lw_tbl := mem_at 0 (by decide +kernel)
def M_Town_hasStreet : mi := (⟨"VanRounds$Town", "hasStreet", "(II)Z"⟩, prog_6_method_3_code, 3, some .boolean)
theorem cd_Town_hasStreet : Cond.code M_Town_hasStreet.1 M_Town_hasStreet.2.1 M_Town_hasStreet.2.2.1 M_Town_hasStreet.2.2.2 ∈ lw_tbl := mem_at 380 (by decide +kernel)
theorem in_Town_hasStreet : Cond.initialized M_Town_hasStreet.1.cls ∈ lw_tbl := mem_at 55 (by decide +kernel)
theorem im_Town_hasStreet : Cond.instanceMethod M_Town_hasStreet.1 ∈ lw_tbl := mem_at 378 (by decide +kernel)
theorem se_Town_hasStreet : Cond.selects M_Town_hasStreet.1.cls M_Town_hasStreet.1 M_Town_hasStreet.1 ∈ lw_tbl := mem_at 379 (by decide +kernel)
def M_Town_first : mi := (⟨"VanRounds$Town", "first", "(II)I"⟩, prog_6_method_2_code, 3, some .int)
theorem cd_Town_first : Cond.code M_Town_first.1 M_Town_first.2.1 M_Town_first.2.2.1 M_Town_first.2.2.2 ∈ lw_tbl := mem_at 384 (by decide +kernel)
theorem in_Town_first : Cond.initialized M_Town_first.1.cls ∈ lw_tbl := mem_at 55 (by decide +kernel)
theorem im_Town_first : Cond.instanceMethod M_Town_first.1 ∈ lw_tbl := mem_at 383 (by decide +kernel)
theorem se_Town_first : Cond.selects M_Town_first.1.cls M_Town_first.1 M_Town_first.1 ∈ lw_tbl := mem_at 1 (by decide +kernel)
def M_Town_remember : mi := (⟨"VanRounds$Town", "remember", "(II)V"⟩, prog_6_method_7_code, 3, none)
theorem cd_Town_remember : Cond.code M_Town_remember.1 M_Town_remember.2.1 M_Town_remember.2.2.1 M_Town_remember.2.2.2 ∈ lw_tbl := mem_at 388 (by decide +kernel)
theorem in_Town_remember : Cond.initialized M_Town_remember.1.cls ∈ lw_tbl := mem_at 55 (by decide +kernel)
theorem im_Town_remember : Cond.instanceMethod M_Town_remember.1 ∈ lw_tbl := mem_at 386 (by decide +kernel)
theorem se_Town_remember : Cond.selects M_Town_remember.1.cls M_Town_remember.1 M_Town_remember.1 ∈ lw_tbl := mem_at 387 (by decide +kernel)
def M_Town_setDay : mi := (⟨"VanRounds$Town", "setDay", "(III)V"⟩, prog_6_method_6_code, 5, none)
theorem cd_Town_setDay : Cond.code M_Town_setDay.1 M_Town_setDay.2.1 M_Town_setDay.2.2.1 M_Town_setDay.2.2.2 ∈ lw_tbl := mem_at 395 (by decide +kernel)
theorem in_Town_setDay : Cond.initialized M_Town_setDay.1.cls ∈ lw_tbl := mem_at 55 (by decide +kernel)
theorem im_Town_setDay : Cond.instanceMethod M_Town_setDay.1 ∈ lw_tbl := mem_at 393 (by decide +kernel)
theorem se_Town_setDay : Cond.selects M_Town_setDay.1.cls M_Town_setDay.1 M_Town_setDay.1 ∈ lw_tbl := mem_at 394 (by decide +kernel)
def M_Town_reckon : mi := (⟨"VanRounds$Town", "reckon", "(II)V"⟩, prog_6_method_9_code, 5, none)
theorem cd_Town_reckon : Cond.code M_Town_reckon.1 M_Town_reckon.2.1 M_Town_reckon.2.2.1 M_Town_reckon.2.2.2 ∈ lw_tbl := mem_at 399 (by decide +kernel)
theorem in_Town_reckon : Cond.initialized M_Town_reckon.1.cls ∈ lw_tbl := mem_at 55 (by decide +kernel)
theorem im_Town_reckon : Cond.instanceMethod M_Town_reckon.1 ∈ lw_tbl := mem_at 398 (by decide +kernel)
theorem se_Town_reckon : Cond.selects M_Town_reckon.1.cls M_Town_reckon.1 M_Town_reckon.1 ∈ lw_tbl := mem_at 2 (by decide +kernel)
def M_Town_minutes : mi := (⟨"VanRounds$Town", "minutes", "(III)I"⟩, prog_6_method_4_code, 4, some .int)
theorem cd_Town_minutes : Cond.code M_Town_minutes.1 M_Town_minutes.2.1 M_Town_minutes.2.2.1 M_Town_minutes.2.2.2 ∈ lw_tbl := mem_at 404 (by decide +kernel)
theorem in_Town_minutes : Cond.initialized M_Town_minutes.1.cls ∈ lw_tbl := mem_at 55 (by decide +kernel)
theorem im_Town_minutes : Cond.instanceMethod M_Town_minutes.1 ∈ lw_tbl := mem_at 402 (by decide +kernel)
theorem se_Town_minutes : Cond.selects M_Town_minutes.1.cls M_Town_minutes.1 M_Town_minutes.1 ∈ lw_tbl := mem_at 403 (by decide +kernel)
def M_Trip_total : mi := (⟨"VanRounds$Trip", "total", "(LVanRounds$Plan;)I"⟩, prog_7_method_3_code, 4, some .int)
theorem cd_Trip_total : Cond.code M_Trip_total.1 M_Trip_total.2.1 M_Trip_total.2.2.1 M_Trip_total.2.2.2 ∈ lw_tbl := mem_at 411 (by decide +kernel)
theorem in_Trip_total : Cond.initialized M_Trip_total.1.cls ∈ lw_tbl := mem_at 54 (by decide +kernel)
theorem im_Trip_total : Cond.instanceMethod M_Trip_total.1 ∈ lw_tbl := mem_at 409 (by decide +kernel)
theorem se_Trip_total : Cond.selects M_Trip_total.1.cls M_Trip_total.1 M_Trip_total.1 ∈ lw_tbl := mem_at 410 (by decide +kernel)
def M_Trip_judge : mi := (⟨"VanRounds$Trip", "judge", "(LVanRounds$Plan;I)I"⟩, prog_7_method_2_code, 5, some .int)
theorem cd_Trip_judge : Cond.code M_Trip_judge.1 M_Trip_judge.2.1 M_Trip_judge.2.2.1 M_Trip_judge.2.2.2 ∈ lw_tbl := mem_at 415 (by decide +kernel)
theorem in_Trip_judge : Cond.initialized M_Trip_judge.1.cls ∈ lw_tbl := mem_at 54 (by decide +kernel)
theorem im_Trip_judge : Cond.instanceMethod M_Trip_judge.1 ∈ lw_tbl := mem_at 413 (by decide +kernel)
theorem se_Trip_judge : Cond.selects M_Trip_judge.1.cls M_Trip_judge.1 M_Trip_judge.1 ∈ lw_tbl := mem_at 414 (by decide +kernel)
def M_Trip_isPaired : mi := (⟨"VanRounds$Trip", "isPaired", "([II)Z"⟩, prog_7_method_5_code, 9, some .boolean)
theorem cd_Trip_isPaired : Cond.code M_Trip_isPaired.1 M_Trip_isPaired.2.1 M_Trip_isPaired.2.2.1 M_Trip_isPaired.2.2.2 ∈ lw_tbl := mem_at 419 (by decide +kernel)
theorem in_Trip_isPaired : Cond.initialized M_Trip_isPaired.1.cls ∈ lw_tbl := mem_at 54 (by decide +kernel)
theorem im_Trip_isPaired : Cond.instanceMethod M_Trip_isPaired.1 ∈ lw_tbl := mem_at 418 (by decide +kernel)
theorem se_Trip_isPaired : Cond.selects M_Trip_isPaired.1.cls M_Trip_isPaired.1 M_Trip_isPaired.1 ∈ lw_tbl := mem_at 3 (by decide +kernel)
def M_Trip_isCarried : mi := (⟨"VanRounds$Trip", "isCarried", "(I[II)Z"⟩, prog_7_method_6_code, 7, some .boolean)
theorem cd_Trip_isCarried : Cond.code M_Trip_isCarried.1 M_Trip_isCarried.2.1 M_Trip_isCarried.2.2.1 M_Trip_isCarried.2.2.2 ∈ lw_tbl := mem_at 423 (by decide +kernel)
theorem in_Trip_isCarried : Cond.initialized M_Trip_isCarried.1.cls ∈ lw_tbl := mem_at 54 (by decide +kernel)
theorem im_Trip_isCarried : Cond.instanceMethod M_Trip_isCarried.1 ∈ lw_tbl := mem_at 422 (by decide +kernel)
theorem se_Trip_isCarried : Cond.selects M_Trip_isCarried.1.cls M_Trip_isCarried.1 M_Trip_isCarried.1 ∈ lw_tbl := mem_at 4 (by decide +kernel)
def M_Stops_isAboardAtFirst : mi := (⟨"VanRounds$Stops", "isAboardAtFirst", "(I)Z"⟩, prog_5_method_7_code, 2, some .boolean)
theorem cd_Stops_isAboardAtFirst : Cond.code M_Stops_isAboardAtFirst.1 M_Stops_isAboardAtFirst.2.1 M_Stops_isAboardAtFirst.2.2.1 M_Stops_isAboardAtFirst.2.2.2 ∈ lw_tbl := mem_at 427 (by decide +kernel)
theorem in_Stops_isAboardAtFirst : Cond.initialized M_Stops_isAboardAtFirst.1.cls ∈ lw_tbl := mem_at 56 (by decide +kernel)
theorem im_Stops_isAboardAtFirst : Cond.instanceMethod M_Stops_isAboardAtFirst.1 ∈ lw_tbl := mem_at 425 (by decide +kernel)
theorem se_Stops_isAboardAtFirst : Cond.selects M_Stops_isAboardAtFirst.1.cls M_Stops_isAboardAtFirst.1 M_Stops_isAboardAtFirst.1 ∈ lw_tbl := mem_at 426 (by decide +kernel)
def M_Stops_amountOf : mi := (⟨"VanRounds$Stops", "amountOf", "(I)I"⟩, prog_5_method_6_code, 2, some .int)
theorem cd_Stops_amountOf : Cond.code M_Stops_amountOf.1 M_Stops_amountOf.2.1 M_Stops_amountOf.2.2.1 M_Stops_amountOf.2.2.2 ∈ lw_tbl := mem_at 431 (by decide +kernel)
theorem in_Stops_amountOf : Cond.initialized M_Stops_amountOf.1.cls ∈ lw_tbl := mem_at 56 (by decide +kernel)
theorem im_Stops_amountOf : Cond.instanceMethod M_Stops_amountOf.1 ∈ lw_tbl := mem_at 429 (by decide +kernel)
theorem se_Stops_amountOf : Cond.selects M_Stops_amountOf.1.cls M_Stops_amountOf.1 M_Stops_amountOf.1 ∈ lw_tbl := mem_at 430 (by decide +kernel)
def M_Trip_isInTime : mi := (⟨"VanRounds$Trip", "isInTime", "(I[II)Z"⟩, prog_7_method_7_code, 9, some .boolean)
theorem cd_Trip_isInTime : Cond.code M_Trip_isInTime.1 M_Trip_isInTime.2.1 M_Trip_isInTime.2.2.1 M_Trip_isInTime.2.2.2 ∈ lw_tbl := mem_at 435 (by decide +kernel)
theorem in_Trip_isInTime : Cond.initialized M_Trip_isInTime.1.cls ∈ lw_tbl := mem_at 54 (by decide +kernel)
theorem im_Trip_isInTime : Cond.instanceMethod M_Trip_isInTime.1 ∈ lw_tbl := mem_at 434 (by decide +kernel)
theorem se_Trip_isInTime : Cond.selects M_Trip_isInTime.1.cls M_Trip_isInTime.1 M_Trip_isInTime.1 ∈ lw_tbl := mem_at 5 (by decide +kernel)
def M_Town_comes : mi := (⟨"VanRounds$Town", "comes", "(III)I"⟩, prog_6_method_10_code, 6, some .int)
theorem cd_Town_comes : Cond.code M_Town_comes.1 M_Town_comes.2.1 M_Town_comes.2.2.1 M_Town_comes.2.2.2 ∈ lw_tbl := mem_at 439 (by decide +kernel)
theorem in_Town_comes : Cond.initialized M_Town_comes.1.cls ∈ lw_tbl := mem_at 55 (by decide +kernel)
theorem im_Town_comes : Cond.instanceMethod M_Town_comes.1 ∈ lw_tbl := mem_at 437 (by decide +kernel)
theorem se_Town_comes : Cond.selects M_Town_comes.1.cls M_Town_comes.1 M_Town_comes.1 ∈ lw_tbl := mem_at 438 (by decide +kernel)
def M_Town_walk : mi := (⟨"VanRounds$Town", "walk", "(III)V"⟩, prog_6_method_11_code, 11, none)
theorem cd_Town_walk : Cond.code M_Town_walk.1 M_Town_walk.2.1 M_Town_walk.2.2.1 M_Town_walk.2.2.2 ∈ lw_tbl := mem_at 443 (by decide +kernel)
theorem in_Town_walk : Cond.initialized M_Town_walk.1.cls ∈ lw_tbl := mem_at 55 (by decide +kernel)
theorem im_Town_walk : Cond.instanceMethod M_Town_walk.1 ∈ lw_tbl := mem_at 442 (by decide +kernel)
theorem se_Town_walk : Cond.selects M_Town_walk.1.cls M_Town_walk.1 M_Town_walk.1 ∈ lw_tbl := mem_at 6 (by decide +kernel)
def M_Trip_isBack : mi := (⟨"VanRounds$Trip", "isBack", "(I[II)Z"⟩, prog_7_method_8_code, 5, some .boolean)
theorem cd_Trip_isBack : Cond.code M_Trip_isBack.1 M_Trip_isBack.2.1 M_Trip_isBack.2.2.1 M_Trip_isBack.2.2.2 ∈ lw_tbl := mem_at 450 (by decide +kernel)
theorem in_Trip_isBack : Cond.initialized M_Trip_isBack.1.cls ∈ lw_tbl := mem_at 54 (by decide +kernel)
theorem im_Trip_isBack : Cond.instanceMethod M_Trip_isBack.1 ∈ lw_tbl := mem_at 449 (by decide +kernel)
theorem se_Trip_isBack : Cond.selects M_Trip_isBack.1.cls M_Trip_isBack.1 M_Trip_isBack.1 ∈ lw_tbl := mem_at 7 (by decide +kernel)
def M_Town_restore : mi := (⟨"VanRounds$Town", "restore", "(II)V"⟩, prog_6_method_8_code, 3, none)
theorem cd_Town_restore : Cond.code M_Town_restore.1 M_Town_restore.2.1 M_Town_restore.2.2.1 M_Town_restore.2.2.2 ∈ lw_tbl := mem_at 454 (by decide +kernel)
theorem in_Town_restore : Cond.initialized M_Town_restore.1.cls ∈ lw_tbl := mem_at 55 (by decide +kernel)
theorem im_Town_restore : Cond.instanceMethod M_Town_restore.1 ∈ lw_tbl := mem_at 452 (by decide +kernel)
theorem se_Town_restore : Cond.selects M_Town_restore.1.cls M_Town_restore.1 M_Town_restore.1 ∈ lw_tbl := mem_at 453 (by decide +kernel)
def M_Past_forget : mi := (⟨"VanRounds$Past", "forget", "()V"⟩, prog_2_method_2_code, 1, none)
theorem cd_Past_forget : Cond.code M_Past_forget.1 M_Past_forget.2.1 M_Past_forget.2.2.1 M_Past_forget.2.2.2 ∈ lw_tbl := mem_at 458 (by decide +kernel)
theorem in_Past_forget : Cond.initialized M_Past_forget.1.cls ∈ lw_tbl := mem_at 59 (by decide +kernel)
theorem im_Past_forget : Cond.instanceMethod M_Past_forget.1 ∈ lw_tbl := mem_at 456 (by decide +kernel)
theorem se_Past_forget : Cond.selects M_Past_forget.1.cls M_Past_forget.1 M_Past_forget.1 ∈ lw_tbl := mem_at 457 (by decide +kernel)
def M_Van_slow : mi := (⟨"VanRounds", "slow", "(IIII)I"⟩, prog_1_method_3_code, 6, some .int)
theorem cd_Van_slow : Cond.code M_Van_slow.1 M_Van_slow.2.1 M_Van_slow.2.2.1 M_Van_slow.2.2.2 ∈ lw_tbl := mem_at 462 (by decide +kernel)
theorem in_Van_slow : Cond.initialized M_Van_slow.1.cls ∈ lw_tbl := mem_at 52 (by decide +kernel)
theorem im_Van_slow : Cond.instanceMethod M_Van_slow.1 ∈ lw_tbl := mem_at 460 (by decide +kernel)
theorem se_Van_slow : Cond.selects M_Van_slow.1.cls M_Van_slow.1 M_Van_slow.1 ∈ lw_tbl := mem_at 461 (by decide +kernel)
def M_Town_setHour : mi := (⟨"VanRounds$Town", "setHour", "(IIII)V"⟩, prog_6_method_5_code, 5, none)
theorem cd_Town_setHour : Cond.code M_Town_setHour.1 M_Town_setHour.2.1 M_Town_setHour.2.2.1 M_Town_setHour.2.2.2 ∈ lw_tbl := mem_at 467 (by decide +kernel)
theorem in_Town_setHour : Cond.initialized M_Town_setHour.1.cls ∈ lw_tbl := mem_at 55 (by decide +kernel)
theorem im_Town_setHour : Cond.instanceMethod M_Town_setHour.1 ∈ lw_tbl := mem_at 465 (by decide +kernel)
theorem se_Town_setHour : Cond.selects M_Town_setHour.1.cls M_Town_setHour.1 M_Town_setHour.1 ∈ lw_tbl := mem_at 466 (by decide +kernel)
def M_Van_way : mi := (⟨"VanRounds", "way", "(III)I"⟩, prog_1_method_4_code, 5, some .int)
theorem cd_Van_way : Cond.code M_Van_way.1 M_Van_way.2.1 M_Van_way.2.2.1 M_Van_way.2.2.2 ∈ lw_tbl := mem_at 471 (by decide +kernel)
theorem in_Van_way : Cond.initialized M_Van_way.1.cls ∈ lw_tbl := mem_at 52 (by decide +kernel)
theorem im_Van_way : Cond.instanceMethod M_Van_way.1 ∈ lw_tbl := mem_at 469 (by decide +kernel)
theorem se_Van_way : Cond.selects M_Van_way.1.cls M_Van_way.1 M_Van_way.1 ∈ lw_tbl := mem_at 470 (by decide +kernel)
def M_Van_stop : mi := (⟨"VanRounds", "stop", "(IIII)I"⟩, prog_1_method_5_code, 7, some .int)
theorem cd_Van_stop : Cond.code M_Van_stop.1 M_Van_stop.2.1 M_Van_stop.2.2.1 M_Van_stop.2.2.2 ∈ lw_tbl := mem_at 477 (by decide +kernel)
theorem in_Van_stop : Cond.initialized M_Van_stop.1.cls ∈ lw_tbl := mem_at 52 (by decide +kernel)
theorem im_Van_stop : Cond.instanceMethod M_Van_stop.1 ∈ lw_tbl := mem_at 475 (by decide +kernel)
theorem se_Van_stop : Cond.selects M_Van_stop.1.cls M_Van_stop.1 M_Van_stop.1 ∈ lw_tbl := mem_at 476 (by decide +kernel)
def M_Stops_has : mi := (⟨"VanRounds$Stops", "has", "(I)Z"⟩, prog_5_method_2_code, 2, some .boolean)
theorem cd_Stops_has : Cond.code M_Stops_has.1 M_Stops_has.2.1 M_Stops_has.2.2.1 M_Stops_has.2.2.2 ∈ lw_tbl := mem_at 481 (by decide +kernel)
theorem in_Stops_has : Cond.initialized M_Stops_has.1.cls ∈ lw_tbl := mem_at 56 (by decide +kernel)
theorem im_Stops_has : Cond.instanceMethod M_Stops_has.1 ∈ lw_tbl := mem_at 479 (by decide +kernel)
theorem se_Stops_has : Cond.selects M_Stops_has.1.cls M_Stops_has.1 M_Stops_has.1 ∈ lw_tbl := mem_at 480 (by decide +kernel)
def M_Plan_vanWith : mi := (⟨"VanRounds$Plan", "vanWith", "(I)I"⟩, prog_3_method_6_code, 4, some .int)
theorem cd_Plan_vanWith : Cond.code M_Plan_vanWith.1 M_Plan_vanWith.2.1 M_Plan_vanWith.2.2.1 M_Plan_vanWith.2.2.2 ∈ lw_tbl := mem_at 485 (by decide +kernel)
theorem in_Plan_vanWith : Cond.initialized M_Plan_vanWith.1.cls ∈ lw_tbl := mem_at 58 (by decide +kernel)
theorem im_Plan_vanWith : Cond.instanceMethod M_Plan_vanWith.1 ∈ lw_tbl := mem_at 483 (by decide +kernel)
theorem se_Plan_vanWith : Cond.selects M_Plan_vanWith.1.cls M_Plan_vanWith.1 M_Plan_vanWith.1 ∈ lw_tbl := mem_at 484 (by decide +kernel)
def M_Van_isSpan : mi := (⟨"VanRounds", "isSpan", "(I)Z"⟩, prog_1_method_41_code, 3, some .boolean)
theorem cd_Van_isSpan : Cond.code M_Van_isSpan.1 M_Van_isSpan.2.1 M_Van_isSpan.2.2.1 M_Van_isSpan.2.2.2 ∈ lw_tbl := mem_at 488 (by decide +kernel)
theorem in_Van_isSpan : Cond.initialized M_Van_isSpan.1.cls ∈ lw_tbl := mem_at 52 (by decide +kernel)
theorem st_Van_isSpan : Cond.static M_Van_isSpan.1 ∈ lw_tbl := mem_at 487 (by decide +kernel)
def M_Van_isService : mi := (⟨"VanRounds", "isService", "(II)Z"⟩, prog_1_method_42_code, 2, some .boolean)
theorem cd_Van_isService : Cond.code M_Van_isService.1 M_Van_isService.2.1 M_Van_isService.2.2.1 M_Van_isService.2.2.2 ∈ lw_tbl := mem_at 491 (by decide +kernel)
theorem in_Van_isService : Cond.initialized M_Van_isService.1.cls ∈ lw_tbl := mem_at 52 (by decide +kernel)
theorem st_Van_isService : Cond.static M_Van_isService.1 ∈ lw_tbl := mem_at 490 (by decide +kernel)
def M_Stops_add : mi := (⟨"VanRounds$Stops", "add", "(III)I"⟩, prog_5_method_3_code, 5, some .int)
theorem cd_Stops_add : Cond.code M_Stops_add.1 M_Stops_add.2.1 M_Stops_add.2.2.1 M_Stops_add.2.2.2 ∈ lw_tbl := mem_at 495 (by decide +kernel)
theorem in_Stops_add : Cond.initialized M_Stops_add.1.cls ∈ lw_tbl := mem_at 56 (by decide +kernel)
theorem im_Stops_add : Cond.instanceMethod M_Stops_add.1 ∈ lw_tbl := mem_at 493 (by decide +kernel)
theorem se_Stops_add : Cond.selects M_Stops_add.1.cls M_Stops_add.1 M_Stops_add.1 ∈ lw_tbl := mem_at 494 (by decide +kernel)
def M_Stops_setSpan : mi := (⟨"VanRounds$Stops", "setSpan", "(II)V"⟩, prog_5_method_5_code, 3, none)
theorem cd_Stops_setSpan : Cond.code M_Stops_setSpan.1 M_Stops_setSpan.2.1 M_Stops_setSpan.2.2.1 M_Stops_setSpan.2.2.2 ∈ lw_tbl := mem_at 499 (by decide +kernel)
theorem in_Stops_setSpan : Cond.initialized M_Stops_setSpan.1.cls ∈ lw_tbl := mem_at 56 (by decide +kernel)
theorem im_Stops_setSpan : Cond.instanceMethod M_Stops_setSpan.1 ∈ lw_tbl := mem_at 497 (by decide +kernel)
theorem se_Stops_setSpan : Cond.selects M_Stops_setSpan.1.cls M_Stops_setSpan.1 M_Stops_setSpan.1 ∈ lw_tbl := mem_at 498 (by decide +kernel)
def M_Stops_join : mi := (⟨"VanRounds$Stops", "join", "(II)V"⟩, prog_5_method_4_code, 3, none)
theorem cd_Stops_join : Cond.code M_Stops_join.1 M_Stops_join.2.1 M_Stops_join.2.2.1 M_Stops_join.2.2.2 ∈ lw_tbl := mem_at 503 (by decide +kernel)
theorem in_Stops_join : Cond.initialized M_Stops_join.1.cls ∈ lw_tbl := mem_at 56 (by decide +kernel)
theorem im_Stops_join : Cond.instanceMethod M_Stops_join.1 ∈ lw_tbl := mem_at 501 (by decide +kernel)
theorem se_Stops_join : Cond.selects M_Stops_join.1.cls M_Stops_join.1 M_Stops_join.1 ∈ lw_tbl := mem_at 502 (by decide +kernel)
def M_Van_span : mi := (⟨"VanRounds", "span", "(II)I"⟩, prog_1_method_6_code, 4, some .int)
theorem cd_Van_span : Cond.code M_Van_span.1 M_Van_span.2.1 M_Van_span.2.2.1 M_Van_span.2.2.2 ∈ lw_tbl := mem_at 507 (by decide +kernel)
theorem in_Van_span : Cond.initialized M_Van_span.1.cls ∈ lw_tbl := mem_at 52 (by decide +kernel)
theorem im_Van_span : Cond.instanceMethod M_Van_span.1 ∈ lw_tbl := mem_at 505 (by decide +kernel)
theorem se_Van_span : Cond.selects M_Van_span.1.cls M_Van_span.1 M_Van_span.1 ∈ lw_tbl := mem_at 506 (by decide +kernel)
def M_Van_price : mi := (⟨"VanRounds", "price", "(II)I"⟩, prog_1_method_7_code, 4, some .int)
theorem cd_Van_price : Cond.code M_Van_price.1 M_Van_price.2.1 M_Van_price.2.2.1 M_Van_price.2.2.2 ∈ lw_tbl := mem_at 511 (by decide +kernel)
theorem in_Van_price : Cond.initialized M_Van_price.1.cls ∈ lw_tbl := mem_at 52 (by decide +kernel)
theorem im_Van_price : Cond.instanceMethod M_Van_price.1 ∈ lw_tbl := mem_at 509 (by decide +kernel)
theorem se_Van_price : Cond.selects M_Van_price.1.cls M_Van_price.1 M_Van_price.1 ∈ lw_tbl := mem_at 510 (by decide +kernel)
def M_Van_van : mi := (⟨"VanRounds", "van", "(III)I"⟩, prog_1_method_8_code, 5, some .int)
theorem cd_Van_van : Cond.code M_Van_van.1 M_Van_van.2.1 M_Van_van.2.2.1 M_Van_van.2.2.2 ∈ lw_tbl := mem_at 515 (by decide +kernel)
theorem in_Van_van : Cond.initialized M_Van_van.1.cls ∈ lw_tbl := mem_at 52 (by decide +kernel)
theorem im_Van_van : Cond.instanceMethod M_Van_van.1 ∈ lw_tbl := mem_at 513 (by decide +kernel)
theorem se_Van_van : Cond.selects M_Van_van.1.cls M_Van_van.1 M_Van_van.1 ∈ lw_tbl := mem_at 514 (by decide +kernel)
def M_Vans_add : mi := (⟨"VanRounds$Vans", "add", "(II)I"⟩, prog_8_method_3_code, 4, some .int)
theorem cd_Vans_add : Cond.code M_Vans_add.1 M_Vans_add.2.1 M_Vans_add.2.2.1 M_Vans_add.2.2.2 ∈ lw_tbl := mem_at 519 (by decide +kernel)
theorem in_Vans_add : Cond.initialized M_Vans_add.1.cls ∈ lw_tbl := mem_at 57 (by decide +kernel)
theorem im_Vans_add : Cond.instanceMethod M_Vans_add.1 ∈ lw_tbl := mem_at 517 (by decide +kernel)
theorem se_Vans_add : Cond.selects M_Vans_add.1.cls M_Vans_add.1 M_Vans_add.1 ∈ lw_tbl := mem_at 518 (by decide +kernel)
def M_Vans_setShift : mi := (⟨"VanRounds$Vans", "setShift", "(II)V"⟩, prog_8_method_4_code, 3, none)
theorem cd_Vans_setShift : Cond.code M_Vans_setShift.1 M_Vans_setShift.2.1 M_Vans_setShift.2.2.1 M_Vans_setShift.2.2.2 ∈ lw_tbl := mem_at 523 (by decide +kernel)
theorem in_Vans_setShift : Cond.initialized M_Vans_setShift.1.cls ∈ lw_tbl := mem_at 57 (by decide +kernel)
theorem im_Vans_setShift : Cond.instanceMethod M_Vans_setShift.1 ∈ lw_tbl := mem_at 521 (by decide +kernel)
theorem se_Vans_setShift : Cond.selects M_Vans_setShift.1.cls M_Vans_setShift.1 M_Vans_setShift.1 ∈ lw_tbl := mem_at 522 (by decide +kernel)
def M_Van_shift : mi := (⟨"VanRounds", "shift", "(II)I"⟩, prog_1_method_9_code, 4, some .int)
theorem cd_Van_shift : Cond.code M_Van_shift.1 M_Van_shift.2.1 M_Van_shift.2.2.1 M_Van_shift.2.2.2 ∈ lw_tbl := mem_at 527 (by decide +kernel)
theorem in_Van_shift : Cond.initialized M_Van_shift.1.cls ∈ lw_tbl := mem_at 52 (by decide +kernel)
theorem im_Van_shift : Cond.instanceMethod M_Van_shift.1 ∈ lw_tbl := mem_at 525 (by decide +kernel)
theorem se_Van_shift : Cond.selects M_Van_shift.1.cls M_Van_shift.1 M_Van_shift.1 ∈ lw_tbl := mem_at 526 (by decide +kernel)
def M_Vans_has : mi := (⟨"VanRounds$Vans", "has", "(I)Z"⟩, prog_8_method_2_code, 2, some .boolean)
theorem cd_Vans_has : Cond.code M_Vans_has.1 M_Vans_has.2.1 M_Vans_has.2.2.1 M_Vans_has.2.2.2 ∈ lw_tbl := mem_at 531 (by decide +kernel)
theorem in_Vans_has : Cond.initialized M_Vans_has.1.cls ∈ lw_tbl := mem_at 57 (by decide +kernel)
theorem im_Vans_has : Cond.instanceMethod M_Vans_has.1 ∈ lw_tbl := mem_at 529 (by decide +kernel)
theorem se_Vans_has : Cond.selects M_Vans_has.1.cls M_Vans_has.1 M_Vans_has.1 ∈ lw_tbl := mem_at 530 (by decide +kernel)
def M_Van_look : mi := (⟨"VanRounds", "look", "(II)I"⟩, prog_1_method_10_code, 3, some .int)
theorem cd_Van_look : Cond.code M_Van_look.1 M_Van_look.2.1 M_Van_look.2.2.1 M_Van_look.2.2.2 ∈ lw_tbl := mem_at 535 (by decide +kernel)
theorem in_Van_look : Cond.initialized M_Van_look.1.cls ∈ lw_tbl := mem_at 52 (by decide +kernel)
theorem im_Van_look : Cond.instanceMethod M_Van_look.1 ∈ lw_tbl := mem_at 533 (by decide +kernel)
theorem se_Van_look : Cond.selects M_Van_look.1.cls M_Van_look.1 M_Van_look.1 ∈ lw_tbl := mem_at 534 (by decide +kernel)
def M_Plan_placeOf : mi := (⟨"VanRounds$Plan", "placeOf", "(I)I"⟩, prog_3_method_7_code, 4, some .int)
theorem cd_Plan_placeOf : Cond.code M_Plan_placeOf.1 M_Plan_placeOf.2.1 M_Plan_placeOf.2.2.1 M_Plan_placeOf.2.2.2 ∈ lw_tbl := mem_at 540 (by decide +kernel)
theorem in_Plan_placeOf : Cond.initialized M_Plan_placeOf.1.cls ∈ lw_tbl := mem_at 58 (by decide +kernel)
theorem im_Plan_placeOf : Cond.instanceMethod M_Plan_placeOf.1 ∈ lw_tbl := mem_at 538 (by decide +kernel)
theorem se_Plan_placeOf : Cond.selects M_Plan_placeOf.1.cls M_Plan_placeOf.1 M_Plan_placeOf.1 ∈ lw_tbl := mem_at 539 (by decide +kernel)
def M_Van_round : mi := (⟨"VanRounds", "round", "(II)I"⟩, prog_1_method_11_code, 3, some .int)
theorem cd_Van_round : Cond.code M_Van_round.1 M_Van_round.2.1 M_Van_round.2.2.1 M_Van_round.2.2.2 ∈ lw_tbl := mem_at 544 (by decide +kernel)
theorem in_Van_round : Cond.initialized M_Van_round.1.cls ∈ lw_tbl := mem_at 52 (by decide +kernel)
theorem im_Van_round : Cond.instanceMethod M_Van_round.1 ∈ lw_tbl := mem_at 542 (by decide +kernel)
theorem se_Van_round : Cond.selects M_Van_round.1.cls M_Van_round.1 M_Van_round.1 ∈ lw_tbl := mem_at 543 (by decide +kernel)
def M_Van_when : mi := (⟨"VanRounds", "when", "(III)I"⟩, prog_1_method_12_code, 5, some .int)
theorem cd_Van_when : Cond.code M_Van_when.1 M_Van_when.2.1 M_Van_when.2.2.1 M_Van_when.2.2.2 ∈ lw_tbl := mem_at 548 (by decide +kernel)
theorem in_Van_when : Cond.initialized M_Van_when.1.cls ∈ lw_tbl := mem_at 52 (by decide +kernel)
theorem im_Van_when : Cond.instanceMethod M_Van_when.1 ∈ lw_tbl := mem_at 546 (by decide +kernel)
theorem se_Van_when : Cond.selects M_Van_when.1.cls M_Van_when.1 M_Van_when.1 ∈ lw_tbl := mem_at 547 (by decide +kernel)
def M_Van_cost : mi := (⟨"VanRounds", "cost", "(I)I"⟩, prog_1_method_13_code, 2, some .int)
theorem cd_Van_cost : Cond.code M_Van_cost.1 M_Van_cost.2.1 M_Van_cost.2.2.1 M_Van_cost.2.2.2 ∈ lw_tbl := mem_at 553 (by decide +kernel)
theorem in_Van_cost : Cond.initialized M_Van_cost.1.cls ∈ lw_tbl := mem_at 52 (by decide +kernel)
theorem im_Van_cost : Cond.instanceMethod M_Van_cost.1 ∈ lw_tbl := mem_at 551 (by decide +kernel)
theorem se_Van_cost : Cond.selects M_Van_cost.1.cls M_Van_cost.1 M_Van_cost.1 ∈ lw_tbl := mem_at 552 (by decide +kernel)
def M_Van_why : mi := (⟨"VanRounds", "why", "(III)I"⟩, prog_1_method_14_code, 5, some .int)
theorem cd_Van_why : Cond.code M_Van_why.1 M_Van_why.2.1 M_Van_why.2.2.1 M_Van_why.2.2.2 ∈ lw_tbl := mem_at 557 (by decide +kernel)
theorem in_Van_why : Cond.initialized M_Van_why.1.cls ∈ lw_tbl := mem_at 52 (by decide +kernel)
theorem im_Van_why : Cond.instanceMethod M_Van_why.1 ∈ lw_tbl := mem_at 555 (by decide +kernel)
theorem se_Van_why : Cond.selects M_Van_why.1.cls M_Van_why.1 M_Van_why.1 ∈ lw_tbl := mem_at 556 (by decide +kernel)
def M_Van_isGap : mi := (⟨"VanRounds", "isGap", "(II)Z"⟩, prog_1_method_38_code, 3, some .boolean)
theorem cd_Van_isGap : Cond.code M_Van_isGap.1 M_Van_isGap.2.1 M_Van_isGap.2.2.1 M_Van_isGap.2.2.2 ∈ lw_tbl := mem_at 561 (by decide +kernel)
theorem in_Van_isGap : Cond.initialized M_Van_isGap.1.cls ∈ lw_tbl := mem_at 52 (by decide +kernel)
theorem im_Van_isGap : Cond.instanceMethod M_Van_isGap.1 ∈ lw_tbl := mem_at 560 (by decide +kernel)
theorem se_Van_isGap : Cond.selects M_Van_isGap.1.cls M_Van_isGap.1 M_Van_isGap.1 ∈ lw_tbl := mem_at 8 (by decide +kernel)
def M_Plan_become : mi := (⟨"VanRounds$Plan", "become", "(LVanRounds$Plan;)V"⟩, prog_3_method_4_code, 3, none)
theorem cd_Plan_become : Cond.code M_Plan_become.1 M_Plan_become.2.1 M_Plan_become.2.2.1 M_Plan_become.2.2.2 ∈ lw_tbl := mem_at 565 (by decide +kernel)
theorem in_Plan_become : Cond.initialized M_Plan_become.1.cls ∈ lw_tbl := mem_at 58 (by decide +kernel)
theorem im_Plan_become : Cond.instanceMethod M_Plan_become.1 ∈ lw_tbl := mem_at 563 (by decide +kernel)
theorem se_Plan_become : Cond.selects M_Plan_become.1.cls M_Plan_become.1 M_Plan_become.1 ∈ lw_tbl := mem_at 564 (by decide +kernel)
def M_Plan_insert : mi := (⟨"VanRounds$Plan", "insert", "(III)V"⟩, prog_3_method_8_code, 5, none)
theorem cd_Plan_insert : Cond.code M_Plan_insert.1 M_Plan_insert.2.1 M_Plan_insert.2.2.1 M_Plan_insert.2.2.2 ∈ lw_tbl := mem_at 570 (by decide +kernel)
theorem in_Plan_insert : Cond.initialized M_Plan_insert.1.cls ∈ lw_tbl := mem_at 58 (by decide +kernel)
theorem im_Plan_insert : Cond.instanceMethod M_Plan_insert.1 ∈ lw_tbl := mem_at 568 (by decide +kernel)
theorem se_Plan_insert : Cond.selects M_Plan_insert.1.cls M_Plan_insert.1 M_Plan_insert.1 ∈ lw_tbl := mem_at 569 (by decide +kernel)
def M_Van_where : mi := (⟨"VanRounds", "where", "()I"⟩, prog_1_method_15_code, 1, some .int)
theorem cd_Van_where : Cond.code M_Van_where.1 M_Van_where.2.1 M_Van_where.2.2.1 M_Van_where.2.2.2 ∈ lw_tbl := mem_at 574 (by decide +kernel)
theorem in_Van_where : Cond.initialized M_Van_where.1.cls ∈ lw_tbl := mem_at 52 (by decide +kernel)
theorem im_Van_where : Cond.instanceMethod M_Van_where.1 ∈ lw_tbl := mem_at 572 (by decide +kernel)
theorem se_Van_where : Cond.selects M_Van_where.1.cls M_Van_where.1 M_Van_where.1 ∈ lw_tbl := mem_at 573 (by decide +kernel)
def M_Van_put : mi := (⟨"VanRounds", "put", "(III)I"⟩, prog_1_method_16_code, 4, some .int)
theorem cd_Van_put : Cond.code M_Van_put.1 M_Van_put.2.1 M_Van_put.2.2.1 M_Van_put.2.2.2 ∈ lw_tbl := mem_at 578 (by decide +kernel)
theorem in_Van_put : Cond.initialized M_Van_put.1.cls ∈ lw_tbl := mem_at 52 (by decide +kernel)
theorem im_Van_put : Cond.instanceMethod M_Van_put.1 ∈ lw_tbl := mem_at 576 (by decide +kernel)
theorem se_Van_put : Cond.selects M_Van_put.1.cls M_Van_put.1 M_Van_put.1 ∈ lw_tbl := mem_at 577 (by decide +kernel)
def M_Van_settle : mi := (⟨"VanRounds", "settle", "()I"⟩, prog_1_method_34_code, 2, some .int)
theorem cd_Van_settle : Cond.code M_Van_settle.1 M_Van_settle.2.1 M_Van_settle.2.2.1 M_Van_settle.2.2.2 ∈ lw_tbl := mem_at 582 (by decide +kernel)
theorem in_Van_settle : Cond.initialized M_Van_settle.1.cls ∈ lw_tbl := mem_at 52 (by decide +kernel)
theorem im_Van_settle : Cond.instanceMethod M_Van_settle.1 ∈ lw_tbl := mem_at 581 (by decide +kernel)
theorem se_Van_settle : Cond.selects M_Van_settle.1.cls M_Van_settle.1 M_Van_settle.1 ∈ lw_tbl := mem_at 9 (by decide +kernel)
def M_Van_adopt : mi := (⟨"VanRounds", "adopt", "()V"⟩, prog_1_method_35_code, 1, none)
theorem cd_Van_adopt : Cond.code M_Van_adopt.1 M_Van_adopt.2.1 M_Van_adopt.2.2.1 M_Van_adopt.2.2.2 ∈ lw_tbl := mem_at 586 (by decide +kernel)
theorem in_Van_adopt : Cond.initialized M_Van_adopt.1.cls ∈ lw_tbl := mem_at 52 (by decide +kernel)
theorem im_Van_adopt : Cond.instanceMethod M_Van_adopt.1 ∈ lw_tbl := mem_at 585 (by decide +kernel)
theorem se_Van_adopt : Cond.selects M_Van_adopt.1.cls M_Van_adopt.1 M_Van_adopt.1 ∈ lw_tbl := mem_at 10 (by decide +kernel)
def M_Plan_isLike : mi := (⟨"VanRounds$Plan", "isLike", "(LVanRounds$Plan;)Z"⟩, prog_3_method_5_code, 4, some .boolean)
theorem cd_Plan_isLike : Cond.code M_Plan_isLike.1 M_Plan_isLike.2.1 M_Plan_isLike.2.2.1 M_Plan_isLike.2.2.2 ∈ lw_tbl := mem_at 590 (by decide +kernel)
theorem in_Plan_isLike : Cond.initialized M_Plan_isLike.1.cls ∈ lw_tbl := mem_at 58 (by decide +kernel)
theorem im_Plan_isLike : Cond.instanceMethod M_Plan_isLike.1 ∈ lw_tbl := mem_at 588 (by decide +kernel)
theorem se_Plan_isLike : Cond.selects M_Plan_isLike.1.cls M_Plan_isLike.1 M_Plan_isLike.1 ∈ lw_tbl := mem_at 589 (by decide +kernel)
def M_Past_keep : mi := (⟨"VanRounds$Past", "keep", "(LVanRounds$Plan;)V"⟩, prog_2_method_3_code, 2, none)
theorem cd_Past_keep : Cond.code M_Past_keep.1 M_Past_keep.2.1 M_Past_keep.2.2.1 M_Past_keep.2.2.2 ∈ lw_tbl := mem_at 594 (by decide +kernel)
theorem in_Past_keep : Cond.initialized M_Past_keep.1.cls ∈ lw_tbl := mem_at 59 (by decide +kernel)
theorem im_Past_keep : Cond.instanceMethod M_Past_keep.1 ∈ lw_tbl := mem_at 592 (by decide +kernel)
theorem se_Past_keep : Cond.selects M_Past_keep.1.cls M_Past_keep.1 M_Past_keep.1 ∈ lw_tbl := mem_at 593 (by decide +kernel)
def M_Van_pair : mi := (⟨"VanRounds", "pair", "(IIII)I"⟩, prog_1_method_17_code, 6, some .int)
theorem cd_Van_pair : Cond.code M_Van_pair.1 M_Van_pair.2.1 M_Van_pair.2.2.1 M_Van_pair.2.2.2 ∈ lw_tbl := mem_at 599 (by decide +kernel)
theorem in_Van_pair : Cond.initialized M_Van_pair.1.cls ∈ lw_tbl := mem_at 52 (by decide +kernel)
theorem im_Van_pair : Cond.instanceMethod M_Van_pair.1 ∈ lw_tbl := mem_at 597 (by decide +kernel)
theorem se_Van_pair : Cond.selects M_Van_pair.1.cls M_Van_pair.1 M_Van_pair.1 ∈ lw_tbl := mem_at 598 (by decide +kernel)
def M_Van_take : mi := (⟨"VanRounds", "take", "(I)I"⟩, prog_1_method_18_code, 2, some .int)
theorem cd_Van_take : Cond.code M_Van_take.1 M_Van_take.2.1 M_Van_take.2.2.1 M_Van_take.2.2.2 ∈ lw_tbl := mem_at 603 (by decide +kernel)
theorem in_Van_take : Cond.initialized M_Van_take.1.cls ∈ lw_tbl := mem_at 52 (by decide +kernel)
theorem im_Van_take : Cond.instanceMethod M_Van_take.1 ∈ lw_tbl := mem_at 601 (by decide +kernel)
theorem se_Van_take : Cond.selects M_Van_take.1.cls M_Van_take.1 M_Van_take.1 ∈ lw_tbl := mem_at 602 (by decide +kernel)
def M_Plan_remove : mi := (⟨"VanRounds$Plan", "remove", "(I)V"⟩, prog_3_method_10_code, 3, none)
theorem cd_Plan_remove : Cond.code M_Plan_remove.1 M_Plan_remove.2.1 M_Plan_remove.2.2.1 M_Plan_remove.2.2.2 ∈ lw_tbl := mem_at 607 (by decide +kernel)
theorem in_Plan_remove : Cond.initialized M_Plan_remove.1.cls ∈ lw_tbl := mem_at 58 (by decide +kernel)
theorem im_Plan_remove : Cond.instanceMethod M_Plan_remove.1 ∈ lw_tbl := mem_at 605 (by decide +kernel)
theorem se_Plan_remove : Cond.selects M_Plan_remove.1.cls M_Plan_remove.1 M_Plan_remove.1 ∈ lw_tbl := mem_at 606 (by decide +kernel)
def M_Plan_removeAt : mi := (⟨"VanRounds$Plan", "removeAt", "(II)V"⟩, prog_3_method_9_code, 4, none)
theorem cd_Plan_removeAt : Cond.code M_Plan_removeAt.1 M_Plan_removeAt.2.1 M_Plan_removeAt.2.2.1 M_Plan_removeAt.2.2.2 ∈ lw_tbl := mem_at 613 (by decide +kernel)
theorem in_Plan_removeAt : Cond.initialized M_Plan_removeAt.1.cls ∈ lw_tbl := mem_at 58 (by decide +kernel)
theorem im_Plan_removeAt : Cond.instanceMethod M_Plan_removeAt.1 ∈ lw_tbl := mem_at 611 (by decide +kernel)
theorem se_Plan_removeAt : Cond.selects M_Plan_removeAt.1.cls M_Plan_removeAt.1 M_Plan_removeAt.1 ∈ lw_tbl := mem_at 612 (by decide +kernel)
def M_Van_move : mi := (⟨"VanRounds", "move", "(III)I"⟩, prog_1_method_19_code, 6, some .int)
theorem cd_Van_move : Cond.code M_Van_move.1 M_Van_move.2.1 M_Van_move.2.2.1 M_Van_move.2.2.2 ∈ lw_tbl := mem_at 617 (by decide +kernel)
theorem in_Van_move : Cond.initialized M_Van_move.1.cls ∈ lw_tbl := mem_at 52 (by decide +kernel)
theorem im_Van_move : Cond.instanceMethod M_Van_move.1 ∈ lw_tbl := mem_at 615 (by decide +kernel)
theorem se_Van_move : Cond.selects M_Van_move.1.cls M_Van_move.1 M_Van_move.1 ∈ lw_tbl := mem_at 616 (by decide +kernel)
def M_Van_cross : mi := (⟨"VanRounds", "cross", "(IIII)I"⟩, prog_1_method_20_code, 5, some .int)
theorem cd_Van_cross : Cond.code M_Van_cross.1 M_Van_cross.2.1 M_Van_cross.2.2.1 M_Van_cross.2.2.2 ∈ lw_tbl := mem_at 621 (by decide +kernel)
theorem in_Van_cross : Cond.initialized M_Van_cross.1.cls ∈ lw_tbl := mem_at 52 (by decide +kernel)
theorem im_Van_cross : Cond.instanceMethod M_Van_cross.1 ∈ lw_tbl := mem_at 619 (by decide +kernel)
theorem se_Van_cross : Cond.selects M_Van_cross.1.cls M_Van_cross.1 M_Van_cross.1 ∈ lw_tbl := mem_at 620 (by decide +kernel)
def M_Plan_takeEnd : mi := (⟨"VanRounds$Plan", "takeEnd", "(IILVanRounds$Plan;II)V"⟩, prog_3_method_11_code, 7, none)
theorem cd_Plan_takeEnd : Cond.code M_Plan_takeEnd.1 M_Plan_takeEnd.2.1 M_Plan_takeEnd.2.2.1 M_Plan_takeEnd.2.2.2 ∈ lw_tbl := mem_at 625 (by decide +kernel)
theorem in_Plan_takeEnd : Cond.initialized M_Plan_takeEnd.1.cls ∈ lw_tbl := mem_at 58 (by decide +kernel)
theorem im_Plan_takeEnd : Cond.instanceMethod M_Plan_takeEnd.1 ∈ lw_tbl := mem_at 623 (by decide +kernel)
theorem se_Plan_takeEnd : Cond.selects M_Plan_takeEnd.1.cls M_Plan_takeEnd.1 M_Plan_takeEnd.1 ∈ lw_tbl := mem_at 624 (by decide +kernel)
def M_Van_turn : mi := (⟨"VanRounds", "turn", "(III)I"⟩, prog_1_method_21_code, 4, some .int)
theorem cd_Van_turn : Cond.code M_Van_turn.1 M_Van_turn.2.1 M_Van_turn.2.2.1 M_Van_turn.2.2.2 ∈ lw_tbl := mem_at 629 (by decide +kernel)
theorem in_Van_turn : Cond.initialized M_Van_turn.1.cls ∈ lw_tbl := mem_at 52 (by decide +kernel)
theorem im_Van_turn : Cond.instanceMethod M_Van_turn.1 ∈ lw_tbl := mem_at 627 (by decide +kernel)
theorem se_Van_turn : Cond.selects M_Van_turn.1.cls M_Van_turn.1 M_Van_turn.1 ∈ lw_tbl := mem_at 628 (by decide +kernel)
def M_Van_isTaken : mi := (⟨"VanRounds", "isTaken", "(II)Z"⟩, prog_1_method_39_code, 3, some .boolean)
theorem cd_Van_isTaken : Cond.code M_Van_isTaken.1 M_Van_isTaken.2.1 M_Van_isTaken.2.2.1 M_Van_isTaken.2.2.2 ∈ lw_tbl := mem_at 633 (by decide +kernel)
theorem in_Van_isTaken : Cond.initialized M_Van_isTaken.1.cls ∈ lw_tbl := mem_at 52 (by decide +kernel)
theorem im_Van_isTaken : Cond.instanceMethod M_Van_isTaken.1 ∈ lw_tbl := mem_at 632 (by decide +kernel)
theorem se_Van_isTaken : Cond.selects M_Van_isTaken.1.cls M_Van_isTaken.1 M_Van_isTaken.1 ∈ lw_tbl := mem_at 11 (by decide +kernel)
def M_Plan_reverse : mi := (⟨"VanRounds$Plan", "reverse", "(III)V"⟩, prog_3_method_12_code, 8, none)
theorem cd_Plan_reverse : Cond.code M_Plan_reverse.1 M_Plan_reverse.2.1 M_Plan_reverse.2.2.1 M_Plan_reverse.2.2.2 ∈ lw_tbl := mem_at 637 (by decide +kernel)
theorem in_Plan_reverse : Cond.initialized M_Plan_reverse.1.cls ∈ lw_tbl := mem_at 58 (by decide +kernel)
theorem im_Plan_reverse : Cond.instanceMethod M_Plan_reverse.1 ∈ lw_tbl := mem_at 635 (by decide +kernel)
theorem se_Plan_reverse : Cond.selects M_Plan_reverse.1.cls M_Plan_reverse.1 M_Plan_reverse.1 ∈ lw_tbl := mem_at 636 (by decide +kernel)
def M_Van_build : mi := (⟨"VanRounds", "build", "()I"⟩, prog_1_method_22_code, 3, some .int)
theorem cd_Van_build : Cond.code M_Van_build.1 M_Van_build.2.1 M_Van_build.2.2.1 M_Van_build.2.2.2 ∈ lw_tbl := mem_at 641 (by decide +kernel)
theorem in_Van_build : Cond.initialized M_Van_build.1.cls ∈ lw_tbl := mem_at 52 (by decide +kernel)
theorem im_Van_build : Cond.instanceMethod M_Van_build.1 ∈ lw_tbl := mem_at 639 (by decide +kernel)
theorem se_Van_build : Cond.selects M_Van_build.1.cls M_Van_build.1 M_Van_build.1 ∈ lw_tbl := mem_at 640 (by decide +kernel)
def M_Plan_size : mi := (⟨"VanRounds$Plan", "size", "()I"⟩, prog_3_method_2_code, 1, some .int)
theorem cd_Plan_size : Cond.code M_Plan_size.1 M_Plan_size.2.1 M_Plan_size.2.2.1 M_Plan_size.2.2.2 ∈ lw_tbl := mem_at 645 (by decide +kernel)
theorem in_Plan_size : Cond.initialized M_Plan_size.1.cls ∈ lw_tbl := mem_at 58 (by decide +kernel)
theorem im_Plan_size : Cond.instanceMethod M_Plan_size.1 ∈ lw_tbl := mem_at 643 (by decide +kernel)
theorem se_Plan_size : Cond.selects M_Plan_size.1.cls M_Plan_size.1 M_Plan_size.1 ∈ lw_tbl := mem_at 644 (by decide +kernel)
def M_Planner_findPut : mi := (⟨"VanRounds$Planner", "findPut", "()Z"⟩, prog_4_method_2_code, 3, some .boolean)
theorem cd_Planner_findPut : Cond.code M_Planner_findPut.1 M_Planner_findPut.2.1 M_Planner_findPut.2.2.1 M_Planner_findPut.2.2.2 ∈ lw_tbl := mem_at 649 (by decide +kernel)
theorem in_Planner_findPut : Cond.initialized M_Planner_findPut.1.cls ∈ lw_tbl := mem_at 53 (by decide +kernel)
theorem im_Planner_findPut : Cond.instanceMethod M_Planner_findPut.1 ∈ lw_tbl := mem_at 647 (by decide +kernel)
theorem se_Planner_findPut : Cond.selects M_Planner_findPut.1.cls M_Planner_findPut.1 M_Planner_findPut.1 ∈ lw_tbl := mem_at 648 (by decide +kernel)
def M_Planner_tryPuts : mi := (⟨"VanRounds$Planner", "tryPuts", "(II)V"⟩, prog_4_method_4_code, 8, none)
theorem cd_Planner_tryPuts : Cond.code M_Planner_tryPuts.1 M_Planner_tryPuts.2.1 M_Planner_tryPuts.2.2.1 M_Planner_tryPuts.2.2.2 ∈ lw_tbl := mem_at 654 (by decide +kernel)
theorem in_Planner_tryPuts : Cond.initialized M_Planner_tryPuts.1.cls ∈ lw_tbl := mem_at 53 (by decide +kernel)
theorem im_Planner_tryPuts : Cond.instanceMethod M_Planner_tryPuts.1 ∈ lw_tbl := mem_at 653 (by decide +kernel)
theorem se_Planner_tryPuts : Cond.selects M_Planner_tryPuts.1.cls M_Planner_tryPuts.1 M_Planner_tryPuts.1 ∈ lw_tbl := mem_at 12 (by decide +kernel)
def M_Planner_weighPut : mi := (⟨"VanRounds$Planner", "weighPut", "(IIIII)V"⟩, prog_4_method_5_code, 7, none)
theorem cd_Planner_weighPut : Cond.code M_Planner_weighPut.1 M_Planner_weighPut.2.1 M_Planner_weighPut.2.2.1 M_Planner_weighPut.2.2.2 ∈ lw_tbl := mem_at 660 (by decide +kernel)
theorem in_Planner_weighPut : Cond.initialized M_Planner_weighPut.1.cls ∈ lw_tbl := mem_at 53 (by decide +kernel)
theorem im_Planner_weighPut : Cond.instanceMethod M_Planner_weighPut.1 ∈ lw_tbl := mem_at 659 (by decide +kernel)
theorem se_Planner_weighPut : Cond.selects M_Planner_weighPut.1.cls M_Planner_weighPut.1 M_Planner_weighPut.1 ∈ lw_tbl := mem_at 13 (by decide +kernel)
def M_Planner_doPut : mi := (⟨"VanRounds$Planner", "doPut", "()V"⟩, prog_4_method_3_code, 2, none)
theorem cd_Planner_doPut : Cond.code M_Planner_doPut.1 M_Planner_doPut.2.1 M_Planner_doPut.2.2.1 M_Planner_doPut.2.2.2 ∈ lw_tbl := mem_at 665 (by decide +kernel)
theorem in_Planner_doPut : Cond.initialized M_Planner_doPut.1.cls ∈ lw_tbl := mem_at 53 (by decide +kernel)
theorem im_Planner_doPut : Cond.instanceMethod M_Planner_doPut.1 ∈ lw_tbl := mem_at 663 (by decide +kernel)
theorem se_Planner_doPut : Cond.selects M_Planner_doPut.1.cls M_Planner_doPut.1 M_Planner_doPut.1 ∈ lw_tbl := mem_at 664 (by decide +kernel)
def M_Van_better : mi := (⟨"VanRounds", "better", "(I)I"⟩, prog_1_method_23_code, 3, some .int)
theorem cd_Van_better : Cond.code M_Van_better.1 M_Van_better.2.1 M_Van_better.2.2.1 M_Van_better.2.2.2 ∈ lw_tbl := mem_at 670 (by decide +kernel)
theorem in_Van_better : Cond.initialized M_Van_better.1.cls ∈ lw_tbl := mem_at 52 (by decide +kernel)
theorem im_Van_better : Cond.instanceMethod M_Van_better.1 ∈ lw_tbl := mem_at 668 (by decide +kernel)
theorem se_Van_better : Cond.selects M_Van_better.1.cls M_Van_better.1 M_Van_better.1 ∈ lw_tbl := mem_at 669 (by decide +kernel)
def M_Planner_improve : mi := (⟨"VanRounds$Planner", "improve", "()Z"⟩, prog_4_method_6_code, 3, some .boolean)
theorem cd_Planner_improve : Cond.code M_Planner_improve.1 M_Planner_improve.2.1 M_Planner_improve.2.2.1 M_Planner_improve.2.2.2 ∈ lw_tbl := mem_at 674 (by decide +kernel)
theorem in_Planner_improve : Cond.initialized M_Planner_improve.1.cls ∈ lw_tbl := mem_at 53 (by decide +kernel)
theorem im_Planner_improve : Cond.instanceMethod M_Planner_improve.1 ∈ lw_tbl := mem_at 672 (by decide +kernel)
theorem se_Planner_improve : Cond.selects M_Planner_improve.1.cls M_Planner_improve.1 M_Planner_improve.1 ∈ lw_tbl := mem_at 673 (by decide +kernel)
def M_Planner_moveToLess : mi := (⟨"VanRounds$Planner", "moveToLess", "(II)Z"⟩, prog_4_method_7_code, 10, some .boolean)
theorem cd_Planner_moveToLess : Cond.code M_Planner_moveToLess.1 M_Planner_moveToLess.2.1 M_Planner_moveToLess.2.2.1 M_Planner_moveToLess.2.2.2 ∈ lw_tbl := mem_at 678 (by decide +kernel)
theorem in_Planner_moveToLess : Cond.initialized M_Planner_moveToLess.1.cls ∈ lw_tbl := mem_at 53 (by decide +kernel)
theorem im_Planner_moveToLess : Cond.instanceMethod M_Planner_moveToLess.1 ∈ lw_tbl := mem_at 677 (by decide +kernel)
theorem se_Planner_moveToLess : Cond.selects M_Planner_moveToLess.1.cls M_Planner_moveToLess.1 M_Planner_moveToLess.1 ∈ lw_tbl := mem_at 14 (by decide +kernel)
def M_Van_least : mi := (⟨"VanRounds", "least", "()I"⟩, prog_1_method_24_code, 1, some .int)
theorem cd_Van_least : Cond.code M_Van_least.1 M_Van_least.2.1 M_Van_least.2.2.1 M_Van_least.2.2.2 ∈ lw_tbl := mem_at 683 (by decide +kernel)
theorem in_Van_least : Cond.initialized M_Van_least.1.cls ∈ lw_tbl := mem_at 52 (by decide +kernel)
theorem im_Van_least : Cond.instanceMethod M_Van_least.1 ∈ lw_tbl := mem_at 681 (by decide +kernel)
theorem se_Van_least : Cond.selects M_Van_least.1.cls M_Van_least.1 M_Van_least.1 ∈ lw_tbl := mem_at 682 (by decide +kernel)
def M_Planner_seekLeast : mi := (⟨"VanRounds$Planner", "seekLeast", "()V"⟩, prog_4_method_8_code, 1, none)
theorem cd_Planner_seekLeast : Cond.code M_Planner_seekLeast.1 M_Planner_seekLeast.2.1 M_Planner_seekLeast.2.2.1 M_Planner_seekLeast.2.2.2 ∈ lw_tbl := mem_at 687 (by decide +kernel)
theorem in_Planner_seekLeast : Cond.initialized M_Planner_seekLeast.1.cls ∈ lw_tbl := mem_at 53 (by decide +kernel)
theorem im_Planner_seekLeast : Cond.instanceMethod M_Planner_seekLeast.1 ∈ lw_tbl := mem_at 685 (by decide +kernel)
theorem se_Planner_seekLeast : Cond.selects M_Planner_seekLeast.1.cls M_Planner_seekLeast.1 M_Planner_seekLeast.1 ∈ lw_tbl := mem_at 686 (by decide +kernel)
def M_Plan_empty : mi := (⟨"VanRounds$Plan", "empty", "()V"⟩, prog_3_method_3_code, 2, none)
theorem cd_Plan_empty : Cond.code M_Plan_empty.1 M_Plan_empty.2.1 M_Plan_empty.2.2.1 M_Plan_empty.2.2.2 ∈ lw_tbl := mem_at 691 (by decide +kernel)
theorem in_Plan_empty : Cond.initialized M_Plan_empty.1.cls ∈ lw_tbl := mem_at 58 (by decide +kernel)
theorem im_Plan_empty : Cond.instanceMethod M_Plan_empty.1 ∈ lw_tbl := mem_at 689 (by decide +kernel)
theorem se_Plan_empty : Cond.selects M_Plan_empty.1.cls M_Plan_empty.1 M_Plan_empty.1 ∈ lw_tbl := mem_at 690 (by decide +kernel)
def M_Planner_extend : mi := (⟨"VanRounds$Planner", "extend", "(III)V"⟩, prog_4_method_9_code, 8, none)
theorem cd_Planner_extend : Cond.code M_Planner_extend.1 M_Planner_extend.2.1 M_Planner_extend.2.2.1 M_Planner_extend.2.2.2 ∈ lw_tbl := mem_at 695 (by decide +kernel)
theorem in_Planner_extend : Cond.initialized M_Planner_extend.1.cls ∈ lw_tbl := mem_at 53 (by decide +kernel)
theorem im_Planner_extend : Cond.instanceMethod M_Planner_extend.1 ∈ lw_tbl := mem_at 694 (by decide +kernel)
theorem se_Planner_extend : Cond.selects M_Planner_extend.1.cls M_Planner_extend.1 M_Planner_extend.1 ∈ lw_tbl := mem_at 15 (by decide +kernel)
def M_Planner_weighPlan : mi := (⟨"VanRounds$Planner", "weighPlan", "(I)V"⟩, prog_4_method_10_code, 4, none)
theorem cd_Planner_weighPlan : Cond.code M_Planner_weighPlan.1 M_Planner_weighPlan.2.1 M_Planner_weighPlan.2.2.1 M_Planner_weighPlan.2.2.2 ∈ lw_tbl := mem_at 699 (by decide +kernel)
theorem in_Planner_weighPlan : Cond.initialized M_Planner_weighPlan.1.cls ∈ lw_tbl := mem_at 53 (by decide +kernel)
theorem im_Planner_weighPlan : Cond.instanceMethod M_Planner_weighPlan.1 ∈ lw_tbl := mem_at 698 (by decide +kernel)
theorem se_Planner_weighPlan : Cond.selects M_Planner_weighPlan.1.cls M_Planner_weighPlan.1 M_Planner_weighPlan.1 ∈ lw_tbl := mem_at 16 (by decide +kernel)
def M_Trip_mustsIn : mi := (⟨"VanRounds$Trip", "mustsIn", "(LVanRounds$Plan;)I"⟩, prog_7_method_4_code, 5, some .int)
theorem cd_Trip_mustsIn : Cond.code M_Trip_mustsIn.1 M_Trip_mustsIn.2.1 M_Trip_mustsIn.2.2.1 M_Trip_mustsIn.2.2.2 ∈ lw_tbl := mem_at 703 (by decide +kernel)
theorem in_Trip_mustsIn : Cond.initialized M_Trip_mustsIn.1.cls ∈ lw_tbl := mem_at 54 (by decide +kernel)
theorem im_Trip_mustsIn : Cond.instanceMethod M_Trip_mustsIn.1 ∈ lw_tbl := mem_at 701 (by decide +kernel)
theorem se_Trip_mustsIn : Cond.selects M_Trip_mustsIn.1.cls M_Trip_mustsIn.1 M_Trip_mustsIn.1 ∈ lw_tbl := mem_at 702 (by decide +kernel)
def M_Van_undo : mi := (⟨"VanRounds", "undo", "()I"⟩, prog_1_method_25_code, 1, some .int)
theorem cd_Van_undo : Cond.code M_Van_undo.1 M_Van_undo.2.1 M_Van_undo.2.2.1 M_Van_undo.2.2.2 ∈ lw_tbl := mem_at 709 (by decide +kernel)
theorem in_Van_undo : Cond.initialized M_Van_undo.1.cls ∈ lw_tbl := mem_at 52 (by decide +kernel)
theorem im_Van_undo : Cond.instanceMethod M_Van_undo.1 ∈ lw_tbl := mem_at 707 (by decide +kernel)
theorem se_Van_undo : Cond.selects M_Van_undo.1.cls M_Van_undo.1 M_Van_undo.1 ∈ lw_tbl := mem_at 708 (by decide +kernel)
def M_Past_bringBack : mi := (⟨"VanRounds$Past", "bringBack", "(LVanRounds$Plan;)V"⟩, prog_2_method_4_code, 2, none)
theorem cd_Past_bringBack : Cond.code M_Past_bringBack.1 M_Past_bringBack.2.1 M_Past_bringBack.2.2.1 M_Past_bringBack.2.2.2 ∈ lw_tbl := mem_at 713 (by decide +kernel)
theorem in_Past_bringBack : Cond.initialized M_Past_bringBack.1.cls ∈ lw_tbl := mem_at 59 (by decide +kernel)
theorem im_Past_bringBack : Cond.instanceMethod M_Past_bringBack.1 ∈ lw_tbl := mem_at 711 (by decide +kernel)
theorem se_Past_bringBack : Cond.selects M_Past_bringBack.1.cls M_Past_bringBack.1 M_Past_bringBack.1 ∈ lw_tbl := mem_at 712 (by decide +kernel)
def M_Van_clear : mi := (⟨"VanRounds", "clear", "()I"⟩, prog_1_method_26_code, 2, some .int)
theorem cd_Van_clear : Cond.code M_Van_clear.1 M_Van_clear.2.1 M_Van_clear.2.2.1 M_Van_clear.2.2.2 ∈ lw_tbl := mem_at 717 (by decide +kernel)
theorem in_Van_clear : Cond.initialized M_Van_clear.1.cls ∈ lw_tbl := mem_at 52 (by decide +kernel)
theorem im_Van_clear : Cond.instanceMethod M_Van_clear.1 ∈ lw_tbl := mem_at 715 (by decide +kernel)
theorem se_Van_clear : Cond.selects M_Van_clear.1.cls M_Van_clear.1 M_Van_clear.1 ∈ lw_tbl := mem_at 716 (by decide +kernel)
def M_Van_count : mi := (⟨"VanRounds", "count", "(I)I"⟩, prog_1_method_27_code, 2, some .int)
theorem cd_Van_count : Cond.code M_Van_count.1 M_Van_count.2.1 M_Van_count.2.2.1 M_Van_count.2.2.2 ∈ lw_tbl := mem_at 722 (by decide +kernel)
theorem in_Van_count : Cond.initialized M_Van_count.1.cls ∈ lw_tbl := mem_at 52 (by decide +kernel)
theorem im_Van_count : Cond.instanceMethod M_Van_count.1 ∈ lw_tbl := mem_at 720 (by decide +kernel)
theorem se_Van_count : Cond.selects M_Van_count.1.cls M_Van_count.1 M_Van_count.1 ∈ lw_tbl := mem_at 721 (by decide +kernel)
def M_Stops_musts : mi := (⟨"VanRounds$Stops", "musts", "()I"⟩, prog_5_method_8_code, 3, some .int)
theorem cd_Stops_musts : Cond.code M_Stops_musts.1 M_Stops_musts.2.1 M_Stops_musts.2.2.1 M_Stops_musts.2.2.2 ∈ lw_tbl := mem_at 726 (by decide +kernel)
theorem in_Stops_musts : Cond.initialized M_Stops_musts.1.cls ∈ lw_tbl := mem_at 56 (by decide +kernel)
theorem im_Stops_musts : Cond.instanceMethod M_Stops_musts.1 ∈ lw_tbl := mem_at 724 (by decide +kernel)
theorem se_Stops_musts : Cond.selects M_Stops_musts.1.cls M_Stops_musts.1 M_Stops_musts.1 ∈ lw_tbl := mem_at 725 (by decide +kernel)
def M_Van_totalWaiting : mi := (⟨"VanRounds", "totalWaiting", "()I"⟩, prog_1_method_36_code, 3, some .int)
theorem cd_Van_totalWaiting : Cond.code M_Van_totalWaiting.1 M_Van_totalWaiting.2.1 M_Van_totalWaiting.2.2.1 M_Van_totalWaiting.2.2.2 ∈ lw_tbl := mem_at 731 (by decide +kernel)
theorem in_Van_totalWaiting : Cond.initialized M_Van_totalWaiting.1.cls ∈ lw_tbl := mem_at 52 (by decide +kernel)
theorem im_Van_totalWaiting : Cond.instanceMethod M_Van_totalWaiting.1 ∈ lw_tbl := mem_at 730 (by decide +kernel)
theorem se_Van_totalWaiting : Cond.selects M_Van_totalWaiting.1.cls M_Van_totalWaiting.1 M_Van_totalWaiting.1 ∈ lw_tbl := mem_at 17 (by decide +kernel)
def M_Van_totalLateness : mi := (⟨"VanRounds", "totalLateness", "()I"⟩, prog_1_method_37_code, 3, some .int)
theorem cd_Van_totalLateness : Cond.code M_Van_totalLateness.1 M_Van_totalLateness.2.1 M_Van_totalLateness.2.2.1 M_Van_totalLateness.2.2.2 ∈ lw_tbl := mem_at 735 (by decide +kernel)
theorem in_Van_totalLateness : Cond.initialized M_Van_totalLateness.1.cls ∈ lw_tbl := mem_at 52 (by decide +kernel)
theorem im_Van_totalLateness : Cond.instanceMethod M_Van_totalLateness.1 ∈ lw_tbl := mem_at 734 (by decide +kernel)
theorem se_Van_totalLateness : Cond.selects M_Van_totalLateness.1.cls M_Van_totalLateness.1 M_Van_totalLateness.1 ∈ lw_tbl := mem_at 18 (by decide +kernel)
def M_Van_lay : mi := (⟨"VanRounds", "lay", "(I)I"⟩, prog_1_method_28_code, 2, some .int)
theorem cd_Van_lay : Cond.code M_Van_lay.1 M_Van_lay.2.1 M_Van_lay.2.2.1 M_Van_lay.2.2.2 ∈ lw_tbl := mem_at 739 (by decide +kernel)
theorem in_Van_lay : Cond.initialized M_Van_lay.1.cls ∈ lw_tbl := mem_at 52 (by decide +kernel)
theorem im_Van_lay : Cond.instanceMethod M_Van_lay.1 ∈ lw_tbl := mem_at 737 (by decide +kernel)
theorem se_Van_lay : Cond.selects M_Van_lay.1.cls M_Van_lay.1 M_Van_lay.1 ∈ lw_tbl := mem_at 738 (by decide +kernel)
def M_Van_tear : mi := (⟨"VanRounds", "tear", "()I"⟩, prog_1_method_29_code, 1, some .int)
theorem cd_Van_tear : Cond.code M_Van_tear.1 M_Van_tear.2.1 M_Van_tear.2.2.1 M_Van_tear.2.2.2 ∈ lw_tbl := mem_at 744 (by decide +kernel)
theorem in_Van_tear : Cond.initialized M_Van_tear.1.cls ∈ lw_tbl := mem_at 52 (by decide +kernel)
theorem im_Van_tear : Cond.instanceMethod M_Van_tear.1 ∈ lw_tbl := mem_at 742 (by decide +kernel)
theorem se_Van_tear : Cond.selects M_Van_tear.1.cls M_Van_tear.1 M_Van_tear.1 ∈ lw_tbl := mem_at 743 (by decide +kernel)
def M_Van_row : mi := (⟨"VanRounds", "row", "(I)I"⟩, prog_1_method_30_code, 2, some .int)
theorem cd_Van_row : Cond.code M_Van_row.1 M_Van_row.2.1 M_Van_row.2.2.1 M_Van_row.2.2.2 ∈ lw_tbl := mem_at 748 (by decide +kernel)
theorem in_Van_row : Cond.initialized M_Van_row.1.cls ∈ lw_tbl := mem_at 52 (by decide +kernel)
theorem im_Van_row : Cond.instanceMethod M_Van_row.1 ∈ lw_tbl := mem_at 746 (by decide +kernel)
theorem se_Van_row : Cond.selects M_Van_row.1.cls M_Van_row.1 M_Van_row.1 ∈ lw_tbl := mem_at 747 (by decide +kernel)
def M_Van_copy : mi := (⟨"VanRounds", "copy", "(III)I"⟩, prog_1_method_31_code, 4, some .int)
theorem cd_Van_copy : Cond.code M_Van_copy.1 M_Van_copy.2.1 M_Van_copy.2.2.1 M_Van_copy.2.2.2 ∈ lw_tbl := mem_at 752 (by decide +kernel)
theorem in_Van_copy : Cond.initialized M_Van_copy.1.cls ∈ lw_tbl := mem_at 52 (by decide +kernel)
theorem im_Van_copy : Cond.instanceMethod M_Van_copy.1 ∈ lw_tbl := mem_at 750 (by decide +kernel)
theorem se_Van_copy : Cond.selects M_Van_copy.1.cls M_Van_copy.1 M_Van_copy.1 ∈ lw_tbl := mem_at 751 (by decide +kernel)
def M_Van_status : mi := (⟨"VanRounds", "status", "(I)I"⟩, prog_1_method_32_code, 2, some .int)
theorem cd_Van_status : Cond.code M_Van_status.1 M_Van_status.2.1 M_Van_status.2.2.1 M_Van_status.2.2.2 ∈ lw_tbl := mem_at 756 (by decide +kernel)
theorem in_Van_status : Cond.initialized M_Van_status.1.cls ∈ lw_tbl := mem_at 52 (by decide +kernel)
theorem im_Van_status : Cond.instanceMethod M_Van_status.1 ∈ lw_tbl := mem_at 754 (by decide +kernel)
theorem se_Van_status : Cond.selects M_Van_status.1.cls M_Van_status.1 M_Van_status.1 ∈ lw_tbl := mem_at 755 (by decide +kernel)
def M_Mod_init : mi := (⟨"VanRoundsModel", "<init>", "()V"⟩, prog_10_method_1_code, 1, none)
theorem cd_Mod_init : Cond.code M_Mod_init.1 M_Mod_init.2.1 M_Mod_init.2.2.1 M_Mod_init.2.2.2 ∈ lw_tbl := mem_at 761 (by decide +kernel)
theorem in_Mod_init : Cond.initialized M_Mod_init.1.cls ∈ lw_tbl := mem_at 60 (by decide +kernel)
theorem im_Mod_init : Cond.instanceMethod M_Mod_init.1 ∈ lw_tbl := mem_at 760 (by decide +kernel)
def M_Mod_way : mi := (⟨"VanRoundsModel", "way", "(III)I"⟩, prog_10_method_10_code, 5, some .int)
theorem cd_Mod_way : Cond.code M_Mod_way.1 M_Mod_way.2.1 M_Mod_way.2.2.1 M_Mod_way.2.2.2 ∈ lw_tbl := mem_at 906 (by decide +kernel)
theorem in_Mod_way : Cond.initialized M_Mod_way.1.cls ∈ lw_tbl := mem_at 60 (by decide +kernel)
theorem im_Mod_way : Cond.instanceMethod M_Mod_way.1 ∈ lw_tbl := mem_at 904 (by decide +kernel)
theorem se_Mod_way : Cond.selects M_Mod_way.1.cls M_Mod_way.1 M_Mod_way.1 ∈ lw_tbl := mem_at 905 (by decide +kernel)
def M_Mod_isPlace : mi := (⟨"VanRoundsModel", "isPlace", "(I)Z"⟩, prog_10_method_4_code, 1, some .boolean)
theorem cd_Mod_isPlace : Cond.code M_Mod_isPlace.1 M_Mod_isPlace.2.1 M_Mod_isPlace.2.2.1 M_Mod_isPlace.2.2.2 ∈ lw_tbl := mem_at 909 (by decide +kernel)
theorem in_Mod_isPlace : Cond.initialized M_Mod_isPlace.1.cls ∈ lw_tbl := mem_at 60 (by decide +kernel)
theorem st_Mod_isPlace : Cond.static M_Mod_isPlace.1 ∈ lw_tbl := mem_at 908 (by decide +kernel)
def M_Mod_isIn : mi := (⟨"VanRoundsModel", "isIn", "(JJJ)Z"⟩, prog_10_method_2_code, 6, some .boolean)
theorem cd_Mod_isIn : Cond.code M_Mod_isIn.1 M_Mod_isIn.2.1 M_Mod_isIn.2.2.1 M_Mod_isIn.2.2.2 ∈ lw_tbl := mem_at 913 (by decide +kernel)
theorem in_Mod_isIn : Cond.initialized M_Mod_isIn.1.cls ∈ lw_tbl := mem_at 60 (by decide +kernel)
theorem st_Mod_isIn : Cond.static M_Mod_isIn.1 ∈ lw_tbl := mem_at 912 (by decide +kernel)
def M_Mod_no : mi := (⟨"VanRoundsModel", "no", "(I)I"⟩, prog_10_method_3_code, 2, some .int)
theorem cd_Mod_no : Cond.code M_Mod_no.1 M_Mod_no.2.1 M_Mod_no.2.2.1 M_Mod_no.2.2.2 ∈ lw_tbl := mem_at 917 (by decide +kernel)
theorem in_Mod_no : Cond.initialized M_Mod_no.1.cls ∈ lw_tbl := mem_at 60 (by decide +kernel)
theorem im_Mod_no : Cond.instanceMethod M_Mod_no.1 ∈ lw_tbl := mem_at 916 (by decide +kernel)
theorem se_Mod_no : Cond.selects M_Mod_no.1.cls M_Mod_no.1 M_Mod_no.1 ∈ lw_tbl := mem_at 19 (by decide +kernel)
def M_Mod_wayOf : mi := (⟨"VanRoundsModel", "wayOf", "(III)I"⟩, prog_10_method_9_code, 8, some .int)
theorem cd_Mod_wayOf : Cond.code M_Mod_wayOf.1 M_Mod_wayOf.2.1 M_Mod_wayOf.2.2.1 M_Mod_wayOf.2.2.2 ∈ lw_tbl := mem_at 921 (by decide +kernel)
theorem in_Mod_wayOf : Cond.initialized M_Mod_wayOf.1.cls ∈ lw_tbl := mem_at 60 (by decide +kernel)
theorem im_Mod_wayOf : Cond.instanceMethod M_Mod_wayOf.1 ∈ lw_tbl := mem_at 920 (by decide +kernel)
theorem se_Mod_wayOf : Cond.selects M_Mod_wayOf.1.cls M_Mod_wayOf.1 M_Mod_wayOf.1 ∈ lw_tbl := mem_at 20 (by decide +kernel)
def M_Mod_over : mi := (⟨"VanRoundsModel", "over", "(III)I"⟩, prog_10_method_8_code, 7, some .int)
theorem cd_Mod_over : Cond.code M_Mod_over.1 M_Mod_over.2.1 M_Mod_over.2.2.1 M_Mod_over.2.2.2 ∈ lw_tbl := mem_at 926 (by decide +kernel)
theorem in_Mod_over : Cond.initialized M_Mod_over.1.cls ∈ lw_tbl := mem_at 60 (by decide +kernel)
theorem im_Mod_over : Cond.instanceMethod M_Mod_over.1 ∈ lw_tbl := mem_at 925 (by decide +kernel)
theorem se_Mod_over : Cond.selects M_Mod_over.1.cls M_Mod_over.1 M_Mod_over.1 ∈ lw_tbl := mem_at 21 (by decide +kernel)
def M_Mod_at : mi := (⟨"VanRoundsModel", "at", "(III)I"⟩, prog_10_method_7_code, 3, some .int)
theorem cd_Mod_at : Cond.code M_Mod_at.1 M_Mod_at.2.1 M_Mod_at.2.2.1 M_Mod_at.2.2.2 ∈ lw_tbl := mem_at 929 (by decide +kernel)
theorem in_Mod_at : Cond.initialized M_Mod_at.1.cls ∈ lw_tbl := mem_at 60 (by decide +kernel)
theorem st_Mod_at : Cond.static M_Mod_at.1 ∈ lw_tbl := mem_at 928 (by decide +kernel)
def M_Mod_street : mi := (⟨"VanRoundsModel", "street", "(III)I"⟩, prog_10_method_12_code, 5, some .int)
theorem cd_Mod_street : Cond.code M_Mod_street.1 M_Mod_street.2.1 M_Mod_street.2.2.1 M_Mod_street.2.2.2 ∈ lw_tbl := mem_at 933 (by decide +kernel)
theorem in_Mod_street : Cond.initialized M_Mod_street.1.cls ∈ lw_tbl := mem_at 60 (by decide +kernel)
theorem im_Mod_street : Cond.instanceMethod M_Mod_street.1 ∈ lw_tbl := mem_at 931 (by decide +kernel)
theorem se_Mod_street : Cond.selects M_Mod_street.1.cls M_Mod_street.1 M_Mod_street.1 ∈ lw_tbl := mem_at 932 (by decide +kernel)
def M_Mod_tells : mi := (⟨"VanRoundsModel", "tells", "(IIIII)Z"⟩, prog_10_method_11_code, 7, some .boolean)
theorem cd_Mod_tells : Cond.code M_Mod_tells.1 M_Mod_tells.2.1 M_Mod_tells.2.2.1 M_Mod_tells.2.2.2 ∈ lw_tbl := mem_at 938 (by decide +kernel)
theorem in_Mod_tells : Cond.initialized M_Mod_tells.1.cls ∈ lw_tbl := mem_at 60 (by decide +kernel)
theorem im_Mod_tells : Cond.instanceMethod M_Mod_tells.1 ∈ lw_tbl := mem_at 937 (by decide +kernel)
theorem se_Mod_tells : Cond.selects M_Mod_tells.1.cls M_Mod_tells.1 M_Mod_tells.1 ∈ lw_tbl := mem_at 22 (by decide +kernel)
def M_Mod_allFit : mi := (⟨"VanRoundsModel", "allFit", "()Z"⟩, prog_10_method_29_code, 3, some .boolean)
theorem cd_Mod_allFit : Cond.code M_Mod_allFit.1 M_Mod_allFit.2.1 M_Mod_allFit.2.2.1 M_Mod_allFit.2.2.2 ∈ lw_tbl := mem_at 942 (by decide +kernel)
theorem in_Mod_allFit : Cond.initialized M_Mod_allFit.1.cls ∈ lw_tbl := mem_at 60 (by decide +kernel)
theorem im_Mod_allFit : Cond.instanceMethod M_Mod_allFit.1 ∈ lw_tbl := mem_at 941 (by decide +kernel)
theorem se_Mod_allFit : Cond.selects M_Mod_allFit.1.cls M_Mod_allFit.1 M_Mod_allFit.1 ∈ lw_tbl := mem_at 23 (by decide +kernel)
def M_Mod_fits : mi := (⟨"VanRoundsModel", "fits", "(I)Z"⟩, prog_10_method_28_code, 2, some .boolean)
theorem cd_Mod_fits : Cond.code M_Mod_fits.1 M_Mod_fits.2.1 M_Mod_fits.2.2.1 M_Mod_fits.2.2.2 ∈ lw_tbl := mem_at 946 (by decide +kernel)
theorem in_Mod_fits : Cond.initialized M_Mod_fits.1.cls ∈ lw_tbl := mem_at 60 (by decide +kernel)
theorem im_Mod_fits : Cond.instanceMethod M_Mod_fits.1 ∈ lw_tbl := mem_at 945 (by decide +kernel)
theorem se_Mod_fits : Cond.selects M_Mod_fits.1.cls M_Mod_fits.1 M_Mod_fits.1 ∈ lw_tbl := mem_at 24 (by decide +kernel)
def M_Mod_pairs : mi := (⟨"VanRoundsModel", "pairs", "(I)V"⟩, prog_10_method_25_code, 4, none)
theorem cd_Mod_pairs : Cond.code M_Mod_pairs.1 M_Mod_pairs.2.1 M_Mod_pairs.2.2.1 M_Mod_pairs.2.2.2 ∈ lw_tbl := mem_at 950 (by decide +kernel)
theorem in_Mod_pairs : Cond.initialized M_Mod_pairs.1.cls ∈ lw_tbl := mem_at 60 (by decide +kernel)
theorem im_Mod_pairs : Cond.instanceMethod M_Mod_pairs.1 ∈ lw_tbl := mem_at 949 (by decide +kernel)
theorem se_Mod_pairs : Cond.selects M_Mod_pairs.1.cls M_Mod_pairs.1 M_Mod_pairs.1 ∈ lw_tbl := mem_at 25 (by decide +kernel)
def M_Mod_stands : mi := (⟨"VanRoundsModel", "stands", "(IIII)Z"⟩, prog_10_method_24_code, 7, some .boolean)
theorem cd_Mod_stands : Cond.code M_Mod_stands.1 M_Mod_stands.2.1 M_Mod_stands.2.2.1 M_Mod_stands.2.2.2 ∈ lw_tbl := mem_at 954 (by decide +kernel)
theorem in_Mod_stands : Cond.initialized M_Mod_stands.1.cls ∈ lw_tbl := mem_at 60 (by decide +kernel)
theorem im_Mod_stands : Cond.instanceMethod M_Mod_stands.1 ∈ lw_tbl := mem_at 953 (by decide +kernel)
theorem se_Mod_stands : Cond.selects M_Mod_stands.1.cls M_Mod_stands.1 M_Mod_stands.1 ∈ lw_tbl := mem_at 26 (by decide +kernel)
def M_Mod_fails : mi := (⟨"VanRoundsModel", "fails", "(II)V"⟩, prog_10_method_23_code, 3, none)
theorem cd_Mod_fails : Cond.code M_Mod_fails.1 M_Mod_fails.2.1 M_Mod_fails.2.2.1 M_Mod_fails.2.2.2 ∈ lw_tbl := mem_at 958 (by decide +kernel)
theorem in_Mod_fails : Cond.initialized M_Mod_fails.1.cls ∈ lw_tbl := mem_at 60 (by decide +kernel)
theorem im_Mod_fails : Cond.instanceMethod M_Mod_fails.1 ∈ lw_tbl := mem_at 957 (by decide +kernel)
theorem se_Mod_fails : Cond.selects M_Mod_fails.1.cls M_Mod_fails.1 M_Mod_fails.1 ∈ lw_tbl := mem_at 27 (by decide +kernel)
def M_Mod_loads : mi := (⟨"VanRoundsModel", "loads", "(I)V"⟩, prog_10_method_26_code, 5, none)
theorem cd_Mod_loads : Cond.code M_Mod_loads.1 M_Mod_loads.2.1 M_Mod_loads.2.2.1 M_Mod_loads.2.2.2 ∈ lw_tbl := mem_at 962 (by decide +kernel)
theorem in_Mod_loads : Cond.initialized M_Mod_loads.1.cls ∈ lw_tbl := mem_at 60 (by decide +kernel)
theorem im_Mod_loads : Cond.instanceMethod M_Mod_loads.1 ∈ lw_tbl := mem_at 961 (by decide +kernel)
theorem se_Mod_loads : Cond.selects M_Mod_loads.1.cls M_Mod_loads.1 M_Mod_loads.1 ∈ lw_tbl := mem_at 28 (by decide +kernel)
def M_Mod_goes : mi := (⟨"VanRoundsModel", "goes", "(I)V"⟩, prog_10_method_27_code, 7, none)
theorem cd_Mod_goes : Cond.code M_Mod_goes.1 M_Mod_goes.2.1 M_Mod_goes.2.2.1 M_Mod_goes.2.2.2 ∈ lw_tbl := mem_at 966 (by decide +kernel)
theorem in_Mod_goes : Cond.initialized M_Mod_goes.1.cls ∈ lw_tbl := mem_at 60 (by decide +kernel)
theorem im_Mod_goes : Cond.instanceMethod M_Mod_goes.1 ∈ lw_tbl := mem_at 965 (by decide +kernel)
theorem se_Mod_goes : Cond.selects M_Mod_goes.1.cls M_Mod_goes.1 M_Mod_goes.1 ∈ lw_tbl := mem_at 29 (by decide +kernel)
def M_Mod_slow : mi := (⟨"VanRoundsModel", "slow", "(IIII)I"⟩, prog_10_method_13_code, 6, some .int)
theorem cd_Mod_slow : Cond.code M_Mod_slow.1 M_Mod_slow.2.1 M_Mod_slow.2.2.1 M_Mod_slow.2.2.2 ∈ lw_tbl := mem_at 970 (by decide +kernel)
theorem in_Mod_slow : Cond.initialized M_Mod_slow.1.cls ∈ lw_tbl := mem_at 60 (by decide +kernel)
theorem im_Mod_slow : Cond.instanceMethod M_Mod_slow.1 ∈ lw_tbl := mem_at 968 (by decide +kernel)
theorem se_Mod_slow : Cond.selects M_Mod_slow.1.cls M_Mod_slow.1 M_Mod_slow.1 ∈ lw_tbl := mem_at 969 (by decide +kernel)
def M_Mod_stop : mi := (⟨"VanRoundsModel", "stop", "(IIII)I"⟩, prog_10_method_15_code, 7, some .int)
theorem cd_Mod_stop : Cond.code M_Mod_stop.1 M_Mod_stop.2.1 M_Mod_stop.2.2.1 M_Mod_stop.2.2.2 ∈ lw_tbl := mem_at 975 (by decide +kernel)
theorem in_Mod_stop : Cond.initialized M_Mod_stop.1.cls ∈ lw_tbl := mem_at 60 (by decide +kernel)
theorem im_Mod_stop : Cond.instanceMethod M_Mod_stop.1 ∈ lw_tbl := mem_at 973 (by decide +kernel)
theorem se_Mod_stop : Cond.selects M_Mod_stop.1.cls M_Mod_stop.1 M_Mod_stop.1 ∈ lw_tbl := mem_at 974 (by decide +kernel)
def M_Mod_isStop : mi := (⟨"VanRoundsModel", "isStop", "(I)Z"⟩, prog_10_method_5_code, 2, some .boolean)
theorem cd_Mod_isStop : Cond.code M_Mod_isStop.1 M_Mod_isStop.2.1 M_Mod_isStop.2.2.1 M_Mod_isStop.2.2.2 ∈ lw_tbl := mem_at 979 (by decide +kernel)
theorem in_Mod_isStop : Cond.initialized M_Mod_isStop.1.cls ∈ lw_tbl := mem_at 60 (by decide +kernel)
theorem im_Mod_isStop : Cond.instanceMethod M_Mod_isStop.1 ∈ lw_tbl := mem_at 978 (by decide +kernel)
theorem se_Mod_isStop : Cond.selects M_Mod_isStop.1.cls M_Mod_isStop.1 M_Mod_isStop.1 ∈ lw_tbl := mem_at 30 (by decide +kernel)
def M_Mod_isSpan : mi := (⟨"VanRoundsModel", "isSpan", "(I)Z"⟩, prog_10_method_14_code, 1, some .boolean)
theorem cd_Mod_isSpan : Cond.code M_Mod_isSpan.1 M_Mod_isSpan.2.1 M_Mod_isSpan.2.2.1 M_Mod_isSpan.2.2.2 ∈ lw_tbl := mem_at 983 (by decide +kernel)
theorem in_Mod_isSpan : Cond.initialized M_Mod_isSpan.1.cls ∈ lw_tbl := mem_at 60 (by decide +kernel)
theorem st_Mod_isSpan : Cond.static M_Mod_isSpan.1 ∈ lw_tbl := mem_at 982 (by decide +kernel)
def M_Mod_vanOf : mi := (⟨"VanRoundsModel", "vanOf", "(I)I"⟩, prog_10_method_20_code, 5, some .int)
theorem cd_Mod_vanOf : Cond.code M_Mod_vanOf.1 M_Mod_vanOf.2.1 M_Mod_vanOf.2.2.1 M_Mod_vanOf.2.2.2 ∈ lw_tbl := mem_at 987 (by decide +kernel)
theorem in_Mod_vanOf : Cond.initialized M_Mod_vanOf.1.cls ∈ lw_tbl := mem_at 60 (by decide +kernel)
theorem im_Mod_vanOf : Cond.instanceMethod M_Mod_vanOf.1 ∈ lw_tbl := mem_at 986 (by decide +kernel)
theorem se_Mod_vanOf : Cond.selects M_Mod_vanOf.1.cls M_Mod_vanOf.1 M_Mod_vanOf.1 ∈ lw_tbl := mem_at 31 (by decide +kernel)
def M_Mod_span : mi := (⟨"VanRoundsModel", "span", "(II)I"⟩, prog_10_method_16_code, 4, some .int)
theorem cd_Mod_span : Cond.code M_Mod_span.1 M_Mod_span.2.1 M_Mod_span.2.2.1 M_Mod_span.2.2.2 ∈ lw_tbl := mem_at 991 (by decide +kernel)
theorem in_Mod_span : Cond.initialized M_Mod_span.1.cls ∈ lw_tbl := mem_at 60 (by decide +kernel)
theorem im_Mod_span : Cond.instanceMethod M_Mod_span.1 ∈ lw_tbl := mem_at 989 (by decide +kernel)
theorem se_Mod_span : Cond.selects M_Mod_span.1.cls M_Mod_span.1 M_Mod_span.1 ∈ lw_tbl := mem_at 990 (by decide +kernel)
def M_Mod_price : mi := (⟨"VanRoundsModel", "price", "(II)I"⟩, prog_10_method_17_code, 4, some .int)
theorem cd_Mod_price : Cond.code M_Mod_price.1 M_Mod_price.2.1 M_Mod_price.2.2.1 M_Mod_price.2.2.2 ∈ lw_tbl := mem_at 995 (by decide +kernel)
theorem in_Mod_price : Cond.initialized M_Mod_price.1.cls ∈ lw_tbl := mem_at 60 (by decide +kernel)
theorem im_Mod_price : Cond.instanceMethod M_Mod_price.1 ∈ lw_tbl := mem_at 993 (by decide +kernel)
theorem se_Mod_price : Cond.selects M_Mod_price.1.cls M_Mod_price.1 M_Mod_price.1 ∈ lw_tbl := mem_at 994 (by decide +kernel)
def M_Mod_van : mi := (⟨"VanRoundsModel", "van", "(III)I"⟩, prog_10_method_18_code, 4, some .int)
theorem cd_Mod_van : Cond.code M_Mod_van.1 M_Mod_van.2.1 M_Mod_van.2.2.1 M_Mod_van.2.2.2 ∈ lw_tbl := mem_at 1000 (by decide +kernel)
theorem in_Mod_van : Cond.initialized M_Mod_van.1.cls ∈ lw_tbl := mem_at 60 (by decide +kernel)
theorem im_Mod_van : Cond.instanceMethod M_Mod_van.1 ∈ lw_tbl := mem_at 998 (by decide +kernel)
theorem se_Mod_van : Cond.selects M_Mod_van.1.cls M_Mod_van.1 M_Mod_van.1 ∈ lw_tbl := mem_at 999 (by decide +kernel)
def M_Mod_shift : mi := (⟨"VanRoundsModel", "shift", "(II)I"⟩, prog_10_method_19_code, 4, some .int)
theorem cd_Mod_shift : Cond.code M_Mod_shift.1 M_Mod_shift.2.1 M_Mod_shift.2.2.1 M_Mod_shift.2.2.2 ∈ lw_tbl := mem_at 1006 (by decide +kernel)
theorem in_Mod_shift : Cond.initialized M_Mod_shift.1.cls ∈ lw_tbl := mem_at 60 (by decide +kernel)
theorem im_Mod_shift : Cond.instanceMethod M_Mod_shift.1 ∈ lw_tbl := mem_at 1004 (by decide +kernel)
theorem se_Mod_shift : Cond.selects M_Mod_shift.1.cls M_Mod_shift.1 M_Mod_shift.1 ∈ lw_tbl := mem_at 1005 (by decide +kernel)
def M_Mod_isVan : mi := (⟨"VanRoundsModel", "isVan", "(I)Z"⟩, prog_10_method_6_code, 2, some .boolean)
theorem cd_Mod_isVan : Cond.code M_Mod_isVan.1 M_Mod_isVan.2.1 M_Mod_isVan.2.2.1 M_Mod_isVan.2.2.2 ∈ lw_tbl := mem_at 1010 (by decide +kernel)
theorem in_Mod_isVan : Cond.initialized M_Mod_isVan.1.cls ∈ lw_tbl := mem_at 60 (by decide +kernel)
theorem im_Mod_isVan : Cond.instanceMethod M_Mod_isVan.1 ∈ lw_tbl := mem_at 1009 (by decide +kernel)
theorem se_Mod_isVan : Cond.selects M_Mod_isVan.1.cls M_Mod_isVan.1 M_Mod_isVan.1 ∈ lw_tbl := mem_at 32 (by decide +kernel)
def M_Mod_look : mi := (⟨"VanRoundsModel", "look", "(II)I"⟩, prog_10_method_22_code, 3, some .int)
theorem cd_Mod_look : Cond.code M_Mod_look.1 M_Mod_look.2.1 M_Mod_look.2.2.1 M_Mod_look.2.2.2 ∈ lw_tbl := mem_at 1014 (by decide +kernel)
theorem in_Mod_look : Cond.initialized M_Mod_look.1.cls ∈ lw_tbl := mem_at 60 (by decide +kernel)
theorem im_Mod_look : Cond.instanceMethod M_Mod_look.1 ∈ lw_tbl := mem_at 1012 (by decide +kernel)
theorem se_Mod_look : Cond.selects M_Mod_look.1.cls M_Mod_look.1 M_Mod_look.1 ∈ lw_tbl := mem_at 1013 (by decide +kernel)
def M_Mod_placeOf : mi := (⟨"VanRoundsModel", "placeOf", "(I)I"⟩, prog_10_method_21_code, 4, some .int)
theorem cd_Mod_placeOf : Cond.code M_Mod_placeOf.1 M_Mod_placeOf.2.1 M_Mod_placeOf.2.2.1 M_Mod_placeOf.2.2.2 ∈ lw_tbl := mem_at 1018 (by decide +kernel)
theorem in_Mod_placeOf : Cond.initialized M_Mod_placeOf.1.cls ∈ lw_tbl := mem_at 60 (by decide +kernel)
theorem im_Mod_placeOf : Cond.instanceMethod M_Mod_placeOf.1 ∈ lw_tbl := mem_at 1017 (by decide +kernel)
theorem se_Mod_placeOf : Cond.selects M_Mod_placeOf.1.cls M_Mod_placeOf.1 M_Mod_placeOf.1 ∈ lw_tbl := mem_at 33 (by decide +kernel)
def M_Mod_round : mi := (⟨"VanRoundsModel", "round", "(II)I"⟩, prog_10_method_32_code, 3, some .int)
theorem cd_Mod_round : Cond.code M_Mod_round.1 M_Mod_round.2.1 M_Mod_round.2.2.1 M_Mod_round.2.2.2 ∈ lw_tbl := mem_at 1022 (by decide +kernel)
theorem in_Mod_round : Cond.initialized M_Mod_round.1.cls ∈ lw_tbl := mem_at 60 (by decide +kernel)
theorem im_Mod_round : Cond.instanceMethod M_Mod_round.1 ∈ lw_tbl := mem_at 1020 (by decide +kernel)
theorem se_Mod_round : Cond.selects M_Mod_round.1.cls M_Mod_round.1 M_Mod_round.1 ∈ lw_tbl := mem_at 1021 (by decide +kernel)
def M_Mod_when : mi := (⟨"VanRoundsModel", "when", "(III)I"⟩, prog_10_method_33_code, 5, some .int)
theorem cd_Mod_when : Cond.code M_Mod_when.1 M_Mod_when.2.1 M_Mod_when.2.2.1 M_Mod_when.2.2.2 ∈ lw_tbl := mem_at 1026 (by decide +kernel)
theorem in_Mod_when : Cond.initialized M_Mod_when.1.cls ∈ lw_tbl := mem_at 60 (by decide +kernel)
theorem im_Mod_when : Cond.instanceMethod M_Mod_when.1 ∈ lw_tbl := mem_at 1024 (by decide +kernel)
theorem se_Mod_when : Cond.selects M_Mod_when.1.cls M_Mod_when.1 M_Mod_when.1 ∈ lw_tbl := mem_at 1025 (by decide +kernel)
def M_Mod_cost : mi := (⟨"VanRoundsModel", "cost", "(I)I"⟩, prog_10_method_34_code, 2, some .int)
theorem cd_Mod_cost : Cond.code M_Mod_cost.1 M_Mod_cost.2.1 M_Mod_cost.2.2.1 M_Mod_cost.2.2.2 ∈ lw_tbl := mem_at 1031 (by decide +kernel)
theorem in_Mod_cost : Cond.initialized M_Mod_cost.1.cls ∈ lw_tbl := mem_at 60 (by decide +kernel)
theorem im_Mod_cost : Cond.instanceMethod M_Mod_cost.1 ∈ lw_tbl := mem_at 1029 (by decide +kernel)
theorem se_Mod_cost : Cond.selects M_Mod_cost.1.cls M_Mod_cost.1 M_Mod_cost.1 ∈ lw_tbl := mem_at 1030 (by decide +kernel)
def M_Mod_costAll : mi := (⟨"VanRoundsModel", "costAll", "()I"⟩, prog_10_method_31_code, 3, some .int)
theorem cd_Mod_costAll : Cond.code M_Mod_costAll.1 M_Mod_costAll.2.1 M_Mod_costAll.2.2.1 M_Mod_costAll.2.2.2 ∈ lw_tbl := mem_at 1035 (by decide +kernel)
theorem in_Mod_costAll : Cond.initialized M_Mod_costAll.1.cls ∈ lw_tbl := mem_at 60 (by decide +kernel)
theorem im_Mod_costAll : Cond.instanceMethod M_Mod_costAll.1 ∈ lw_tbl := mem_at 1034 (by decide +kernel)
theorem se_Mod_costAll : Cond.selects M_Mod_costAll.1.cls M_Mod_costAll.1 M_Mod_costAll.1 ∈ lw_tbl := mem_at 34 (by decide +kernel)
def M_Mod_costOf : mi := (⟨"VanRoundsModel", "costOf", "(I)I"⟩, prog_10_method_30_code, 3, some .int)
theorem cd_Mod_costOf : Cond.code M_Mod_costOf.1 M_Mod_costOf.2.1 M_Mod_costOf.2.2.1 M_Mod_costOf.2.2.2 ∈ lw_tbl := mem_at 1039 (by decide +kernel)
theorem in_Mod_costOf : Cond.initialized M_Mod_costOf.1.cls ∈ lw_tbl := mem_at 60 (by decide +kernel)
theorem im_Mod_costOf : Cond.instanceMethod M_Mod_costOf.1 ∈ lw_tbl := mem_at 1038 (by decide +kernel)
theorem se_Mod_costOf : Cond.selects M_Mod_costOf.1.cls M_Mod_costOf.1 M_Mod_costOf.1 ∈ lw_tbl := mem_at 35 (by decide +kernel)
def M_Mod_why : mi := (⟨"VanRoundsModel", "why", "(III)I"⟩, prog_10_method_42_code, 5, some .int)
theorem cd_Mod_why : Cond.code M_Mod_why.1 M_Mod_why.2.1 M_Mod_why.2.2.1 M_Mod_why.2.2.2 ∈ lw_tbl := mem_at 1043 (by decide +kernel)
theorem in_Mod_why : Cond.initialized M_Mod_why.1.cls ∈ lw_tbl := mem_at 60 (by decide +kernel)
theorem im_Mod_why : Cond.instanceMethod M_Mod_why.1 ∈ lw_tbl := mem_at 1041 (by decide +kernel)
theorem se_Mod_why : Cond.selects M_Mod_why.1.cls M_Mod_why.1 M_Mod_why.1 ∈ lw_tbl := mem_at 1042 (by decide +kernel)
def M_Mod_puts : mi := (⟨"VanRoundsModel", "puts", "(III)V"⟩, prog_10_method_40_code, 5, none)
theorem cd_Mod_puts : Cond.code M_Mod_puts.1 M_Mod_puts.2.1 M_Mod_puts.2.2.1 M_Mod_puts.2.2.2 ∈ lw_tbl := mem_at 1047 (by decide +kernel)
theorem in_Mod_puts : Cond.initialized M_Mod_puts.1.cls ∈ lw_tbl := mem_at 60 (by decide +kernel)
theorem im_Mod_puts : Cond.instanceMethod M_Mod_puts.1 ∈ lw_tbl := mem_at 1046 (by decide +kernel)
theorem se_Mod_puts : Cond.selects M_Mod_puts.1.cls M_Mod_puts.1 M_Mod_puts.1 ∈ lw_tbl := mem_at 36 (by decide +kernel)
def M_Mod_takesOut : mi := (⟨"VanRoundsModel", "takesOut", "(I)V"⟩, prog_10_method_41_code, 5, none)
theorem cd_Mod_takesOut : Cond.code M_Mod_takesOut.1 M_Mod_takesOut.2.1 M_Mod_takesOut.2.2.1 M_Mod_takesOut.2.2.2 ∈ lw_tbl := mem_at 1051 (by decide +kernel)
theorem in_Mod_takesOut : Cond.initialized M_Mod_takesOut.1.cls ∈ lw_tbl := mem_at 60 (by decide +kernel)
theorem im_Mod_takesOut : Cond.instanceMethod M_Mod_takesOut.1 ∈ lw_tbl := mem_at 1050 (by decide +kernel)
theorem se_Mod_takesOut : Cond.selects M_Mod_takesOut.1.cls M_Mod_takesOut.1 M_Mod_takesOut.1 ∈ lw_tbl := mem_at 37 (by decide +kernel)
def M_Mod_where : mi := (⟨"VanRoundsModel", "where", "()I"⟩, prog_10_method_43_code, 1, some .int)
theorem cd_Mod_where : Cond.code M_Mod_where.1 M_Mod_where.2.1 M_Mod_where.2.2.1 M_Mod_where.2.2.2 ∈ lw_tbl := mem_at 1055 (by decide +kernel)
theorem in_Mod_where : Cond.initialized M_Mod_where.1.cls ∈ lw_tbl := mem_at 60 (by decide +kernel)
theorem im_Mod_where : Cond.instanceMethod M_Mod_where.1 ∈ lw_tbl := mem_at 1053 (by decide +kernel)
theorem se_Mod_where : Cond.selects M_Mod_where.1.cls M_Mod_where.1 M_Mod_where.1 ∈ lw_tbl := mem_at 1054 (by decide +kernel)
def M_Mod_put : mi := (⟨"VanRoundsModel", "put", "(III)I"⟩, prog_10_method_44_code, 4, some .int)
theorem cd_Mod_put : Cond.code M_Mod_put.1 M_Mod_put.2.1 M_Mod_put.2.2.1 M_Mod_put.2.2.2 ∈ lw_tbl := mem_at 1059 (by decide +kernel)
theorem in_Mod_put : Cond.initialized M_Mod_put.1.cls ∈ lw_tbl := mem_at 60 (by decide +kernel)
theorem im_Mod_put : Cond.instanceMethod M_Mod_put.1 ∈ lw_tbl := mem_at 1057 (by decide +kernel)
theorem se_Mod_put : Cond.selects M_Mod_put.1.cls M_Mod_put.1 M_Mod_put.1 ∈ lw_tbl := mem_at 1058 (by decide +kernel)
def M_Mod_keeps : mi := (⟨"VanRoundsModel", "keeps", "([II)V"⟩, prog_10_method_35_code, 4, none)
theorem cd_Mod_keeps : Cond.code M_Mod_keeps.1 M_Mod_keeps.2.1 M_Mod_keeps.2.2.1 M_Mod_keeps.2.2.2 ∈ lw_tbl := mem_at 1063 (by decide +kernel)
theorem in_Mod_keeps : Cond.initialized M_Mod_keeps.1.cls ∈ lw_tbl := mem_at 60 (by decide +kernel)
theorem im_Mod_keeps : Cond.instanceMethod M_Mod_keeps.1 ∈ lw_tbl := mem_at 1062 (by decide +kernel)
theorem se_Mod_keeps : Cond.selects M_Mod_keeps.1.cls M_Mod_keeps.1 M_Mod_keeps.1 ∈ lw_tbl := mem_at 38 (by decide +kernel)
def M_Mod_settles : mi := (⟨"VanRoundsModel", "settles", "()I"⟩, prog_10_method_39_code, 1, some .int)
theorem cd_Mod_settles : Cond.code M_Mod_settles.1 M_Mod_settles.2.1 M_Mod_settles.2.2.1 M_Mod_settles.2.2.2 ∈ lw_tbl := mem_at 1067 (by decide +kernel)
theorem in_Mod_settles : Cond.initialized M_Mod_settles.1.cls ∈ lw_tbl := mem_at 60 (by decide +kernel)
theorem im_Mod_settles : Cond.instanceMethod M_Mod_settles.1 ∈ lw_tbl := mem_at 1066 (by decide +kernel)
theorem se_Mod_settles : Cond.selects M_Mod_settles.1.cls M_Mod_settles.1 M_Mod_settles.1 ∈ lw_tbl := mem_at 39 (by decide +kernel)
def M_Mod_takes : mi := (⟨"VanRoundsModel", "takes", "([II)V"⟩, prog_10_method_36_code, 4, none)
theorem cd_Mod_takes : Cond.code M_Mod_takes.1 M_Mod_takes.2.1 M_Mod_takes.2.2.1 M_Mod_takes.2.2.2 ∈ lw_tbl := mem_at 1071 (by decide +kernel)
theorem in_Mod_takes : Cond.initialized M_Mod_takes.1.cls ∈ lw_tbl := mem_at 60 (by decide +kernel)
theorem im_Mod_takes : Cond.instanceMethod M_Mod_takes.1 ∈ lw_tbl := mem_at 1070 (by decide +kernel)
theorem se_Mod_takes : Cond.selects M_Mod_takes.1.cls M_Mod_takes.1 M_Mod_takes.1 ∈ lw_tbl := mem_at 40 (by decide +kernel)
def M_Mod_notes : mi := (⟨"VanRoundsModel", "notes", "()V"⟩, prog_10_method_38_code, 2, none)
theorem cd_Mod_notes : Cond.code M_Mod_notes.1 M_Mod_notes.2.1 M_Mod_notes.2.2.1 M_Mod_notes.2.2.2 ∈ lw_tbl := mem_at 1075 (by decide +kernel)
theorem in_Mod_notes : Cond.initialized M_Mod_notes.1.cls ∈ lw_tbl := mem_at 60 (by decide +kernel)
theorem im_Mod_notes : Cond.instanceMethod M_Mod_notes.1 ∈ lw_tbl := mem_at 1074 (by decide +kernel)
theorem se_Mod_notes : Cond.selects M_Mod_notes.1.cls M_Mod_notes.1 M_Mod_notes.1 ∈ lw_tbl := mem_at 41 (by decide +kernel)
def M_Mod_isAs : mi := (⟨"VanRoundsModel", "isAs", "([II)Z"⟩, prog_10_method_37_code, 6, some .boolean)
theorem cd_Mod_isAs : Cond.code M_Mod_isAs.1 M_Mod_isAs.2.1 M_Mod_isAs.2.2.1 M_Mod_isAs.2.2.2 ∈ lw_tbl := mem_at 1079 (by decide +kernel)
theorem in_Mod_isAs : Cond.initialized M_Mod_isAs.1.cls ∈ lw_tbl := mem_at 60 (by decide +kernel)
theorem im_Mod_isAs : Cond.instanceMethod M_Mod_isAs.1 ∈ lw_tbl := mem_at 1078 (by decide +kernel)
theorem se_Mod_isAs : Cond.selects M_Mod_isAs.1.cls M_Mod_isAs.1 M_Mod_isAs.1 ∈ lw_tbl := mem_at 42 (by decide +kernel)
def M_Mod_pair : mi := (⟨"VanRoundsModel", "pair", "(IIII)I"⟩, prog_10_method_45_code, 5, some .int)
theorem cd_Mod_pair : Cond.code M_Mod_pair.1 M_Mod_pair.2.1 M_Mod_pair.2.2.1 M_Mod_pair.2.2.2 ∈ lw_tbl := mem_at 1083 (by decide +kernel)
theorem in_Mod_pair : Cond.initialized M_Mod_pair.1.cls ∈ lw_tbl := mem_at 60 (by decide +kernel)
theorem im_Mod_pair : Cond.instanceMethod M_Mod_pair.1 ∈ lw_tbl := mem_at 1081 (by decide +kernel)
theorem se_Mod_pair : Cond.selects M_Mod_pair.1.cls M_Mod_pair.1 M_Mod_pair.1 ∈ lw_tbl := mem_at 1082 (by decide +kernel)
def M_Mod_take : mi := (⟨"VanRoundsModel", "take", "(I)I"⟩, prog_10_method_46_code, 2, some .int)
theorem cd_Mod_take : Cond.code M_Mod_take.1 M_Mod_take.2.1 M_Mod_take.2.2.1 M_Mod_take.2.2.2 ∈ lw_tbl := mem_at 1087 (by decide +kernel)
theorem in_Mod_take : Cond.initialized M_Mod_take.1.cls ∈ lw_tbl := mem_at 60 (by decide +kernel)
theorem im_Mod_take : Cond.instanceMethod M_Mod_take.1 ∈ lw_tbl := mem_at 1085 (by decide +kernel)
theorem se_Mod_take : Cond.selects M_Mod_take.1.cls M_Mod_take.1 M_Mod_take.1 ∈ lw_tbl := mem_at 1086 (by decide +kernel)
def M_Mod_move : mi := (⟨"VanRoundsModel", "move", "(III)I"⟩, prog_10_method_47_code, 5, some .int)
theorem cd_Mod_move : Cond.code M_Mod_move.1 M_Mod_move.2.1 M_Mod_move.2.2.1 M_Mod_move.2.2.2 ∈ lw_tbl := mem_at 1091 (by decide +kernel)
theorem in_Mod_move : Cond.initialized M_Mod_move.1.cls ∈ lw_tbl := mem_at 60 (by decide +kernel)
theorem im_Mod_move : Cond.instanceMethod M_Mod_move.1 ∈ lw_tbl := mem_at 1089 (by decide +kernel)
theorem se_Mod_move : Cond.selects M_Mod_move.1.cls M_Mod_move.1 M_Mod_move.1 ∈ lw_tbl := mem_at 1090 (by decide +kernel)
def M_Mod_cross : mi := (⟨"VanRoundsModel", "cross", "(IIII)I"⟩, prog_10_method_48_code, 8, some .int)
theorem cd_Mod_cross : Cond.code M_Mod_cross.1 M_Mod_cross.2.1 M_Mod_cross.2.2.1 M_Mod_cross.2.2.2 ∈ lw_tbl := mem_at 1095 (by decide +kernel)
theorem in_Mod_cross : Cond.initialized M_Mod_cross.1.cls ∈ lw_tbl := mem_at 60 (by decide +kernel)
theorem im_Mod_cross : Cond.instanceMethod M_Mod_cross.1 ∈ lw_tbl := mem_at 1093 (by decide +kernel)
theorem se_Mod_cross : Cond.selects M_Mod_cross.1.cls M_Mod_cross.1 M_Mod_cross.1 ∈ lw_tbl := mem_at 1094 (by decide +kernel)
def M_Mod_turn : mi := (⟨"VanRoundsModel", "turn", "(III)I"⟩, prog_10_method_49_code, 5, some .int)
theorem cd_Mod_turn : Cond.code M_Mod_turn.1 M_Mod_turn.2.1 M_Mod_turn.2.2.1 M_Mod_turn.2.2.2 ∈ lw_tbl := mem_at 1099 (by decide +kernel)
theorem in_Mod_turn : Cond.initialized M_Mod_turn.1.cls ∈ lw_tbl := mem_at 60 (by decide +kernel)
theorem im_Mod_turn : Cond.instanceMethod M_Mod_turn.1 ∈ lw_tbl := mem_at 1097 (by decide +kernel)
theorem se_Mod_turn : Cond.selects M_Mod_turn.1.cls M_Mod_turn.1 M_Mod_turn.1 ∈ lw_tbl := mem_at 1098 (by decide +kernel)
def M_Mod_build : mi := (⟨"VanRoundsModel", "build", "()I"⟩, prog_10_method_52_code, 5, some .int)
theorem cd_Mod_build : Cond.code M_Mod_build.1 M_Mod_build.2.1 M_Mod_build.2.2.1 M_Mod_build.2.2.2 ∈ lw_tbl := mem_at 1103 (by decide +kernel)
theorem in_Mod_build : Cond.initialized M_Mod_build.1.cls ∈ lw_tbl := mem_at 60 (by decide +kernel)
theorem im_Mod_build : Cond.instanceMethod M_Mod_build.1 ∈ lw_tbl := mem_at 1101 (by decide +kernel)
theorem se_Mod_build : Cond.selects M_Mod_build.1.cls M_Mod_build.1 M_Mod_build.1 ∈ lw_tbl := mem_at 1102 (by decide +kernel)
def M_Mod_triesAll : mi := (⟨"VanRoundsModel", "triesAll", "(II)V"⟩, prog_10_method_51_code, 6, none)
theorem cd_Mod_triesAll : Cond.code M_Mod_triesAll.1 M_Mod_triesAll.2.1 M_Mod_triesAll.2.2.1 M_Mod_triesAll.2.2.2 ∈ lw_tbl := mem_at 1107 (by decide +kernel)
theorem in_Mod_triesAll : Cond.initialized M_Mod_triesAll.1.cls ∈ lw_tbl := mem_at 60 (by decide +kernel)
theorem im_Mod_triesAll : Cond.instanceMethod M_Mod_triesAll.1 ∈ lw_tbl := mem_at 1106 (by decide +kernel)
theorem se_Mod_triesAll : Cond.selects M_Mod_triesAll.1.cls M_Mod_triesAll.1 M_Mod_triesAll.1 ∈ lw_tbl := mem_at 43 (by decide +kernel)
def M_Mod_looksAt : mi := (⟨"VanRoundsModel", "looksAt", "(IIIII)V"⟩, prog_10_method_50_code, 7, none)
theorem cd_Mod_looksAt : Cond.code M_Mod_looksAt.1 M_Mod_looksAt.2.1 M_Mod_looksAt.2.2.1 M_Mod_looksAt.2.2.2 ∈ lw_tbl := mem_at 1111 (by decide +kernel)
theorem in_Mod_looksAt : Cond.initialized M_Mod_looksAt.1.cls ∈ lw_tbl := mem_at 60 (by decide +kernel)
theorem im_Mod_looksAt : Cond.instanceMethod M_Mod_looksAt.1 ∈ lw_tbl := mem_at 1110 (by decide +kernel)
theorem se_Mod_looksAt : Cond.selects M_Mod_looksAt.1.cls M_Mod_looksAt.1 M_Mod_looksAt.1 ∈ lw_tbl := mem_at 44 (by decide +kernel)
def M_Mod_better : mi := (⟨"VanRoundsModel", "better", "(I)I"⟩, prog_10_method_54_code, 3, some .int)
theorem cd_Mod_better : Cond.code M_Mod_better.1 M_Mod_better.2.1 M_Mod_better.2.2.1 M_Mod_better.2.2.2 ∈ lw_tbl := mem_at 1115 (by decide +kernel)
theorem in_Mod_better : Cond.initialized M_Mod_better.1.cls ∈ lw_tbl := mem_at 60 (by decide +kernel)
theorem im_Mod_better : Cond.instanceMethod M_Mod_better.1 ∈ lw_tbl := mem_at 1113 (by decide +kernel)
theorem se_Mod_better : Cond.selects M_Mod_better.1.cls M_Mod_better.1 M_Mod_better.1 ∈ lw_tbl := mem_at 1114 (by decide +kernel)
def M_Mod_isBettered : mi := (⟨"VanRoundsModel", "isBettered", "()Z"⟩, prog_10_method_53_code, 6, some .boolean)
theorem cd_Mod_isBettered : Cond.code M_Mod_isBettered.1 M_Mod_isBettered.2.1 M_Mod_isBettered.2.2.1 M_Mod_isBettered.2.2.2 ∈ lw_tbl := mem_at 1119 (by decide +kernel)
theorem in_Mod_isBettered : Cond.initialized M_Mod_isBettered.1.cls ∈ lw_tbl := mem_at 60 (by decide +kernel)
theorem im_Mod_isBettered : Cond.instanceMethod M_Mod_isBettered.1 ∈ lw_tbl := mem_at 1118 (by decide +kernel)
theorem se_Mod_isBettered : Cond.selects M_Mod_isBettered.1.cls M_Mod_isBettered.1 M_Mod_isBettered.1 ∈ lw_tbl := mem_at 45 (by decide +kernel)
def M_Mod_least : mi := (⟨"VanRoundsModel", "least", "()I"⟩, prog_10_method_59_code, 4, some .int)
theorem cd_Mod_least : Cond.code M_Mod_least.1 M_Mod_least.2.1 M_Mod_least.2.2.1 M_Mod_least.2.2.2 ∈ lw_tbl := mem_at 1123 (by decide +kernel)
theorem in_Mod_least : Cond.initialized M_Mod_least.1.cls ∈ lw_tbl := mem_at 60 (by decide +kernel)
theorem im_Mod_least : Cond.instanceMethod M_Mod_least.1 ∈ lw_tbl := mem_at 1121 (by decide +kernel)
theorem se_Mod_least : Cond.selects M_Mod_least.1.cls M_Mod_least.1 M_Mod_least.1 ∈ lw_tbl := mem_at 1122 (by decide +kernel)
def M_Mod_weighs : mi := (⟨"VanRoundsModel", "weighs", "()V"⟩, prog_10_method_56_code, 5, none)
theorem cd_Mod_weighs : Cond.code M_Mod_weighs.1 M_Mod_weighs.2.1 M_Mod_weighs.2.2.1 M_Mod_weighs.2.2.2 ∈ lw_tbl := mem_at 1127 (by decide +kernel)
theorem in_Mod_weighs : Cond.initialized M_Mod_weighs.1.cls ∈ lw_tbl := mem_at 60 (by decide +kernel)
theorem im_Mod_weighs : Cond.instanceMethod M_Mod_weighs.1 ∈ lw_tbl := mem_at 1126 (by decide +kernel)
theorem se_Mod_weighs : Cond.selects M_Mod_weighs.1.cls M_Mod_weighs.1 M_Mod_weighs.1 ∈ lw_tbl := mem_at 46 (by decide +kernel)
def M_Mod_isLess : mi := (⟨"VanRoundsModel", "isLess", "()Z"⟩, prog_10_method_55_code, 6, some .boolean)
theorem cd_Mod_isLess : Cond.code M_Mod_isLess.1 M_Mod_isLess.2.1 M_Mod_isLess.2.2.1 M_Mod_isLess.2.2.2 ∈ lw_tbl := mem_at 1131 (by decide +kernel)
theorem in_Mod_isLess : Cond.initialized M_Mod_isLess.1.cls ∈ lw_tbl := mem_at 60 (by decide +kernel)
theorem im_Mod_isLess : Cond.instanceMethod M_Mod_isLess.1 ∈ lw_tbl := mem_at 1130 (by decide +kernel)
theorem se_Mod_isLess : Cond.selects M_Mod_isLess.1.cls M_Mod_isLess.1 M_Mod_isLess.1 ∈ lw_tbl := mem_at 47 (by decide +kernel)
def M_Mod_power : mi := (⟨"VanRoundsModel", "power", "(II)I"⟩, prog_10_method_57_code, 4, some .int)
theorem cd_Mod_power : Cond.code M_Mod_power.1 M_Mod_power.2.1 M_Mod_power.2.2.1 M_Mod_power.2.2.2 ∈ lw_tbl := mem_at 1134 (by decide +kernel)
theorem in_Mod_power : Cond.initialized M_Mod_power.1.cls ∈ lw_tbl := mem_at 60 (by decide +kernel)
theorem st_Mod_power : Cond.static M_Mod_power.1 ∈ lw_tbl := mem_at 1133 (by decide +kernel)
def M_Mod_lays : mi := (⟨"VanRoundsModel", "lays", "(III)Z"⟩, prog_10_method_58_code, 8, some .boolean)
theorem cd_Mod_lays : Cond.code M_Mod_lays.1 M_Mod_lays.2.1 M_Mod_lays.2.2.1 M_Mod_lays.2.2.2 ∈ lw_tbl := mem_at 1138 (by decide +kernel)
theorem in_Mod_lays : Cond.initialized M_Mod_lays.1.cls ∈ lw_tbl := mem_at 60 (by decide +kernel)
theorem im_Mod_lays : Cond.instanceMethod M_Mod_lays.1 ∈ lw_tbl := mem_at 1137 (by decide +kernel)
theorem se_Mod_lays : Cond.selects M_Mod_lays.1.cls M_Mod_lays.1 M_Mod_lays.1 ∈ lw_tbl := mem_at 48 (by decide +kernel)
def M_Mod_undo : mi := (⟨"VanRoundsModel", "undo", "()I"⟩, prog_10_method_60_code, 1, some .int)
theorem cd_Mod_undo : Cond.code M_Mod_undo.1 M_Mod_undo.2.1 M_Mod_undo.2.2.1 M_Mod_undo.2.2.2 ∈ lw_tbl := mem_at 1142 (by decide +kernel)
theorem in_Mod_undo : Cond.initialized M_Mod_undo.1.cls ∈ lw_tbl := mem_at 60 (by decide +kernel)
theorem im_Mod_undo : Cond.instanceMethod M_Mod_undo.1 ∈ lw_tbl := mem_at 1140 (by decide +kernel)
theorem se_Mod_undo : Cond.selects M_Mod_undo.1.cls M_Mod_undo.1 M_Mod_undo.1 ∈ lw_tbl := mem_at 1141 (by decide +kernel)
def M_Mod_clear : mi := (⟨"VanRoundsModel", "clear", "()I"⟩, prog_10_method_62_code, 3, some .int)
theorem cd_Mod_clear : Cond.code M_Mod_clear.1 M_Mod_clear.2.1 M_Mod_clear.2.2.1 M_Mod_clear.2.2.2 ∈ lw_tbl := mem_at 1146 (by decide +kernel)
theorem in_Mod_clear : Cond.initialized M_Mod_clear.1.cls ∈ lw_tbl := mem_at 60 (by decide +kernel)
theorem im_Mod_clear : Cond.instanceMethod M_Mod_clear.1 ∈ lw_tbl := mem_at 1144 (by decide +kernel)
theorem se_Mod_clear : Cond.selects M_Mod_clear.1.cls M_Mod_clear.1 M_Mod_clear.1 ∈ lw_tbl := mem_at 1145 (by decide +kernel)
def M_Mod_inRounds : mi := (⟨"VanRoundsModel", "inRounds", "()I"⟩, prog_10_method_61_code, 1, some .int)
theorem cd_Mod_inRounds : Cond.code M_Mod_inRounds.1 M_Mod_inRounds.2.1 M_Mod_inRounds.2.2.1 M_Mod_inRounds.2.2.2 ∈ lw_tbl := mem_at 1150 (by decide +kernel)
theorem in_Mod_inRounds : Cond.initialized M_Mod_inRounds.1.cls ∈ lw_tbl := mem_at 60 (by decide +kernel)
theorem im_Mod_inRounds : Cond.instanceMethod M_Mod_inRounds.1 ∈ lw_tbl := mem_at 1149 (by decide +kernel)
theorem se_Mod_inRounds : Cond.selects M_Mod_inRounds.1.cls M_Mod_inRounds.1 M_Mod_inRounds.1 ∈ lw_tbl := mem_at 49 (by decide +kernel)
def M_Mod_count : mi := (⟨"VanRoundsModel", "count", "(I)I"⟩, prog_10_method_64_code, 4, some .int)
theorem cd_Mod_count : Cond.code M_Mod_count.1 M_Mod_count.2.1 M_Mod_count.2.2.1 M_Mod_count.2.2.2 ∈ lw_tbl := mem_at 1154 (by decide +kernel)
theorem in_Mod_count : Cond.initialized M_Mod_count.1.cls ∈ lw_tbl := mem_at 60 (by decide +kernel)
theorem im_Mod_count : Cond.instanceMethod M_Mod_count.1 ∈ lw_tbl := mem_at 1152 (by decide +kernel)
theorem se_Mod_count : Cond.selects M_Mod_count.1.cls M_Mod_count.1 M_Mod_count.1 ∈ lw_tbl := mem_at 1153 (by decide +kernel)
def M_Mod_minutes : mi := (⟨"VanRoundsModel", "minutes", "(Z)I"⟩, prog_10_method_63_code, 7, some .int)
theorem cd_Mod_minutes : Cond.code M_Mod_minutes.1 M_Mod_minutes.2.1 M_Mod_minutes.2.2.1 M_Mod_minutes.2.2.2 ∈ lw_tbl := mem_at 1158 (by decide +kernel)
theorem in_Mod_minutes : Cond.initialized M_Mod_minutes.1.cls ∈ lw_tbl := mem_at 60 (by decide +kernel)
theorem im_Mod_minutes : Cond.instanceMethod M_Mod_minutes.1 ∈ lw_tbl := mem_at 1157 (by decide +kernel)
theorem se_Mod_minutes : Cond.selects M_Mod_minutes.1.cls M_Mod_minutes.1 M_Mod_minutes.1 ∈ lw_tbl := mem_at 50 (by decide +kernel)
def M_Mod_lay : mi := (⟨"VanRoundsModel", "lay", "(I)I"⟩, prog_10_method_65_code, 4, some .int)
theorem cd_Mod_lay : Cond.code M_Mod_lay.1 M_Mod_lay.2.1 M_Mod_lay.2.2.1 M_Mod_lay.2.2.2 ∈ lw_tbl := mem_at 1162 (by decide +kernel)
theorem in_Mod_lay : Cond.initialized M_Mod_lay.1.cls ∈ lw_tbl := mem_at 60 (by decide +kernel)
theorem im_Mod_lay : Cond.instanceMethod M_Mod_lay.1 ∈ lw_tbl := mem_at 1160 (by decide +kernel)
theorem se_Mod_lay : Cond.selects M_Mod_lay.1.cls M_Mod_lay.1 M_Mod_lay.1 ∈ lw_tbl := mem_at 1161 (by decide +kernel)
def M_Mod_tear : mi := (⟨"VanRoundsModel", "tear", "()I"⟩, prog_10_method_66_code, 2, some .int)
theorem cd_Mod_tear : Cond.code M_Mod_tear.1 M_Mod_tear.2.1 M_Mod_tear.2.2.1 M_Mod_tear.2.2.2 ∈ lw_tbl := mem_at 1166 (by decide +kernel)
theorem in_Mod_tear : Cond.initialized M_Mod_tear.1.cls ∈ lw_tbl := mem_at 60 (by decide +kernel)
theorem im_Mod_tear : Cond.instanceMethod M_Mod_tear.1 ∈ lw_tbl := mem_at 1164 (by decide +kernel)
theorem se_Mod_tear : Cond.selects M_Mod_tear.1.cls M_Mod_tear.1 M_Mod_tear.1 ∈ lw_tbl := mem_at 1165 (by decide +kernel)
def M_Mod_row : mi := (⟨"VanRoundsModel", "row", "(I)I"⟩, prog_10_method_67_code, 2, some .int)
theorem cd_Mod_row : Cond.code M_Mod_row.1 M_Mod_row.2.1 M_Mod_row.2.2.1 M_Mod_row.2.2.2 ∈ lw_tbl := mem_at 1170 (by decide +kernel)
theorem in_Mod_row : Cond.initialized M_Mod_row.1.cls ∈ lw_tbl := mem_at 60 (by decide +kernel)
theorem im_Mod_row : Cond.instanceMethod M_Mod_row.1 ∈ lw_tbl := mem_at 1168 (by decide +kernel)
theorem se_Mod_row : Cond.selects M_Mod_row.1.cls M_Mod_row.1 M_Mod_row.1 ∈ lw_tbl := mem_at 1169 (by decide +kernel)
def M_Mod_copy : mi := (⟨"VanRoundsModel", "copy", "(III)I"⟩, prog_10_method_68_code, 5, some .int)
theorem cd_Mod_copy : Cond.code M_Mod_copy.1 M_Mod_copy.2.1 M_Mod_copy.2.2.1 M_Mod_copy.2.2.2 ∈ lw_tbl := mem_at 1174 (by decide +kernel)
theorem in_Mod_copy : Cond.initialized M_Mod_copy.1.cls ∈ lw_tbl := mem_at 60 (by decide +kernel)
theorem im_Mod_copy : Cond.instanceMethod M_Mod_copy.1 ∈ lw_tbl := mem_at 1172 (by decide +kernel)
theorem se_Mod_copy : Cond.selects M_Mod_copy.1.cls M_Mod_copy.1 M_Mod_copy.1 ∈ lw_tbl := mem_at 1173 (by decide +kernel)
def M_Mod_status : mi := (⟨"VanRoundsModel", "status", "(I)I"⟩, prog_10_method_69_code, 2, some .int)
theorem cd_Mod_status : Cond.code M_Mod_status.1 M_Mod_status.2.1 M_Mod_status.2.2.1 M_Mod_status.2.2.2 ∈ lw_tbl := mem_at 1178 (by decide +kernel)
theorem in_Mod_status : Cond.initialized M_Mod_status.1.cls ∈ lw_tbl := mem_at 60 (by decide +kernel)
theorem im_Mod_status : Cond.instanceMethod M_Mod_status.1 ∈ lw_tbl := mem_at 1176 (by decide +kernel)
theorem se_Mod_status : Cond.selects M_Mod_status.1.cls M_Mod_status.1 M_Mod_status.1 ∈ lw_tbl := mem_at 1177 (by decide +kernel)
theorem kl_Law_7 : Cond.classLink "VanRoundsLaw" 7 "VanRounds" ∈ lw_tbl := mem_at 63 (by decide +kernel)
theorem mk_Van : Cond.instantiable "VanRounds" 12 ∈ lw_tbl := mem_at 64 (by decide +kernel)
theorem lk_Law_9 : Cond.methodLink "VanRoundsLaw" 9 M_Van_init.1 ∈ lw_tbl := mem_at 65 (by decide +kernel)
theorem lk_Van_3 : Cond.methodLink "VanRounds" 3 ⟨"java/lang/Object", "<init>", "()V"⟩ ∈ lw_tbl := mem_at 68 (by decide +kernel)
theorem kl_Van_9 : Cond.classLink "VanRounds" 9 "VanRounds$Planner" ∈ lw_tbl := mem_at 71 (by decide +kernel)
theorem mk_Planner : Cond.instantiable "VanRounds$Planner" 13 ∈ lw_tbl := mem_at 72 (by decide +kernel)
theorem lk_Van_11 : Cond.methodLinkNest "VanRounds" 11 M_Planner_init.1 "VanRounds" ∈ lw_tbl := mem_at 73 (by decide +kernel)
theorem lk_Planner_3 : Cond.methodLink "VanRounds$Planner" 3 ⟨"java/lang/Object", "<init>", "()V"⟩ ∈ lw_tbl := mem_at 76 (by decide +kernel)
theorem kl_Planner_9 : Cond.classLink "VanRounds$Planner" 9 "VanRounds$Trip" ∈ lw_tbl := mem_at 77 (by decide +kernel)
theorem mk_Trip : Cond.instantiable "VanRounds$Trip" 12 ∈ lw_tbl := mem_at 78 (by decide +kernel)
theorem lk_Planner_11 : Cond.methodLinkNest "VanRounds$Planner" 11 M_Trip_init.1 "VanRounds" ∈ lw_tbl := mem_at 79 (by decide +kernel)
theorem lk_Trip_3 : Cond.methodLink "VanRounds$Trip" 3 ⟨"java/lang/Object", "<init>", "()V"⟩ ∈ lw_tbl := mem_at 82 (by decide +kernel)
theorem kl_Trip_9 : Cond.classLink "VanRounds$Trip" 9 "VanRounds$Town" ∈ lw_tbl := mem_at 83 (by decide +kernel)
theorem mk_Town : Cond.instantiable "VanRounds$Town" 6 ∈ lw_tbl := mem_at 84 (by decide +kernel)
theorem lk_Trip_11 : Cond.methodLinkNest "VanRounds$Trip" 11 M_Town_init.1 "VanRounds" ∈ lw_tbl := mem_at 85 (by decide +kernel)
theorem lk_Town_3 : Cond.methodLink "VanRounds$Town" 3 ⟨"java/lang/Object", "<init>", "()V"⟩ ∈ lw_tbl := mem_at 88 (by decide +kernel)
theorem fm_Town_9 : Cond.fieldLink "VanRounds$Town" 9 "VanRounds$Town" "takes" "[I" ∈ lw_tbl := mem_at 89 (by decide +kernel)
theorem fm_Town_15 : Cond.fieldLink "VanRounds$Town" 15 "VanRounds$Town" "later" "[I" ∈ lw_tbl := mem_at 90 (by decide +kernel)
theorem fm_Town_18 : Cond.fieldLink "VanRounds$Town" 18 "VanRounds$Town" "remembered" "[I" ∈ lw_tbl := mem_at 91 (by decide +kernel)
theorem fm_Town_21 : Cond.fieldLink "VanRounds$Town" 21 "VanRounds$Town" "comings" "[I" ∈ lw_tbl := mem_at 92 (by decide +kernel)
theorem fm_Town_24 : Cond.fieldLink "VanRounds$Town" 24 "VanRounds$Town" "labels" "[I" ∈ lw_tbl := mem_at 93 (by decide +kernel)
theorem fm_Town_27 : Cond.fieldLink "VanRounds$Town" 27 "VanRounds$Town" "age" "I" ∈ lw_tbl := mem_at 94 (by decide +kernel)
theorem kl_Trip_18 : Cond.classLink "VanRounds$Trip" 18 "VanRounds$Stops" ∈ lw_tbl := mem_at 109 (by decide +kernel)
theorem mk_Stops : Cond.instantiable "VanRounds$Stops" 9 ∈ lw_tbl := mem_at 110 (by decide +kernel)
theorem lk_Trip_20 : Cond.methodLinkNest "VanRounds$Trip" 20 M_Stops_init.1 "VanRounds" ∈ lw_tbl := mem_at 111 (by decide +kernel)
theorem lk_Stops_3 : Cond.methodLink "VanRounds$Stops" 3 ⟨"java/lang/Object", "<init>", "()V"⟩ ∈ lw_tbl := mem_at 114 (by decide +kernel)
theorem fm_Stops_36 : Cond.fieldLink "VanRounds$Stops" 36 "VanRounds$Stops" "total" "I" ∈ lw_tbl := mem_at 115 (by decide +kernel)
theorem fm_Planner_42 : Cond.fieldLinkNest "VanRounds$Planner" 42 "VanRounds$Stops" "total" "I" "VanRounds" ∈ lw_tbl := mem_at 116 (by decide +kernel)
theorem fm_Van_134 : Cond.fieldLinkNest "VanRounds" 134 "VanRounds$Stops" "total" "I" "VanRounds" ∈ lw_tbl := mem_at 117 (by decide +kernel)
theorem fm_Stops_9 : Cond.fieldLink "VanRounds$Stops" 9 "VanRounds$Stops" "kind" "[I" ∈ lw_tbl := mem_at 118 (by decide +kernel)
theorem fm_Planner_47 : Cond.fieldLinkNest "VanRounds$Planner" 47 "VanRounds$Stops" "kind" "[I" "VanRounds" ∈ lw_tbl := mem_at 119 (by decide +kernel)
theorem fm_Trip_97 : Cond.fieldLinkNest "VanRounds$Trip" 97 "VanRounds$Stops" "kind" "[I" "VanRounds" ∈ lw_tbl := mem_at 120 (by decide +kernel)
theorem fm_Van_119 : Cond.fieldLinkNest "VanRounds" 119 "VanRounds$Stops" "kind" "[I" "VanRounds" ∈ lw_tbl := mem_at 121 (by decide +kernel)
theorem fm_Stops_15 : Cond.fieldLink "VanRounds$Stops" 15 "VanRounds$Stops" "place" "[I" ∈ lw_tbl := mem_at 122 (by decide +kernel)
theorem fm_Trip_117 : Cond.fieldLinkNest "VanRounds$Trip" 117 "VanRounds$Stops" "place" "[I" "VanRounds" ∈ lw_tbl := mem_at 123 (by decide +kernel)
theorem fm_Van_166 : Cond.fieldLinkNest "VanRounds" 166 "VanRounds$Stops" "place" "[I" "VanRounds" ∈ lw_tbl := mem_at 124 (by decide +kernel)
theorem fm_Stops_18 : Cond.fieldLink "VanRounds$Stops" 18 "VanRounds$Stops" "from" "[I" ∈ lw_tbl := mem_at 125 (by decide +kernel)
theorem fm_Van_145 : Cond.fieldLinkNest "VanRounds" 145 "VanRounds$Stops" "from" "[I" "VanRounds" ∈ lw_tbl := mem_at 126 (by decide +kernel)
theorem fm_Trip_124 : Cond.fieldLinkNest "VanRounds$Trip" 124 "VanRounds$Stops" "from" "[I" "VanRounds" ∈ lw_tbl := mem_at 127 (by decide +kernel)
theorem fm_Stops_21 : Cond.fieldLink "VanRounds$Stops" 21 "VanRounds$Stops" "to" "[I" ∈ lw_tbl := mem_at 128 (by decide +kernel)
theorem fm_Van_148 : Cond.fieldLinkNest "VanRounds" 148 "VanRounds$Stops" "to" "[I" "VanRounds" ∈ lw_tbl := mem_at 129 (by decide +kernel)
theorem fm_Trip_134 : Cond.fieldLinkNest "VanRounds$Trip" 134 "VanRounds$Stops" "to" "[I" "VanRounds" ∈ lw_tbl := mem_at 130 (by decide +kernel)
theorem fm_Stops_24 : Cond.fieldLink "VanRounds$Stops" 24 "VanRounds$Stops" "serve" "[I" ∈ lw_tbl := mem_at 131 (by decide +kernel)
theorem fm_Trip_131 : Cond.fieldLinkNest "VanRounds$Trip" 131 "VanRounds$Stops" "serve" "[I" "VanRounds" ∈ lw_tbl := mem_at 132 (by decide +kernel)
theorem fm_Van_172 : Cond.fieldLinkNest "VanRounds" 172 "VanRounds$Stops" "serve" "[I" "VanRounds" ∈ lw_tbl := mem_at 133 (by decide +kernel)
theorem fm_Stops_27 : Cond.fieldLink "VanRounds$Stops" 27 "VanRounds$Stops" "amount" "[I" ∈ lw_tbl := mem_at 134 (by decide +kernel)
theorem fm_Trip_107 : Cond.fieldLinkNest "VanRounds$Trip" 107 "VanRounds$Stops" "amount" "[I" "VanRounds" ∈ lw_tbl := mem_at 135 (by decide +kernel)
theorem fm_Stops_30 : Cond.fieldLink "VanRounds$Stops" 30 "VanRounds$Stops" "mate" "[I" ∈ lw_tbl := mem_at 136 (by decide +kernel)
theorem fm_Planner_76 : Cond.fieldLinkNest "VanRounds$Planner" 76 "VanRounds$Stops" "mate" "[I" "VanRounds" ∈ lw_tbl := mem_at 137 (by decide +kernel)
theorem fm_Trip_100 : Cond.fieldLinkNest "VanRounds$Trip" 100 "VanRounds$Stops" "mate" "[I" "VanRounds" ∈ lw_tbl := mem_at 138 (by decide +kernel)
theorem fm_Van_122 : Cond.fieldLinkNest "VanRounds" 122 "VanRounds$Stops" "mate" "[I" "VanRounds" ∈ lw_tbl := mem_at 139 (by decide +kernel)
theorem fm_Stops_33 : Cond.fieldLink "VanRounds$Stops" 33 "VanRounds$Stops" "price" "[I" ∈ lw_tbl := mem_at 140 (by decide +kernel)
theorem fm_Van_151 : Cond.fieldLinkNest "VanRounds" 151 "VanRounds$Stops" "price" "[I" "VanRounds" ∈ lw_tbl := mem_at 141 (by decide +kernel)
theorem fm_Trip_137 : Cond.fieldLinkNest "VanRounds$Trip" 137 "VanRounds$Stops" "price" "[I" "VanRounds" ∈ lw_tbl := mem_at 142 (by decide +kernel)
theorem kl_Trip_25 : Cond.classLink "VanRounds$Trip" 25 "VanRounds$Vans" ∈ lw_tbl := mem_at 162 (by decide +kernel)
theorem mk_Vans : Cond.instantiable "VanRounds$Vans" 5 ∈ lw_tbl := mem_at 163 (by decide +kernel)
theorem lk_Trip_27 : Cond.methodLinkNest "VanRounds$Trip" 27 M_Vans_init.1 "VanRounds" ∈ lw_tbl := mem_at 164 (by decide +kernel)
theorem lk_Vans_3 : Cond.methodLink "VanRounds$Vans" 3 ⟨"java/lang/Object", "<init>", "()V"⟩ ∈ lw_tbl := mem_at 167 (by decide +kernel)
theorem fm_Vans_24 : Cond.fieldLink "VanRounds$Vans" 24 "VanRounds$Vans" "total" "I" ∈ lw_tbl := mem_at 168 (by decide +kernel)
theorem fm_Planner_55 : Cond.fieldLinkNest "VanRounds$Planner" 55 "VanRounds$Vans" "total" "I" "VanRounds" ∈ lw_tbl := mem_at 169 (by decide +kernel)
theorem fm_Trip_90 : Cond.fieldLinkNest "VanRounds$Trip" 90 "VanRounds$Vans" "total" "I" "VanRounds" ∈ lw_tbl := mem_at 170 (by decide +kernel)
theorem fm_Van_154 : Cond.fieldLinkNest "VanRounds" 154 "VanRounds$Vans" "total" "I" "VanRounds" ∈ lw_tbl := mem_at 171 (by decide +kernel)
theorem fm_Vans_9 : Cond.fieldLink "VanRounds$Vans" 9 "VanRounds$Vans" "load" "[I" ∈ lw_tbl := mem_at 172 (by decide +kernel)
theorem fm_Trip_110 : Cond.fieldLinkNest "VanRounds$Trip" 110 "VanRounds$Vans" "load" "[I" "VanRounds" ∈ lw_tbl := mem_at 173 (by decide +kernel)
theorem fm_Vans_15 : Cond.fieldLink "VanRounds$Vans" 15 "VanRounds$Vans" "from" "[I" ∈ lw_tbl := mem_at 174 (by decide +kernel)
theorem fm_Trip_84 : Cond.fieldLinkNest "VanRounds$Trip" 84 "VanRounds$Vans" "from" "[I" "VanRounds" ∈ lw_tbl := mem_at 175 (by decide +kernel)
theorem fm_Van_164 : Cond.fieldLinkNest "VanRounds" 164 "VanRounds$Vans" "from" "[I" "VanRounds" ∈ lw_tbl := mem_at 176 (by decide +kernel)
theorem fm_Vans_18 : Cond.fieldLink "VanRounds$Vans" 18 "VanRounds$Vans" "to" "[I" ∈ lw_tbl := mem_at 177 (by decide +kernel)
theorem fm_Trip_140 : Cond.fieldLinkNest "VanRounds$Trip" 140 "VanRounds$Vans" "to" "[I" "VanRounds" ∈ lw_tbl := mem_at 178 (by decide +kernel)
theorem fm_Van_165 : Cond.fieldLinkNest "VanRounds" 165 "VanRounds$Vans" "to" "[I" "VanRounds" ∈ lw_tbl := mem_at 179 (by decide +kernel)
theorem fm_Vans_21 : Cond.fieldLink "VanRounds$Vans" 21 "VanRounds$Vans" "fee" "[I" ∈ lw_tbl := mem_at 180 (by decide +kernel)
theorem fm_Trip_87 : Cond.fieldLinkNest "VanRounds$Trip" 87 "VanRounds$Vans" "fee" "[I" "VanRounds" ∈ lw_tbl := mem_at 181 (by decide +kernel)
theorem fm_Trip_12 : Cond.fieldLink "VanRounds$Trip" 12 "VanRounds$Trip" "town" "LVanRounds$Town;" ∈ lw_tbl := mem_at 193 (by decide +kernel)
theorem fm_Van_26 : Cond.fieldLinkNest "VanRounds" 26 "VanRounds$Trip" "town" "LVanRounds$Town;" "VanRounds" ∈ lw_tbl := mem_at 194 (by decide +kernel)
theorem fm_Planner_18 : Cond.fieldLinkNest "VanRounds$Planner" 18 "VanRounds$Trip" "stops" "LVanRounds$Stops;" "VanRounds" ∈ lw_tbl := mem_at 195 (by decide +kernel)
theorem fm_Trip_21 : Cond.fieldLink "VanRounds$Trip" 21 "VanRounds$Trip" "stops" "LVanRounds$Stops;" ∈ lw_tbl := mem_at 196 (by decide +kernel)
theorem fm_Van_33 : Cond.fieldLinkNest "VanRounds" 33 "VanRounds$Trip" "stops" "LVanRounds$Stops;" "VanRounds" ∈ lw_tbl := mem_at 197 (by decide +kernel)
theorem fm_Planner_23 : Cond.fieldLinkNest "VanRounds$Planner" 23 "VanRounds$Trip" "vans" "LVanRounds$Vans;" "VanRounds" ∈ lw_tbl := mem_at 198 (by decide +kernel)
theorem fm_Trip_28 : Cond.fieldLink "VanRounds$Trip" 28 "VanRounds$Trip" "vans" "LVanRounds$Vans;" ∈ lw_tbl := mem_at 199 (by decide +kernel)
theorem fm_Van_38 : Cond.fieldLinkNest "VanRounds" 38 "VanRounds$Trip" "vans" "LVanRounds$Vans;" "VanRounds" ∈ lw_tbl := mem_at 200 (by decide +kernel)
theorem fm_Trip_32 : Cond.fieldLink "VanRounds$Trip" 32 "VanRounds$Trip" "come" "[I" ∈ lw_tbl := mem_at 201 (by decide +kernel)
theorem fm_Van_192 : Cond.fieldLinkNest "VanRounds" 192 "VanRounds$Trip" "come" "[I" "VanRounds" ∈ lw_tbl := mem_at 202 (by decide +kernel)
theorem fm_Trip_36 : Cond.fieldLink "VanRounds$Trip" 36 "VanRounds$Trip" "begin" "[I" ∈ lw_tbl := mem_at 203 (by decide +kernel)
theorem fm_Van_195 : Cond.fieldLinkNest "VanRounds" 195 "VanRounds$Trip" "begin" "[I" "VanRounds" ∈ lw_tbl := mem_at 204 (by decide +kernel)
theorem fm_Trip_39 : Cond.fieldLink "VanRounds$Trip" 39 "VanRounds$Trip" "leave" "[I" ∈ lw_tbl := mem_at 205 (by decide +kernel)
theorem fm_Van_198 : Cond.fieldLinkNest "VanRounds" 198 "VanRounds$Trip" "leave" "[I" "VanRounds" ∈ lw_tbl := mem_at 206 (by decide +kernel)
theorem fm_Trip_42 : Cond.fieldLink "VanRounds$Trip" 42 "VanRounds$Trip" "aboard" "[I" ∈ lw_tbl := mem_at 207 (by decide +kernel)
theorem fm_Van_201 : Cond.fieldLinkNest "VanRounds" 201 "VanRounds$Trip" "aboard" "[I" "VanRounds" ∈ lw_tbl := mem_at 208 (by decide +kernel)
theorem fm_Trip_81 : Cond.fieldLink "VanRounds$Trip" 81 "VanRounds$Trip" "back" "I" ∈ lw_tbl := mem_at 209 (by decide +kernel)
theorem fm_Van_189 : Cond.fieldLinkNest "VanRounds" 189 "VanRounds$Trip" "back" "I" "VanRounds" ∈ lw_tbl := mem_at 210 (by decide +kernel)
theorem fm_Trip_54 : Cond.fieldLink "VanRounds$Trip" 54 "VanRounds$Trip" "fault" "I" ∈ lw_tbl := mem_at 211 (by decide +kernel)
theorem fm_Van_217 : Cond.fieldLinkNest "VanRounds" 217 "VanRounds$Trip" "fault" "I" "VanRounds" ∈ lw_tbl := mem_at 212 (by decide +kernel)
theorem fm_Trip_58 : Cond.fieldLink "VanRounds$Trip" 58 "VanRounds$Trip" "expense" "I" ∈ lw_tbl := mem_at 213 (by decide +kernel)
theorem fm_Planner_86 : Cond.fieldLinkNest "VanRounds$Planner" 86 "VanRounds$Trip" "expense" "I" "VanRounds" ∈ lw_tbl := mem_at 214 (by decide +kernel)
theorem fm_Van_204 : Cond.fieldLinkNest "VanRounds" 204 "VanRounds$Trip" "expense" "I" "VanRounds" ∈ lw_tbl := mem_at 215 (by decide +kernel)
theorem fm_Trip_61 : Cond.fieldLink "VanRounds$Trip" 61 "VanRounds$Trip" "waiting" "I" ∈ lw_tbl := mem_at 216 (by decide +kernel)
theorem fm_Van_291 : Cond.fieldLinkNest "VanRounds" 291 "VanRounds$Trip" "waiting" "I" "VanRounds" ∈ lw_tbl := mem_at 217 (by decide +kernel)
theorem fm_Trip_64 : Cond.fieldLink "VanRounds$Trip" 64 "VanRounds$Trip" "lateness" "I" ∈ lw_tbl := mem_at 218 (by decide +kernel)
theorem fm_Van_294 : Cond.fieldLinkNest "VanRounds" 294 "VanRounds$Trip" "lateness" "I" "VanRounds" ∈ lw_tbl := mem_at 219 (by decide +kernel)
theorem kl_Planner_28 : Cond.classLink "VanRounds$Planner" 28 "VanRounds$Plan" ∈ lw_tbl := mem_at 245 (by decide +kernel)
theorem mk_Plan : Cond.instantiable "VanRounds$Plan" 2 ∈ lw_tbl := mem_at 246 (by decide +kernel)
theorem lk_Planner_30 : Cond.methodLinkNest "VanRounds$Planner" 30 M_Plan_init.1 "VanRounds" ∈ lw_tbl := mem_at 247 (by decide +kernel)
theorem lk_Plan_3 : Cond.methodLink "VanRounds$Plan" 3 ⟨"java/lang/Object", "<init>", "()V"⟩ ∈ lw_tbl := mem_at 250 (by decide +kernel)
theorem kl_Plan_9 : Cond.classLink "VanRounds$Plan" 9 "[[I" ∈ lw_tbl := mem_at 251 (by decide +kernel)
theorem fm_Plan_11 : Cond.fieldLink "VanRounds$Plan" 11 "VanRounds$Plan" "rounds" "[[I" ∈ lw_tbl := mem_at 253 (by decide +kernel)
theorem fm_Trip_45 : Cond.fieldLinkNest "VanRounds$Trip" 45 "VanRounds$Plan" "rounds" "[[I" "VanRounds" ∈ lw_tbl := mem_at 254 (by decide +kernel)
theorem fm_Van_181 : Cond.fieldLinkNest "VanRounds" 181 "VanRounds$Plan" "rounds" "[[I" "VanRounds" ∈ lw_tbl := mem_at 255 (by decide +kernel)
theorem fm_Plan_16 : Cond.fieldLink "VanRounds$Plan" 16 "VanRounds$Plan" "sizes" "[I" ∈ lw_tbl := mem_at 256 (by decide +kernel)
theorem fm_Trip_51 : Cond.fieldLinkNest "VanRounds$Trip" 51 "VanRounds$Plan" "sizes" "[I" "VanRounds" ∈ lw_tbl := mem_at 257 (by decide +kernel)
theorem fm_Planner_89 : Cond.fieldLinkNest "VanRounds$Planner" 89 "VanRounds$Plan" "sizes" "[I" "VanRounds" ∈ lw_tbl := mem_at 258 (by decide +kernel)
theorem fm_Van_178 : Cond.fieldLinkNest "VanRounds" 178 "VanRounds$Plan" "sizes" "[I" "VanRounds" ∈ lw_tbl := mem_at 259 (by decide +kernel)
theorem fm_Planner_12 : Cond.fieldLink "VanRounds$Planner" 12 "VanRounds$Planner" "trip" "LVanRounds$Trip;" ∈ lw_tbl := mem_at 265 (by decide +kernel)
theorem fm_Van_21 : Cond.fieldLinkNest "VanRounds" 21 "VanRounds$Planner" "trip" "LVanRounds$Trip;" "VanRounds" ∈ lw_tbl := mem_at 266 (by decide +kernel)
theorem fm_Planner_22 : Cond.fieldLink "VanRounds$Planner" 22 "VanRounds$Planner" "stops" "LVanRounds$Stops;" ∈ lw_tbl := mem_at 267 (by decide +kernel)
theorem fm_Planner_27 : Cond.fieldLink "VanRounds$Planner" 27 "VanRounds$Planner" "vans" "LVanRounds$Vans;" ∈ lw_tbl := mem_at 268 (by decide +kernel)
theorem fm_Van_16 : Cond.fieldLinkNest "VanRounds" 16 "VanRounds$Planner" "draft" "LVanRounds$Plan;" "VanRounds" ∈ lw_tbl := mem_at 269 (by decide +kernel)
theorem fm_Planner_31 : Cond.fieldLink "VanRounds$Planner" 31 "VanRounds$Planner" "draft" "LVanRounds$Plan;" ∈ lw_tbl := mem_at 270 (by decide +kernel)
theorem fm_Planner_38 : Cond.fieldLink "VanRounds$Planner" 38 "VanRounds$Planner" "putStop" "I" ∈ lw_tbl := mem_at 271 (by decide +kernel)
theorem fm_Planner_66 : Cond.fieldLink "VanRounds$Planner" 66 "VanRounds$Planner" "putVan" "I" ∈ lw_tbl := mem_at 272 (by decide +kernel)
theorem fm_Planner_69 : Cond.fieldLink "VanRounds$Planner" 69 "VanRounds$Planner" "putPlace" "I" ∈ lw_tbl := mem_at 273 (by decide +kernel)
theorem fm_Planner_79 : Cond.fieldLink "VanRounds$Planner" 79 "VanRounds$Planner" "putDropPlace" "I" ∈ lw_tbl := mem_at 274 (by decide +kernel)
theorem fm_Planner_99 : Cond.fieldLink "VanRounds$Planner" 99 "VanRounds$Planner" "putGrowth" "I" ∈ lw_tbl := mem_at 275 (by decide +kernel)
theorem fm_Planner_35 : Cond.fieldLink "VanRounds$Planner" 35 "VanRounds$Planner" "leastPlan" "LVanRounds$Plan;" ∈ lw_tbl := mem_at 276 (by decide +kernel)
theorem fm_Planner_112 : Cond.fieldLink "VanRounds$Planner" 112 "VanRounds$Planner" "leastMusts" "I" ∈ lw_tbl := mem_at 277 (by decide +kernel)
theorem fm_Planner_134 : Cond.fieldLink "VanRounds$Planner" 134 "VanRounds$Planner" "leastSize" "I" ∈ lw_tbl := mem_at 278 (by decide +kernel)
theorem fm_Planner_137 : Cond.fieldLink "VanRounds$Planner" 137 "VanRounds$Planner" "leastCost" "I" ∈ lw_tbl := mem_at 279 (by decide +kernel)
theorem kl_Van_43 : Cond.classLink "VanRounds" 43 "VanRounds$Plan" ∈ lw_tbl := mem_at 307 (by decide +kernel)
theorem lk_Van_45 : Cond.methodLinkNest "VanRounds" 45 M_Plan_init.1 "VanRounds" ∈ lw_tbl := mem_at 308 (by decide +kernel)
theorem kl_Van_49 : Cond.classLink "VanRounds" 49 "VanRounds$Past" ∈ lw_tbl := mem_at 309 (by decide +kernel)
theorem mk_Past : Cond.instantiable "VanRounds$Past" 3 ∈ lw_tbl := mem_at 310 (by decide +kernel)
theorem lk_Van_51 : Cond.methodLink "VanRounds" 51 M_Past_init.1 ∈ lw_tbl := mem_at 311 (by decide +kernel)
theorem lk_Past_3 : Cond.methodLink "VanRounds$Past" 3 ⟨"java/lang/Object", "<init>", "()V"⟩ ∈ lw_tbl := mem_at 314 (by decide +kernel)
theorem kl_Past_9 : Cond.classLink "VanRounds$Past" 9 "VanRounds$Plan" ∈ lw_tbl := mem_at 315 (by decide +kernel)
theorem lk_Past_17 : Cond.methodLinkNest "VanRounds$Past" 17 M_Plan_init.1 "VanRounds" ∈ lw_tbl := mem_at 317 (by decide +kernel)
theorem fm_Past_11 : Cond.fieldLink "VanRounds$Past" 11 "VanRounds$Past" "plans" "[LVanRounds$Plan;" ∈ lw_tbl := mem_at 318 (by decide +kernel)
theorem fm_Past_22 : Cond.fieldLink "VanRounds$Past" 22 "VanRounds$Past" "newest" "I" ∈ lw_tbl := mem_at 319 (by decide +kernel)
theorem fm_Past_18 : Cond.fieldLink "VanRounds$Past" 18 "VanRounds$Past" "held" "I" ∈ lw_tbl := mem_at 320 (by decide +kernel)
theorem fm_Van_257 : Cond.fieldLinkNest "VanRounds" 257 "VanRounds$Past" "held" "I" "VanRounds" ∈ lw_tbl := mem_at 321 (by decide +kernel)
theorem fm_Van_12 : Cond.fieldLink "VanRounds" 12 "VanRounds" "planner" "LVanRounds$Planner;" ∈ lw_tbl := mem_at 329 (by decide +kernel)
theorem fm_Van_20 : Cond.fieldLink "VanRounds" 20 "VanRounds" "draft" "LVanRounds$Plan;" ∈ lw_tbl := mem_at 330 (by decide +kernel)
theorem fm_Van_25 : Cond.fieldLink "VanRounds" 25 "VanRounds" "trip" "LVanRounds$Trip;" ∈ lw_tbl := mem_at 331 (by decide +kernel)
theorem fm_Van_32 : Cond.fieldLink "VanRounds" 32 "VanRounds" "town" "LVanRounds$Town;" ∈ lw_tbl := mem_at 332 (by decide +kernel)
theorem fm_Van_37 : Cond.fieldLink "VanRounds" 37 "VanRounds" "stops" "LVanRounds$Stops;" ∈ lw_tbl := mem_at 333 (by decide +kernel)
theorem fm_Van_42 : Cond.fieldLink "VanRounds" 42 "VanRounds" "vans" "LVanRounds$Vans;" ∈ lw_tbl := mem_at 334 (by decide +kernel)
theorem fm_Van_46 : Cond.fieldLink "VanRounds" 46 "VanRounds" "plan" "LVanRounds$Plan;" ∈ lw_tbl := mem_at 335 (by decide +kernel)
theorem fm_Van_52 : Cond.fieldLink "VanRounds" 52 "VanRounds" "past" "LVanRounds$Past;" ∈ lw_tbl := mem_at 336 (by decide +kernel)
theorem fm_Van_56 : Cond.fieldLink "VanRounds" 56 "VanRounds" "numbers" "[I" ∈ lw_tbl := mem_at 337 (by decide +kernel)
theorem fm_Van_60 : Cond.fieldLink "VanRounds" 60 "VanRounds" "rowSize" "I" ∈ lw_tbl := mem_at 338 (by decide +kernel)
theorem fm_Van_64 : Cond.fieldLink "VanRounds" 64 "VanRounds" "latestWhere" "I" ∈ lw_tbl := mem_at 339 (by decide +kernel)
theorem fm_Van_67 : Cond.fieldLink "VanRounds" 67 "VanRounds" "refusals" "[I" ∈ lw_tbl := mem_at 340 (by decide +kernel)
theorem lk_Law_13 : Cond.methodLink "VanRoundsLaw" 13 M_Van_street.1 ∈ lw_tbl := mem_at 366 (by decide +kernel)
theorem lk_Van_70 : Cond.methodLink "VanRounds" 70 M_Van_isPlace.1 ∈ lw_tbl := mem_at 370 (by decide +kernel)
theorem lk_Van_74 : Cond.methodLink "VanRounds" 74 M_Van_refuse.1 ∈ lw_tbl := mem_at 373 (by decide +kernel)
theorem lk_Van_78 : Cond.methodLink "VanRounds" 78 M_Town_hasStreet.1 ∈ lw_tbl := mem_at 377 (by decide +kernel)
theorem lk_Town_31 : Cond.methodLink "VanRounds$Town" 31 M_Town_first.1 ∈ lw_tbl := mem_at 381 (by decide +kernel)
theorem lk_Van_84 : Cond.methodLink "VanRounds" 84 M_Town_remember.1 ∈ lw_tbl := mem_at 385 (by decide +kernel)
theorem lk_Town_39 : Cond.methodLink "VanRounds$Town" 39 ⟨"java/lang/System", "arraycopy", "(Ljava/lang/Object;ILjava/lang/Object;II)V"⟩ ∈ lw_tbl := mem_at 389 (by decide +kernel)
theorem lk_Van_88 : Cond.methodLink "VanRounds" 88 M_Town_setDay.1 ∈ lw_tbl := mem_at 392 (by decide +kernel)
theorem lk_Town_35 : Cond.methodLink "VanRounds$Town" 35 M_Town_reckon.1 ∈ lw_tbl := mem_at 396 (by decide +kernel)
theorem kc_Town_45 : Cond.constant "VanRounds$Town" 45 (Int32.ofInt 1000000) ∈ lw_tbl := mem_at 400 (by decide +kernel)
theorem lk_Town_46 : Cond.methodLink "VanRounds$Town" 46 M_Town_minutes.1 ∈ lw_tbl := mem_at 401 (by decide +kernel)
theorem lk_Town_50 : Cond.methodLink "VanRounds$Town" 50 ⟨"java/lang/Math", "min", "(II)I"⟩ ∈ lw_tbl := mem_at 405 (by decide +kernel)
theorem lk_Van_92 : Cond.methodLink "VanRounds" 92 M_Trip_total.1 ∈ lw_tbl := mem_at 408 (by decide +kernel)
theorem lk_Trip_93 : Cond.methodLink "VanRounds$Trip" 93 M_Trip_judge.1 ∈ lw_tbl := mem_at 412 (by decide +kernel)
theorem lk_Trip_67 : Cond.methodLink "VanRounds$Trip" 67 M_Trip_isPaired.1 ∈ lw_tbl := mem_at 416 (by decide +kernel)
theorem lk_Trip_71 : Cond.methodLink "VanRounds$Trip" 71 M_Trip_isCarried.1 ∈ lw_tbl := mem_at 420 (by decide +kernel)
theorem lk_Trip_103 : Cond.methodLink "VanRounds$Trip" 103 M_Stops_isAboardAtFirst.1 ∈ lw_tbl := mem_at 424 (by decide +kernel)
theorem lk_Trip_113 : Cond.methodLink "VanRounds$Trip" 113 M_Stops_amountOf.1 ∈ lw_tbl := mem_at 428 (by decide +kernel)
theorem lk_Trip_75 : Cond.methodLink "VanRounds$Trip" 75 M_Trip_isInTime.1 ∈ lw_tbl := mem_at 432 (by decide +kernel)
theorem lk_Trip_120 : Cond.methodLink "VanRounds$Trip" 120 M_Town_comes.1 ∈ lw_tbl := mem_at 436 (by decide +kernel)
theorem lk_Town_55 : Cond.methodLink "VanRounds$Town" 55 M_Town_walk.1 ∈ lw_tbl := mem_at 440 (by decide +kernel)
theorem lk_Trip_125 : Cond.methodLink "VanRounds$Trip" 125 ⟨"java/lang/Math", "max", "(II)I"⟩ ∈ lw_tbl := mem_at 444 (by decide +kernel)
theorem lk_Trip_78 : Cond.methodLink "VanRounds$Trip" 78 M_Trip_isBack.1 ∈ lw_tbl := mem_at 447 (by decide +kernel)
theorem lk_Van_96 : Cond.methodLink "VanRounds" 96 M_Town_restore.1 ∈ lw_tbl := mem_at 451 (by decide +kernel)
theorem lk_Van_99 : Cond.methodLink "VanRounds" 99 M_Past_forget.1 ∈ lw_tbl := mem_at 455 (by decide +kernel)
theorem lk_Law_18 : Cond.methodLink "VanRoundsLaw" 18 M_Van_slow.1 ∈ lw_tbl := mem_at 459 (by decide +kernel)
theorem lk_Van_102 : Cond.methodLink "VanRounds" 102 M_Town_minutes.1 ∈ lw_tbl := mem_at 463 (by decide +kernel)
theorem lk_Van_106 : Cond.methodLink "VanRounds" 106 M_Town_setHour.1 ∈ lw_tbl := mem_at 464 (by decide +kernel)
theorem lk_Law_23 : Cond.methodLink "VanRoundsLaw" 23 M_Van_way.1 ∈ lw_tbl := mem_at 468 (by decide +kernel)
theorem lk_Van_110 : Cond.methodLink "VanRounds" 110 M_Town_comes.1 ∈ lw_tbl := mem_at 472 (by decide +kernel)
theorem kc_Van_113 : Cond.constant "VanRounds" 113 (Int32.ofInt 1000000) ∈ lw_tbl := mem_at 473 (by decide +kernel)
theorem lk_Law_27 : Cond.methodLink "VanRoundsLaw" 27 M_Van_stop.1 ∈ lw_tbl := mem_at 474 (by decide +kernel)
theorem lk_Van_114 : Cond.methodLink "VanRounds" 114 M_Stops_has.1 ∈ lw_tbl := mem_at 478 (by decide +kernel)
theorem lk_Van_125 : Cond.methodLink "VanRounds" 125 M_Plan_vanWith.1 ∈ lw_tbl := mem_at 482 (by decide +kernel)
theorem lk_Van_128 : Cond.methodLink "VanRounds" 128 M_Van_isSpan.1 ∈ lw_tbl := mem_at 486 (by decide +kernel)
theorem lk_Van_131 : Cond.methodLink "VanRounds" 131 M_Van_isService.1 ∈ lw_tbl := mem_at 489 (by decide +kernel)
theorem lk_Van_136 : Cond.methodLink "VanRounds" 136 M_Stops_add.1 ∈ lw_tbl := mem_at 492 (by decide +kernel)
theorem lk_Van_139 : Cond.methodLink "VanRounds" 139 M_Stops_setSpan.1 ∈ lw_tbl := mem_at 496 (by decide +kernel)
theorem lk_Van_142 : Cond.methodLink "VanRounds" 142 M_Stops_join.1 ∈ lw_tbl := mem_at 500 (by decide +kernel)
theorem lk_Law_31 : Cond.methodLink "VanRoundsLaw" 31 M_Van_span.1 ∈ lw_tbl := mem_at 504 (by decide +kernel)
theorem lk_Law_36 : Cond.methodLink "VanRoundsLaw" 36 M_Van_price.1 ∈ lw_tbl := mem_at 508 (by decide +kernel)
theorem lk_Law_40 : Cond.methodLink "VanRoundsLaw" 40 M_Van_van.1 ∈ lw_tbl := mem_at 512 (by decide +kernel)
theorem lk_Van_157 : Cond.methodLink "VanRounds" 157 M_Vans_add.1 ∈ lw_tbl := mem_at 516 (by decide +kernel)
theorem lk_Van_160 : Cond.methodLink "VanRounds" 160 M_Vans_setShift.1 ∈ lw_tbl := mem_at 520 (by decide +kernel)
theorem lk_Law_44 : Cond.methodLink "VanRoundsLaw" 44 M_Van_shift.1 ∈ lw_tbl := mem_at 524 (by decide +kernel)
theorem lk_Van_163 : Cond.methodLink "VanRounds" 163 M_Vans_has.1 ∈ lw_tbl := mem_at 528 (by decide +kernel)
theorem lk_Law_48 : Cond.methodLink "VanRoundsLaw" 48 M_Van_look.1 ∈ lw_tbl := mem_at 532 (by decide +kernel)
theorem lk_Van_169 : Cond.methodLink "VanRounds" 169 M_Stops_amountOf.1 ∈ lw_tbl := mem_at 536 (by decide +kernel)
theorem lk_Van_175 : Cond.methodLink "VanRounds" 175 M_Plan_placeOf.1 ∈ lw_tbl := mem_at 537 (by decide +kernel)
theorem lk_Law_52 : Cond.methodLink "VanRoundsLaw" 52 M_Van_round.1 ∈ lw_tbl := mem_at 541 (by decide +kernel)
theorem lk_Law_56 : Cond.methodLink "VanRoundsLaw" 56 M_Van_when.1 ∈ lw_tbl := mem_at 545 (by decide +kernel)
theorem lk_Van_185 : Cond.methodLink "VanRounds" 185 M_Trip_judge.1 ∈ lw_tbl := mem_at 549 (by decide +kernel)
theorem lk_Law_60 : Cond.methodLink "VanRoundsLaw" 60 M_Van_cost.1 ∈ lw_tbl := mem_at 550 (by decide +kernel)
theorem lk_Law_65 : Cond.methodLink "VanRoundsLaw" 65 M_Van_why.1 ∈ lw_tbl := mem_at 554 (by decide +kernel)
theorem lk_Van_207 : Cond.methodLink "VanRounds" 207 M_Van_isGap.1 ∈ lw_tbl := mem_at 558 (by decide +kernel)
theorem lk_Van_210 : Cond.methodLink "VanRounds" 210 M_Plan_become.1 ∈ lw_tbl := mem_at 562 (by decide +kernel)
theorem lk_Plan_20 : Cond.methodLink "VanRounds$Plan" 20 ⟨"java/lang/System", "arraycopy", "(Ljava/lang/Object;ILjava/lang/Object;II)V"⟩ ∈ lw_tbl := mem_at 566 (by decide +kernel)
theorem lk_Van_214 : Cond.methodLink "VanRounds" 214 M_Plan_insert.1 ∈ lw_tbl := mem_at 567 (by decide +kernel)
theorem lk_Law_69 : Cond.methodLink "VanRoundsLaw" 69 M_Van_where.1 ∈ lw_tbl := mem_at 571 (by decide +kernel)
theorem lk_Law_74 : Cond.methodLink "VanRoundsLaw" 74 M_Van_put.1 ∈ lw_tbl := mem_at 575 (by decide +kernel)
theorem lk_Van_220 : Cond.methodLink "VanRounds" 220 M_Van_settle.1 ∈ lw_tbl := mem_at 579 (by decide +kernel)
theorem lk_Van_248 : Cond.methodLink "VanRounds" 248 M_Van_adopt.1 ∈ lw_tbl := mem_at 583 (by decide +kernel)
theorem lk_Van_284 : Cond.methodLink "VanRounds" 284 M_Plan_isLike.1 ∈ lw_tbl := mem_at 587 (by decide +kernel)
theorem lk_Van_288 : Cond.methodLink "VanRounds" 288 M_Past_keep.1 ∈ lw_tbl := mem_at 591 (by decide +kernel)
theorem lk_Past_25 : Cond.methodLink "VanRounds$Past" 25 M_Plan_become.1 ∈ lw_tbl := mem_at 595 (by decide +kernel)
theorem lk_Law_78 : Cond.methodLink "VanRoundsLaw" 78 M_Van_pair.1 ∈ lw_tbl := mem_at 596 (by decide +kernel)
theorem lk_Law_82 : Cond.methodLink "VanRoundsLaw" 82 M_Van_take.1 ∈ lw_tbl := mem_at 600 (by decide +kernel)
theorem lk_Van_224 : Cond.methodLink "VanRounds" 224 M_Plan_remove.1 ∈ lw_tbl := mem_at 604 (by decide +kernel)
theorem lk_Plan_26 : Cond.methodLink "VanRounds$Plan" 26 M_Plan_vanWith.1 ∈ lw_tbl := mem_at 608 (by decide +kernel)
theorem lk_Plan_30 : Cond.methodLink "VanRounds$Plan" 30 M_Plan_placeOf.1 ∈ lw_tbl := mem_at 609 (by decide +kernel)
theorem lk_Plan_33 : Cond.methodLink "VanRounds$Plan" 33 M_Plan_removeAt.1 ∈ lw_tbl := mem_at 610 (by decide +kernel)
theorem lk_Law_86 : Cond.methodLink "VanRoundsLaw" 86 M_Van_move.1 ∈ lw_tbl := mem_at 614 (by decide +kernel)
theorem lk_Law_90 : Cond.methodLink "VanRoundsLaw" 90 M_Van_cross.1 ∈ lw_tbl := mem_at 618 (by decide +kernel)
theorem lk_Van_228 : Cond.methodLink "VanRounds" 228 M_Plan_takeEnd.1 ∈ lw_tbl := mem_at 622 (by decide +kernel)
theorem lk_Law_94 : Cond.methodLink "VanRoundsLaw" 94 M_Van_turn.1 ∈ lw_tbl := mem_at 626 (by decide +kernel)
theorem lk_Van_232 : Cond.methodLink "VanRounds" 232 M_Van_isTaken.1 ∈ lw_tbl := mem_at 630 (by decide +kernel)
theorem lk_Van_235 : Cond.methodLink "VanRounds" 235 M_Plan_reverse.1 ∈ lw_tbl := mem_at 634 (by decide +kernel)
theorem lk_Law_98 : Cond.methodLink "VanRoundsLaw" 98 M_Van_build.1 ∈ lw_tbl := mem_at 638 (by decide +kernel)
theorem lk_Van_238 : Cond.methodLink "VanRounds" 238 M_Plan_size.1 ∈ lw_tbl := mem_at 642 (by decide +kernel)
theorem lk_Van_241 : Cond.methodLink "VanRounds" 241 M_Planner_findPut.1 ∈ lw_tbl := mem_at 646 (by decide +kernel)
theorem lk_Planner_51 : Cond.methodLink "VanRounds$Planner" 51 M_Plan_vanWith.1 ∈ lw_tbl := mem_at 650 (by decide +kernel)
theorem lk_Planner_58 : Cond.methodLink "VanRounds$Planner" 58 M_Planner_tryPuts.1 ∈ lw_tbl := mem_at 651 (by decide +kernel)
theorem lk_Planner_82 : Cond.methodLink "VanRounds$Planner" 82 M_Trip_judge.1 ∈ lw_tbl := mem_at 655 (by decide +kernel)
theorem lk_Planner_72 : Cond.methodLink "VanRounds$Planner" 72 M_Plan_insert.1 ∈ lw_tbl := mem_at 656 (by decide +kernel)
theorem lk_Planner_92 : Cond.methodLink "VanRounds$Planner" 92 M_Planner_weighPut.1 ∈ lw_tbl := mem_at 657 (by decide +kernel)
theorem lk_Planner_96 : Cond.methodLink "VanRounds$Planner" 96 M_Plan_removeAt.1 ∈ lw_tbl := mem_at 661 (by decide +kernel)
theorem lk_Van_245 : Cond.methodLink "VanRounds" 245 M_Planner_doPut.1 ∈ lw_tbl := mem_at 662 (by decide +kernel)
theorem lk_Planner_62 : Cond.methodLink "VanRounds$Planner" 62 M_Stops_has.1 ∈ lw_tbl := mem_at 666 (by decide +kernel)
theorem lk_Law_102 : Cond.methodLink "VanRoundsLaw" 102 M_Van_better.1 ∈ lw_tbl := mem_at 667 (by decide +kernel)
theorem lk_Van_251 : Cond.methodLink "VanRounds" 251 M_Planner_improve.1 ∈ lw_tbl := mem_at 671 (by decide +kernel)
theorem lk_Planner_102 : Cond.methodLink "VanRounds$Planner" 102 M_Planner_moveToLess.1 ∈ lw_tbl := mem_at 675 (by decide +kernel)
theorem lk_Planner_106 : Cond.methodLink "VanRounds$Planner" 106 M_Plan_placeOf.1 ∈ lw_tbl := mem_at 679 (by decide +kernel)
theorem lk_Law_106 : Cond.methodLink "VanRoundsLaw" 106 M_Van_least.1 ∈ lw_tbl := mem_at 680 (by decide +kernel)
theorem lk_Van_254 : Cond.methodLink "VanRounds" 254 M_Planner_seekLeast.1 ∈ lw_tbl := mem_at 684 (by decide +kernel)
theorem lk_Planner_109 : Cond.methodLink "VanRounds$Planner" 109 M_Plan_empty.1 ∈ lw_tbl := mem_at 688 (by decide +kernel)
theorem lk_Planner_115 : Cond.methodLink "VanRounds$Planner" 115 M_Planner_extend.1 ∈ lw_tbl := mem_at 692 (by decide +kernel)
theorem lk_Planner_122 : Cond.methodLink "VanRounds$Planner" 122 M_Planner_weighPlan.1 ∈ lw_tbl := mem_at 696 (by decide +kernel)
theorem lk_Planner_126 : Cond.methodLink "VanRounds$Planner" 126 M_Trip_mustsIn.1 ∈ lw_tbl := mem_at 700 (by decide +kernel)
theorem lk_Planner_130 : Cond.methodLink "VanRounds$Planner" 130 M_Plan_size.1 ∈ lw_tbl := mem_at 704 (by decide +kernel)
theorem lk_Planner_118 : Cond.methodLink "VanRounds$Planner" 118 M_Plan_become.1 ∈ lw_tbl := mem_at 705 (by decide +kernel)
theorem lk_Law_110 : Cond.methodLink "VanRoundsLaw" 110 M_Van_undo.1 ∈ lw_tbl := mem_at 706 (by decide +kernel)
theorem lk_Van_260 : Cond.methodLink "VanRounds" 260 M_Past_bringBack.1 ∈ lw_tbl := mem_at 710 (by decide +kernel)
theorem lk_Law_114 : Cond.methodLink "VanRoundsLaw" 114 M_Van_clear.1 ∈ lw_tbl := mem_at 714 (by decide +kernel)
theorem lk_Van_263 : Cond.methodLink "VanRounds" 263 M_Plan_empty.1 ∈ lw_tbl := mem_at 718 (by decide +kernel)
theorem lk_Law_118 : Cond.methodLink "VanRoundsLaw" 118 M_Van_count.1 ∈ lw_tbl := mem_at 719 (by decide +kernel)
theorem lk_Van_266 : Cond.methodLink "VanRounds" 266 M_Stops_musts.1 ∈ lw_tbl := mem_at 723 (by decide +kernel)
theorem lk_Van_269 : Cond.methodLink "VanRounds" 269 M_Trip_mustsIn.1 ∈ lw_tbl := mem_at 727 (by decide +kernel)
theorem lk_Van_272 : Cond.methodLink "VanRounds" 272 M_Van_totalWaiting.1 ∈ lw_tbl := mem_at 728 (by decide +kernel)
theorem lk_Van_275 : Cond.methodLink "VanRounds" 275 M_Van_totalLateness.1 ∈ lw_tbl := mem_at 732 (by decide +kernel)
theorem lk_Law_122 : Cond.methodLink "VanRoundsLaw" 122 M_Van_lay.1 ∈ lw_tbl := mem_at 736 (by decide +kernel)
theorem lk_Van_278 : Cond.methodLink "VanRounds" 278 ⟨"java/lang/System", "arraycopy", "(Ljava/lang/Object;ILjava/lang/Object;II)V"⟩ ∈ lw_tbl := mem_at 740 (by decide +kernel)
theorem lk_Law_126 : Cond.methodLink "VanRoundsLaw" 126 M_Van_tear.1 ∈ lw_tbl := mem_at 741 (by decide +kernel)
theorem lk_Law_130 : Cond.methodLink "VanRoundsLaw" 130 M_Van_row.1 ∈ lw_tbl := mem_at 745 (by decide +kernel)
theorem lk_Law_134 : Cond.methodLink "VanRoundsLaw" 134 M_Van_copy.1 ∈ lw_tbl := mem_at 749 (by decide +kernel)
theorem lk_Law_138 : Cond.methodLink "VanRoundsLaw" 138 M_Van_status.1 ∈ lw_tbl := mem_at 753 (by decide +kernel)
theorem kl_Law_10 : Cond.classLink "VanRoundsLaw" 10 "VanRoundsModel" ∈ lw_tbl := mem_at 757 (by decide +kernel)
theorem mk_Mod : Cond.instantiable "VanRoundsModel" 46 ∈ lw_tbl := mem_at 758 (by decide +kernel)
theorem lk_Law_12 : Cond.methodLink "VanRoundsLaw" 12 M_Mod_init.1 ∈ lw_tbl := mem_at 759 (by decide +kernel)
theorem lk_Mod_1 : Cond.methodLink "VanRoundsModel" 1 ⟨"java/lang/Object", "<init>", "()V"⟩ ∈ lw_tbl := mem_at 762 (by decide +kernel)
theorem fm_Mod_7 : Cond.fieldLink "VanRoundsModel" 7 "VanRoundsModel" "street" "[I" ∈ lw_tbl := mem_at 763 (by decide +kernel)
theorem fm_Mod_13 : Cond.fieldLink "VanRoundsModel" 13 "VanRoundsModel" "kind" "[I" ∈ lw_tbl := mem_at 764 (by decide +kernel)
theorem fm_Mod_16 : Cond.fieldLink "VanRoundsModel" 16 "VanRoundsModel" "place" "[I" ∈ lw_tbl := mem_at 765 (by decide +kernel)
theorem fm_Mod_19 : Cond.fieldLink "VanRoundsModel" 19 "VanRoundsModel" "from" "[I" ∈ lw_tbl := mem_at 766 (by decide +kernel)
theorem fm_Mod_22 : Cond.fieldLink "VanRoundsModel" 22 "VanRoundsModel" "to" "[I" ∈ lw_tbl := mem_at 767 (by decide +kernel)
theorem fm_Mod_25 : Cond.fieldLink "VanRoundsModel" 25 "VanRoundsModel" "serve" "[I" ∈ lw_tbl := mem_at 768 (by decide +kernel)
theorem fm_Mod_28 : Cond.fieldLink "VanRoundsModel" 28 "VanRoundsModel" "amount" "[I" ∈ lw_tbl := mem_at 769 (by decide +kernel)
theorem fm_Mod_31 : Cond.fieldLink "VanRoundsModel" 31 "VanRoundsModel" "partner" "[I" ∈ lw_tbl := mem_at 770 (by decide +kernel)
theorem fm_Mod_34 : Cond.fieldLink "VanRoundsModel" 34 "VanRoundsModel" "price" "[I" ∈ lw_tbl := mem_at 771 (by decide +kernel)
theorem fm_Mod_37 : Cond.fieldLink "VanRoundsModel" 37 "VanRoundsModel" "load" "[I" ∈ lw_tbl := mem_at 772 (by decide +kernel)
theorem fm_Mod_40 : Cond.fieldLink "VanRoundsModel" 40 "VanRoundsModel" "begins" "[I" ∈ lw_tbl := mem_at 773 (by decide +kernel)
theorem fm_Mod_43 : Cond.fieldLink "VanRoundsModel" 43 "VanRoundsModel" "ends" "[I" ∈ lw_tbl := mem_at 774 (by decide +kernel)
theorem fm_Mod_46 : Cond.fieldLink "VanRoundsModel" 46 "VanRoundsModel" "fee" "[I" ∈ lw_tbl := mem_at 775 (by decide +kernel)
theorem fm_Mod_102 : Cond.fieldLink "VanRoundsModel" 102 "VanRoundsModel" "stops" "I" ∈ lw_tbl := mem_at 776 (by decide +kernel)
theorem fm_Mod_105 : Cond.fieldLink "VanRoundsModel" 105 "VanRoundsModel" "vans" "I" ∈ lw_tbl := mem_at 777 (by decide +kernel)
theorem fm_Mod_49 : Cond.fieldLink "VanRoundsModel" 49 "VanRoundsModel" "round" "[I" ∈ lw_tbl := mem_at 778 (by decide +kernel)
theorem fm_Mod_52 : Cond.fieldLink "VanRoundsModel" 52 "VanRoundsModel" "size" "[I" ∈ lw_tbl := mem_at 779 (by decide +kernel)
theorem fm_Mod_55 : Cond.fieldLink "VanRoundsModel" 55 "VanRoundsModel" "undone" "[I" ∈ lw_tbl := mem_at 780 (by decide +kernel)
theorem fm_Mod_58 : Cond.fieldLink "VanRoundsModel" 58 "VanRoundsModel" "other" "[I" ∈ lw_tbl := mem_at 781 (by decide +kernel)
theorem fm_Mod_61 : Cond.fieldLink "VanRoundsModel" 61 "VanRoundsModel" "best" "[I" ∈ lw_tbl := mem_at 782 (by decide +kernel)
theorem fm_Mod_137 : Cond.fieldLink "VanRoundsModel" 137 "VanRoundsModel" "undos" "I" ∈ lw_tbl := mem_at 783 (by decide +kernel)
theorem fm_Mod_64 : Cond.fieldLink "VanRoundsModel" 64 "VanRoundsModel" "refused" "[I" ∈ lw_tbl := mem_at 784 (by decide +kernel)
theorem fm_Mod_67 : Cond.fieldLink "VanRoundsModel" 67 "VanRoundsModel" "comes" "[I" ∈ lw_tbl := mem_at 785 (by decide +kernel)
theorem fm_Mod_70 : Cond.fieldLink "VanRoundsModel" 70 "VanRoundsModel" "isDone" "[Z" ∈ lw_tbl := mem_at 786 (by decide +kernel)
theorem fm_Mod_74 : Cond.fieldLink "VanRoundsModel" 74 "VanRoundsModel" "before" "[I" ∈ lw_tbl := mem_at 787 (by decide +kernel)
theorem fm_Mod_77 : Cond.fieldLink "VanRoundsModel" 77 "VanRoundsModel" "arrives" "[I" ∈ lw_tbl := mem_at 788 (by decide +kernel)
theorem fm_Mod_80 : Cond.fieldLink "VanRoundsModel" 80 "VanRoundsModel" "starts" "[I" ∈ lw_tbl := mem_at 789 (by decide +kernel)
theorem fm_Mod_83 : Cond.fieldLink "VanRoundsModel" 83 "VanRoundsModel" "leaves" "[I" ∈ lw_tbl := mem_at 790 (by decide +kernel)
theorem fm_Mod_86 : Cond.fieldLink "VanRoundsModel" 86 "VanRoundsModel" "aboard" "[I" ∈ lw_tbl := mem_at 791 (by decide +kernel)
theorem fm_Mod_188 : Cond.fieldLink "VanRoundsModel" 188 "VanRoundsModel" "back" "I" ∈ lw_tbl := mem_at 792 (by decide +kernel)
theorem fm_Mod_171 : Cond.fieldLink "VanRoundsModel" 171 "VanRoundsModel" "why" "I" ∈ lw_tbl := mem_at 793 (by decide +kernel)
theorem fm_Mod_174 : Cond.fieldLink "VanRoundsModel" 174 "VanRoundsModel" "where" "I" ∈ lw_tbl := mem_at 794 (by decide +kernel)
theorem fm_Mod_185 : Cond.fieldLink "VanRoundsModel" 185 "VanRoundsModel" "price0" "I" ∈ lw_tbl := mem_at 795 (by decide +kernel)
theorem fm_Mod_89 : Cond.fieldLink "VanRoundsModel" 89 "VanRoundsModel" "told" "I" ∈ lw_tbl := mem_at 796 (by decide +kernel)
theorem fm_Mod_240 : Cond.fieldLink "VanRoundsModel" 240 "VanRoundsModel" "growth" "I" ∈ lw_tbl := mem_at 797 (by decide +kernel)
theorem fm_Mod_237 : Cond.fieldLink "VanRoundsModel" 237 "VanRoundsModel" "gStop" "I" ∈ lw_tbl := mem_at 798 (by decide +kernel)
theorem fm_Mod_243 : Cond.fieldLink "VanRoundsModel" 243 "VanRoundsModel" "gVan" "I" ∈ lw_tbl := mem_at 799 (by decide +kernel)
theorem fm_Mod_246 : Cond.fieldLink "VanRoundsModel" 246 "VanRoundsModel" "gPlace" "I" ∈ lw_tbl := mem_at 800 (by decide +kernel)
theorem fm_Mod_249 : Cond.fieldLink "VanRoundsModel" 249 "VanRoundsModel" "gSecond" "I" ∈ lw_tbl := mem_at 801 (by decide +kernel)
theorem fm_Mod_266 : Cond.fieldLink "VanRoundsModel" 266 "VanRoundsModel" "goodMusts" "I" ∈ lw_tbl := mem_at 802 (by decide +kernel)
theorem fm_Mod_269 : Cond.fieldLink "VanRoundsModel" 269 "VanRoundsModel" "goodStops" "I" ∈ lw_tbl := mem_at 803 (by decide +kernel)
theorem fm_Mod_272 : Cond.fieldLink "VanRoundsModel" 272 "VanRoundsModel" "goodCost" "I" ∈ lw_tbl := mem_at 804 (by decide +kernel)
theorem fm_Mod_262 : Cond.fieldLink "VanRoundsModel" 262 "VanRoundsModel" "hasGood" "Z" ∈ lw_tbl := mem_at 805 (by decide +kernel)
theorem fm_Mod_93 : Cond.fieldLink "VanRoundsModel" 93 "VanRoundsModel" "row" "[I" ∈ lw_tbl := mem_at 806 (by decide +kernel)
theorem fm_Mod_96 : Cond.fieldLink "VanRoundsModel" 96 "VanRoundsModel" "moved" "[I" ∈ lw_tbl := mem_at 807 (by decide +kernel)
theorem fm_Mod_99 : Cond.fieldLink "VanRoundsModel" 99 "VanRoundsModel" "rowSize" "I" ∈ lw_tbl := mem_at 808 (by decide +kernel)
theorem lk_Law_26 : Cond.methodLink "VanRoundsLaw" 26 M_Mod_way.1 ∈ lw_tbl := mem_at 903 (by decide +kernel)
theorem lk_Mod_116 : Cond.methodLink "VanRoundsModel" 116 M_Mod_isPlace.1 ∈ lw_tbl := mem_at 907 (by decide +kernel)
theorem kc_Mod_120 : Cond.constantLong "VanRoundsModel" 120 (Int64.ofInt (479)) ∈ lw_tbl := mem_at 910 (by decide +kernel)
theorem lk_Mod_122 : Cond.methodLink "VanRoundsModel" 122 M_Mod_isIn.1 ∈ lw_tbl := mem_at 911 (by decide +kernel)
theorem lk_Mod_126 : Cond.methodLink "VanRoundsModel" 126 M_Mod_no.1 ∈ lw_tbl := mem_at 914 (by decide +kernel)
theorem lk_Mod_130 : Cond.methodLink "VanRoundsModel" 130 M_Mod_wayOf.1 ∈ lw_tbl := mem_at 918 (by decide +kernel)
theorem kc_Mod_112 : Cond.constant "VanRoundsModel" 112 (Int32.ofInt 1000000) ∈ lw_tbl := mem_at 922 (by decide +kernel)
theorem lk_Mod_113 : Cond.methodLink "VanRoundsModel" 113 M_Mod_over.1 ∈ lw_tbl := mem_at 923 (by decide +kernel)
theorem lk_Mod_108 : Cond.methodLink "VanRoundsModel" 108 M_Mod_at.1 ∈ lw_tbl := mem_at 927 (by decide +kernel)
theorem lk_Law_17 : Cond.methodLink "VanRoundsLaw" 17 M_Mod_street.1 ∈ lw_tbl := mem_at 930 (by decide +kernel)
theorem kc_Mod_140 : Cond.constantLong "VanRoundsModel" 140 (Int64.ofInt (99)) ∈ lw_tbl := mem_at 934 (by decide +kernel)
theorem lk_Mod_142 : Cond.methodLink "VanRoundsModel" 142 M_Mod_tells.1 ∈ lw_tbl := mem_at 935 (by decide +kernel)
theorem lk_Mod_133 : Cond.methodLink "VanRoundsModel" 133 M_Mod_allFit.1 ∈ lw_tbl := mem_at 939 (by decide +kernel)
theorem lk_Mod_201 : Cond.methodLink "VanRoundsModel" 201 M_Mod_fits.1 ∈ lw_tbl := mem_at 943 (by decide +kernel)
theorem lk_Mod_191 : Cond.methodLink "VanRoundsModel" 191 M_Mod_pairs.1 ∈ lw_tbl := mem_at 947 (by decide +kernel)
theorem lk_Mod_177 : Cond.methodLink "VanRoundsModel" 177 M_Mod_stands.1 ∈ lw_tbl := mem_at 951 (by decide +kernel)
theorem lk_Mod_181 : Cond.methodLink "VanRoundsModel" 181 M_Mod_fails.1 ∈ lw_tbl := mem_at 955 (by decide +kernel)
theorem lk_Mod_195 : Cond.methodLink "VanRoundsModel" 195 M_Mod_loads.1 ∈ lw_tbl := mem_at 959 (by decide +kernel)
theorem lk_Mod_198 : Cond.methodLink "VanRoundsModel" 198 M_Mod_goes.1 ∈ lw_tbl := mem_at 963 (by decide +kernel)
theorem lk_Law_22 : Cond.methodLink "VanRoundsLaw" 22 M_Mod_slow.1 ∈ lw_tbl := mem_at 967 (by decide +kernel)
theorem kc_Mod_146 : Cond.constantLong "VanRoundsModel" 146 (Int64.ofInt (7)) ∈ lw_tbl := mem_at 971 (by decide +kernel)
theorem lk_Law_30 : Cond.methodLink "VanRoundsLaw" 30 M_Mod_stop.1 ∈ lw_tbl := mem_at 972 (by decide +kernel)
theorem lk_Mod_148 : Cond.methodLink "VanRoundsModel" 148 M_Mod_isStop.1 ∈ lw_tbl := mem_at 976 (by decide +kernel)
theorem kc_Mod_151 : Cond.constantLong "VanRoundsModel" 151 (Int64.ofInt (4)) ∈ lw_tbl := mem_at 980 (by decide +kernel)
theorem lk_Mod_153 : Cond.methodLink "VanRoundsModel" 153 M_Mod_isSpan.1 ∈ lw_tbl := mem_at 981 (by decide +kernel)
theorem lk_Mod_156 : Cond.methodLink "VanRoundsModel" 156 M_Mod_vanOf.1 ∈ lw_tbl := mem_at 984 (by decide +kernel)
theorem lk_Law_35 : Cond.methodLink "VanRoundsLaw" 35 M_Mod_span.1 ∈ lw_tbl := mem_at 988 (by decide +kernel)
theorem lk_Law_39 : Cond.methodLink "VanRoundsLaw" 39 M_Mod_price.1 ∈ lw_tbl := mem_at 992 (by decide +kernel)
theorem kc_Mod_159 : Cond.constantLong "VanRoundsModel" 159 (Int64.ofInt (9)) ∈ lw_tbl := mem_at 996 (by decide +kernel)
theorem lk_Law_43 : Cond.methodLink "VanRoundsLaw" 43 M_Mod_van.1 ∈ lw_tbl := mem_at 997 (by decide +kernel)
theorem kc_Mod_161 : Cond.constantLong "VanRoundsModel" 161 (Int64.ofInt (200)) ∈ lw_tbl := mem_at 1001 (by decide +kernel)
theorem kc_Mod_163 : Cond.constantLong "VanRoundsModel" 163 (Int64.ofInt (500)) ∈ lw_tbl := mem_at 1002 (by decide +kernel)
theorem lk_Law_47 : Cond.methodLink "VanRoundsLaw" 47 M_Mod_shift.1 ∈ lw_tbl := mem_at 1003 (by decide +kernel)
theorem lk_Mod_165 : Cond.methodLink "VanRoundsModel" 165 M_Mod_isVan.1 ∈ lw_tbl := mem_at 1007 (by decide +kernel)
theorem lk_Law_51 : Cond.methodLink "VanRoundsLaw" 51 M_Mod_look.1 ∈ lw_tbl := mem_at 1011 (by decide +kernel)
theorem lk_Mod_168 : Cond.methodLink "VanRoundsModel" 168 M_Mod_placeOf.1 ∈ lw_tbl := mem_at 1015 (by decide +kernel)
theorem lk_Law_55 : Cond.methodLink "VanRoundsLaw" 55 M_Mod_round.1 ∈ lw_tbl := mem_at 1019 (by decide +kernel)
theorem lk_Law_59 : Cond.methodLink "VanRoundsLaw" 59 M_Mod_when.1 ∈ lw_tbl := mem_at 1023 (by decide +kernel)
theorem kc_Mod_207 : Cond.constantLong "VanRoundsModel" 207 (Int64.ofInt (3)) ∈ lw_tbl := mem_at 1027 (by decide +kernel)
theorem lk_Law_64 : Cond.methodLink "VanRoundsLaw" 64 M_Mod_cost.1 ∈ lw_tbl := mem_at 1028 (by decide +kernel)
theorem lk_Mod_209 : Cond.methodLink "VanRoundsModel" 209 M_Mod_costAll.1 ∈ lw_tbl := mem_at 1032 (by decide +kernel)
theorem lk_Mod_204 : Cond.methodLink "VanRoundsModel" 204 M_Mod_costOf.1 ∈ lw_tbl := mem_at 1036 (by decide +kernel)
theorem lk_Law_68 : Cond.methodLink "VanRoundsLaw" 68 M_Mod_why.1 ∈ lw_tbl := mem_at 1040 (by decide +kernel)
theorem lk_Mod_224 : Cond.methodLink "VanRoundsModel" 224 M_Mod_puts.1 ∈ lw_tbl := mem_at 1044 (by decide +kernel)
theorem lk_Mod_228 : Cond.methodLink "VanRoundsModel" 228 M_Mod_takesOut.1 ∈ lw_tbl := mem_at 1048 (by decide +kernel)
theorem lk_Law_73 : Cond.methodLink "VanRoundsLaw" 73 M_Mod_where.1 ∈ lw_tbl := mem_at 1052 (by decide +kernel)
theorem lk_Law_77 : Cond.methodLink "VanRoundsLaw" 77 M_Mod_put.1 ∈ lw_tbl := mem_at 1056 (by decide +kernel)
theorem lk_Mod_231 : Cond.methodLink "VanRoundsModel" 231 M_Mod_keeps.1 ∈ lw_tbl := mem_at 1060 (by decide +kernel)
theorem lk_Mod_234 : Cond.methodLink "VanRoundsModel" 234 M_Mod_settles.1 ∈ lw_tbl := mem_at 1064 (by decide +kernel)
theorem lk_Mod_217 : Cond.methodLink "VanRoundsModel" 217 M_Mod_takes.1 ∈ lw_tbl := mem_at 1068 (by decide +kernel)
theorem lk_Mod_221 : Cond.methodLink "VanRoundsModel" 221 M_Mod_notes.1 ∈ lw_tbl := mem_at 1072 (by decide +kernel)
theorem lk_Mod_213 : Cond.methodLink "VanRoundsModel" 213 M_Mod_isAs.1 ∈ lw_tbl := mem_at 1076 (by decide +kernel)
theorem lk_Law_81 : Cond.methodLink "VanRoundsLaw" 81 M_Mod_pair.1 ∈ lw_tbl := mem_at 1080 (by decide +kernel)
theorem lk_Law_85 : Cond.methodLink "VanRoundsLaw" 85 M_Mod_take.1 ∈ lw_tbl := mem_at 1084 (by decide +kernel)
theorem lk_Law_89 : Cond.methodLink "VanRoundsLaw" 89 M_Mod_move.1 ∈ lw_tbl := mem_at 1088 (by decide +kernel)
theorem lk_Law_93 : Cond.methodLink "VanRoundsLaw" 93 M_Mod_cross.1 ∈ lw_tbl := mem_at 1092 (by decide +kernel)
theorem lk_Law_97 : Cond.methodLink "VanRoundsLaw" 97 M_Mod_turn.1 ∈ lw_tbl := mem_at 1096 (by decide +kernel)
theorem lk_Law_101 : Cond.methodLink "VanRoundsLaw" 101 M_Mod_build.1 ∈ lw_tbl := mem_at 1100 (by decide +kernel)
theorem lk_Mod_256 : Cond.methodLink "VanRoundsModel" 256 M_Mod_triesAll.1 ∈ lw_tbl := mem_at 1104 (by decide +kernel)
theorem lk_Mod_252 : Cond.methodLink "VanRoundsModel" 252 M_Mod_looksAt.1 ∈ lw_tbl := mem_at 1108 (by decide +kernel)
theorem lk_Law_105 : Cond.methodLink "VanRoundsLaw" 105 M_Mod_better.1 ∈ lw_tbl := mem_at 1112 (by decide +kernel)
theorem lk_Mod_259 : Cond.methodLink "VanRoundsModel" 259 M_Mod_isBettered.1 ∈ lw_tbl := mem_at 1116 (by decide +kernel)
theorem lk_Law_109 : Cond.methodLink "VanRoundsLaw" 109 M_Mod_least.1 ∈ lw_tbl := mem_at 1120 (by decide +kernel)
theorem lk_Mod_278 : Cond.methodLink "VanRoundsModel" 278 M_Mod_weighs.1 ∈ lw_tbl := mem_at 1124 (by decide +kernel)
theorem lk_Mod_275 : Cond.methodLink "VanRoundsModel" 275 M_Mod_isLess.1 ∈ lw_tbl := mem_at 1128 (by decide +kernel)
theorem lk_Mod_281 : Cond.methodLink "VanRoundsModel" 281 M_Mod_power.1 ∈ lw_tbl := mem_at 1132 (by decide +kernel)
theorem lk_Mod_285 : Cond.methodLink "VanRoundsModel" 285 M_Mod_lays.1 ∈ lw_tbl := mem_at 1135 (by decide +kernel)
theorem lk_Law_113 : Cond.methodLink "VanRoundsLaw" 113 M_Mod_undo.1 ∈ lw_tbl := mem_at 1139 (by decide +kernel)
theorem lk_Law_117 : Cond.methodLink "VanRoundsLaw" 117 M_Mod_clear.1 ∈ lw_tbl := mem_at 1143 (by decide +kernel)
theorem lk_Mod_289 : Cond.methodLink "VanRoundsModel" 289 M_Mod_inRounds.1 ∈ lw_tbl := mem_at 1147 (by decide +kernel)
theorem lk_Law_121 : Cond.methodLink "VanRoundsLaw" 121 M_Mod_count.1 ∈ lw_tbl := mem_at 1151 (by decide +kernel)
theorem lk_Mod_292 : Cond.methodLink "VanRoundsModel" 292 M_Mod_minutes.1 ∈ lw_tbl := mem_at 1155 (by decide +kernel)
theorem lk_Law_125 : Cond.methodLink "VanRoundsLaw" 125 M_Mod_lay.1 ∈ lw_tbl := mem_at 1159 (by decide +kernel)
theorem lk_Law_129 : Cond.methodLink "VanRoundsLaw" 129 M_Mod_tear.1 ∈ lw_tbl := mem_at 1163 (by decide +kernel)
theorem lk_Law_133 : Cond.methodLink "VanRoundsLaw" 133 M_Mod_row.1 ∈ lw_tbl := mem_at 1167 (by decide +kernel)
theorem lk_Law_137 : Cond.methodLink "VanRoundsLaw" 137 M_Mod_copy.1 ∈ lw_tbl := mem_at 1171 (by decide +kernel)
theorem lk_Law_141 : Cond.methodLink "VanRoundsLaw" 141 M_Mod_status.1 ∈ lw_tbl := mem_at 1175 (by decide +kernel)
theorem kc_Mod_296 : Cond.constantLong "VanRoundsModel" 296 (Int64.ofInt (-8)) ∈ lw_tbl := mem_at 1179 (by decide +kernel)
theorem kc_Mod_298 : Cond.constantLong "VanRoundsModel" 298 (Int64.ofInt (-2)) ∈ lw_tbl := mem_at 1180 (by decide +kernel)
theorem jm_min : Cond.code Lib.Math.min.name Lib.Math.min.code 2 (some .int) ∈ lw_tbl := mem_at 407 (by decide +kernel)
theorem js_min : Cond.static Lib.Math.min.name ∈ lw_tbl := mem_at 406 (by decide +kernel)
theorem jm_max : Cond.code Lib.Math.max.name Lib.Math.max.code 2 (some .int) ∈ lw_tbl := mem_at 446 (by decide +kernel)
theorem js_max : Cond.static Lib.Math.max.name ∈ lw_tbl := mem_at 445 (by decide +kernel)
theorem ji_math : Cond.initialized "java/lang/Math" ∈ lw_tbl := mem_at 62 (by decide +kernel)
theorem ji_sys : Cond.initialized "java/lang/System" ∈ lw_tbl := mem_at 61 (by decide +kernel)
theorem jn_copy : Cond.native arraycopyName ∈ lw_tbl := mem_at 391 (by decide +kernel)
theorem js_copy : Cond.static arraycopyName ∈ lw_tbl := mem_at 390 (by decide +kernel)
theorem jo_im : Cond.instanceMethod objectInit ∈ lw_tbl := mem_at 69 (by decide +kernel)
theorem jo_cd : Cond.code objectInit ⟨#[0xb1]⟩ 1 none ∈ lw_tbl := mem_at 70 (by decide +kernel)
theorem ja_int : Cond.arrayClass .int ∈ lw_tbl := mem_at 108 (by decide +kernel)
theorem ja_bool : Cond.arrayClass .boolean ∈ lw_tbl := mem_at 902 (by decide +kernel)
theorem jv_arr : Cond.arrayOver (.array .int) ∈ lw_tbl := mem_at 252 (by decide +kernel)
theorem jv_plan : Cond.arrayOver (.object "VanRounds$Plan") ∈ lw_tbl := mem_at 316 (by decide +kernel)
end
section
/-- a field link of a class: its object's class by its place among 'classes', the field by its place, whether final, its type -/
def FLk (own : String) (idx ci k : Nat) (fin : Bool) (fty : FieldType) : Prop := ∃ (C : String) (T : u_T) (N : Nat) (ty : Nat → FieldType), classes[ci]? = some (C, T, N) ∧ k < N ∧ (∀ w ∈ u_ws C T N, w ∈ lw_tbl) ∧ (∀ j, j < N → parseFieldDescriptor (T j).2.2.1 = some (ty j)) ∧ (∀ a, a < N → ∀ b, b < N → a ≠ b → (T a).2.1 ≠ (T b).2.1) ∧ (T k).1 = C ∧ (T k).2.2.2 = fin ∧ ty k = fty ∧ (Cond.fieldLink own idx C (T k).2.1 (T k).2.2.1 ∈ lw_tbl ∨ ∃ host, Cond.fieldLinkNest own idx C (T k).2.1 (T k).2.2.1 host ∈ lw_tbl)
theorem fk_Town_9 : FLk "VanRounds$Town" 9 4 0 true (.array .int) := ⟨R_Town, F_Town, 6, t_Town, rfl, by decide, i_Town, t_Town_ok, n_Town, rfl, rfl, rfl, Or.inl fm_Town_9⟩
theorem fk_Town_15 : FLk "VanRounds$Town" 15 4 1 true (.array .int) := ⟨R_Town, F_Town, 6, t_Town, rfl, by decide, i_Town, t_Town_ok, n_Town, rfl, rfl, rfl, Or.inl fm_Town_15⟩
theorem fk_Town_18 : FLk "VanRounds$Town" 18 4 2 true (.array .int) := ⟨R_Town, F_Town, 6, t_Town, rfl, by decide, i_Town, t_Town_ok, n_Town, rfl, rfl, rfl, Or.inl fm_Town_18⟩
theorem fk_Town_21 : FLk "VanRounds$Town" 21 4 3 true (.array .int) := ⟨R_Town, F_Town, 6, t_Town, rfl, by decide, i_Town, t_Town_ok, n_Town, rfl, rfl, rfl, Or.inl fm_Town_21⟩
theorem fk_Town_24 : FLk "VanRounds$Town" 24 4 4 true (.array .int) := ⟨R_Town, F_Town, 6, t_Town, rfl, by decide, i_Town, t_Town_ok, n_Town, rfl, rfl, rfl, Or.inl fm_Town_24⟩
theorem fk_Town_27 : FLk "VanRounds$Town" 27 4 5 false (.int) := ⟨R_Town, F_Town, 6, t_Town, rfl, by decide, i_Town, t_Town_ok, n_Town, rfl, rfl, rfl, Or.inl fm_Town_27⟩
theorem fk_Stops_36 : FLk "VanRounds$Stops" 36 3 0 false (.int) := ⟨R_Stops, F_Stops, 9, t_Stops, rfl, by decide, i_Stops, t_Stops_ok, n_Stops, rfl, rfl, rfl, Or.inl fm_Stops_36⟩
theorem fk_Planner_42 : FLk "VanRounds$Planner" 42 3 0 false (.int) := ⟨R_Stops, F_Stops, 9, t_Stops, rfl, by decide, i_Stops, t_Stops_ok, n_Stops, rfl, rfl, rfl, Or.inr ⟨"VanRounds", fm_Planner_42⟩⟩
theorem fk_Van_134 : FLk "VanRounds" 134 3 0 false (.int) := ⟨R_Stops, F_Stops, 9, t_Stops, rfl, by decide, i_Stops, t_Stops_ok, n_Stops, rfl, rfl, rfl, Or.inr ⟨"VanRounds", fm_Van_134⟩⟩
theorem fk_Stops_9 : FLk "VanRounds$Stops" 9 3 1 true (.array .int) := ⟨R_Stops, F_Stops, 9, t_Stops, rfl, by decide, i_Stops, t_Stops_ok, n_Stops, rfl, rfl, rfl, Or.inl fm_Stops_9⟩
theorem fk_Planner_47 : FLk "VanRounds$Planner" 47 3 1 true (.array .int) := ⟨R_Stops, F_Stops, 9, t_Stops, rfl, by decide, i_Stops, t_Stops_ok, n_Stops, rfl, rfl, rfl, Or.inr ⟨"VanRounds", fm_Planner_47⟩⟩
theorem fk_Trip_97 : FLk "VanRounds$Trip" 97 3 1 true (.array .int) := ⟨R_Stops, F_Stops, 9, t_Stops, rfl, by decide, i_Stops, t_Stops_ok, n_Stops, rfl, rfl, rfl, Or.inr ⟨"VanRounds", fm_Trip_97⟩⟩
theorem fk_Van_119 : FLk "VanRounds" 119 3 1 true (.array .int) := ⟨R_Stops, F_Stops, 9, t_Stops, rfl, by decide, i_Stops, t_Stops_ok, n_Stops, rfl, rfl, rfl, Or.inr ⟨"VanRounds", fm_Van_119⟩⟩
theorem fk_Stops_15 : FLk "VanRounds$Stops" 15 3 2 true (.array .int) := ⟨R_Stops, F_Stops, 9, t_Stops, rfl, by decide, i_Stops, t_Stops_ok, n_Stops, rfl, rfl, rfl, Or.inl fm_Stops_15⟩
theorem fk_Trip_117 : FLk "VanRounds$Trip" 117 3 2 true (.array .int) := ⟨R_Stops, F_Stops, 9, t_Stops, rfl, by decide, i_Stops, t_Stops_ok, n_Stops, rfl, rfl, rfl, Or.inr ⟨"VanRounds", fm_Trip_117⟩⟩
theorem fk_Van_166 : FLk "VanRounds" 166 3 2 true (.array .int) := ⟨R_Stops, F_Stops, 9, t_Stops, rfl, by decide, i_Stops, t_Stops_ok, n_Stops, rfl, rfl, rfl, Or.inr ⟨"VanRounds", fm_Van_166⟩⟩
theorem fk_Stops_18 : FLk "VanRounds$Stops" 18 3 3 true (.array .int) := ⟨R_Stops, F_Stops, 9, t_Stops, rfl, by decide, i_Stops, t_Stops_ok, n_Stops, rfl, rfl, rfl, Or.inl fm_Stops_18⟩
theorem fk_Van_145 : FLk "VanRounds" 145 3 3 true (.array .int) := ⟨R_Stops, F_Stops, 9, t_Stops, rfl, by decide, i_Stops, t_Stops_ok, n_Stops, rfl, rfl, rfl, Or.inr ⟨"VanRounds", fm_Van_145⟩⟩
theorem fk_Trip_124 : FLk "VanRounds$Trip" 124 3 3 true (.array .int) := ⟨R_Stops, F_Stops, 9, t_Stops, rfl, by decide, i_Stops, t_Stops_ok, n_Stops, rfl, rfl, rfl, Or.inr ⟨"VanRounds", fm_Trip_124⟩⟩
theorem fk_Stops_21 : FLk "VanRounds$Stops" 21 3 4 true (.array .int) := ⟨R_Stops, F_Stops, 9, t_Stops, rfl, by decide, i_Stops, t_Stops_ok, n_Stops, rfl, rfl, rfl, Or.inl fm_Stops_21⟩
theorem fk_Van_148 : FLk "VanRounds" 148 3 4 true (.array .int) := ⟨R_Stops, F_Stops, 9, t_Stops, rfl, by decide, i_Stops, t_Stops_ok, n_Stops, rfl, rfl, rfl, Or.inr ⟨"VanRounds", fm_Van_148⟩⟩
theorem fk_Trip_134 : FLk "VanRounds$Trip" 134 3 4 true (.array .int) := ⟨R_Stops, F_Stops, 9, t_Stops, rfl, by decide, i_Stops, t_Stops_ok, n_Stops, rfl, rfl, rfl, Or.inr ⟨"VanRounds", fm_Trip_134⟩⟩
theorem fk_Stops_24 : FLk "VanRounds$Stops" 24 3 5 true (.array .int) := ⟨R_Stops, F_Stops, 9, t_Stops, rfl, by decide, i_Stops, t_Stops_ok, n_Stops, rfl, rfl, rfl, Or.inl fm_Stops_24⟩
theorem fk_Trip_131 : FLk "VanRounds$Trip" 131 3 5 true (.array .int) := ⟨R_Stops, F_Stops, 9, t_Stops, rfl, by decide, i_Stops, t_Stops_ok, n_Stops, rfl, rfl, rfl, Or.inr ⟨"VanRounds", fm_Trip_131⟩⟩
theorem fk_Van_172 : FLk "VanRounds" 172 3 5 true (.array .int) := ⟨R_Stops, F_Stops, 9, t_Stops, rfl, by decide, i_Stops, t_Stops_ok, n_Stops, rfl, rfl, rfl, Or.inr ⟨"VanRounds", fm_Van_172⟩⟩
theorem fk_Stops_27 : FLk "VanRounds$Stops" 27 3 6 true (.array .int) := ⟨R_Stops, F_Stops, 9, t_Stops, rfl, by decide, i_Stops, t_Stops_ok, n_Stops, rfl, rfl, rfl, Or.inl fm_Stops_27⟩
theorem fk_Trip_107 : FLk "VanRounds$Trip" 107 3 6 true (.array .int) := ⟨R_Stops, F_Stops, 9, t_Stops, rfl, by decide, i_Stops, t_Stops_ok, n_Stops, rfl, rfl, rfl, Or.inr ⟨"VanRounds", fm_Trip_107⟩⟩
theorem fk_Stops_30 : FLk "VanRounds$Stops" 30 3 7 true (.array .int) := ⟨R_Stops, F_Stops, 9, t_Stops, rfl, by decide, i_Stops, t_Stops_ok, n_Stops, rfl, rfl, rfl, Or.inl fm_Stops_30⟩
theorem fk_Planner_76 : FLk "VanRounds$Planner" 76 3 7 true (.array .int) := ⟨R_Stops, F_Stops, 9, t_Stops, rfl, by decide, i_Stops, t_Stops_ok, n_Stops, rfl, rfl, rfl, Or.inr ⟨"VanRounds", fm_Planner_76⟩⟩
theorem fk_Trip_100 : FLk "VanRounds$Trip" 100 3 7 true (.array .int) := ⟨R_Stops, F_Stops, 9, t_Stops, rfl, by decide, i_Stops, t_Stops_ok, n_Stops, rfl, rfl, rfl, Or.inr ⟨"VanRounds", fm_Trip_100⟩⟩
theorem fk_Van_122 : FLk "VanRounds" 122 3 7 true (.array .int) := ⟨R_Stops, F_Stops, 9, t_Stops, rfl, by decide, i_Stops, t_Stops_ok, n_Stops, rfl, rfl, rfl, Or.inr ⟨"VanRounds", fm_Van_122⟩⟩
theorem fk_Stops_33 : FLk "VanRounds$Stops" 33 3 8 true (.array .int) := ⟨R_Stops, F_Stops, 9, t_Stops, rfl, by decide, i_Stops, t_Stops_ok, n_Stops, rfl, rfl, rfl, Or.inl fm_Stops_33⟩
theorem fk_Van_151 : FLk "VanRounds" 151 3 8 true (.array .int) := ⟨R_Stops, F_Stops, 9, t_Stops, rfl, by decide, i_Stops, t_Stops_ok, n_Stops, rfl, rfl, rfl, Or.inr ⟨"VanRounds", fm_Van_151⟩⟩
theorem fk_Trip_137 : FLk "VanRounds$Trip" 137 3 8 true (.array .int) := ⟨R_Stops, F_Stops, 9, t_Stops, rfl, by decide, i_Stops, t_Stops_ok, n_Stops, rfl, rfl, rfl, Or.inr ⟨"VanRounds", fm_Trip_137⟩⟩
theorem fk_Vans_24 : FLk "VanRounds$Vans" 24 6 0 false (.int) := ⟨R_Vans, F_Vans, 5, t_Vans, rfl, by decide, i_Vans, t_Vans_ok, n_Vans, rfl, rfl, rfl, Or.inl fm_Vans_24⟩
theorem fk_Planner_55 : FLk "VanRounds$Planner" 55 6 0 false (.int) := ⟨R_Vans, F_Vans, 5, t_Vans, rfl, by decide, i_Vans, t_Vans_ok, n_Vans, rfl, rfl, rfl, Or.inr ⟨"VanRounds", fm_Planner_55⟩⟩
theorem fk_Trip_90 : FLk "VanRounds$Trip" 90 6 0 false (.int) := ⟨R_Vans, F_Vans, 5, t_Vans, rfl, by decide, i_Vans, t_Vans_ok, n_Vans, rfl, rfl, rfl, Or.inr ⟨"VanRounds", fm_Trip_90⟩⟩
theorem fk_Van_154 : FLk "VanRounds" 154 6 0 false (.int) := ⟨R_Vans, F_Vans, 5, t_Vans, rfl, by decide, i_Vans, t_Vans_ok, n_Vans, rfl, rfl, rfl, Or.inr ⟨"VanRounds", fm_Van_154⟩⟩
theorem fk_Vans_9 : FLk "VanRounds$Vans" 9 6 1 true (.array .int) := ⟨R_Vans, F_Vans, 5, t_Vans, rfl, by decide, i_Vans, t_Vans_ok, n_Vans, rfl, rfl, rfl, Or.inl fm_Vans_9⟩
theorem fk_Trip_110 : FLk "VanRounds$Trip" 110 6 1 true (.array .int) := ⟨R_Vans, F_Vans, 5, t_Vans, rfl, by decide, i_Vans, t_Vans_ok, n_Vans, rfl, rfl, rfl, Or.inr ⟨"VanRounds", fm_Trip_110⟩⟩
theorem fk_Vans_15 : FLk "VanRounds$Vans" 15 6 2 true (.array .int) := ⟨R_Vans, F_Vans, 5, t_Vans, rfl, by decide, i_Vans, t_Vans_ok, n_Vans, rfl, rfl, rfl, Or.inl fm_Vans_15⟩
theorem fk_Trip_84 : FLk "VanRounds$Trip" 84 6 2 true (.array .int) := ⟨R_Vans, F_Vans, 5, t_Vans, rfl, by decide, i_Vans, t_Vans_ok, n_Vans, rfl, rfl, rfl, Or.inr ⟨"VanRounds", fm_Trip_84⟩⟩
theorem fk_Van_164 : FLk "VanRounds" 164 6 2 true (.array .int) := ⟨R_Vans, F_Vans, 5, t_Vans, rfl, by decide, i_Vans, t_Vans_ok, n_Vans, rfl, rfl, rfl, Or.inr ⟨"VanRounds", fm_Van_164⟩⟩
theorem fk_Vans_18 : FLk "VanRounds$Vans" 18 6 3 true (.array .int) := ⟨R_Vans, F_Vans, 5, t_Vans, rfl, by decide, i_Vans, t_Vans_ok, n_Vans, rfl, rfl, rfl, Or.inl fm_Vans_18⟩
theorem fk_Trip_140 : FLk "VanRounds$Trip" 140 6 3 true (.array .int) := ⟨R_Vans, F_Vans, 5, t_Vans, rfl, by decide, i_Vans, t_Vans_ok, n_Vans, rfl, rfl, rfl, Or.inr ⟨"VanRounds", fm_Trip_140⟩⟩
theorem fk_Van_165 : FLk "VanRounds" 165 6 3 true (.array .int) := ⟨R_Vans, F_Vans, 5, t_Vans, rfl, by decide, i_Vans, t_Vans_ok, n_Vans, rfl, rfl, rfl, Or.inr ⟨"VanRounds", fm_Van_165⟩⟩
theorem fk_Vans_21 : FLk "VanRounds$Vans" 21 6 4 true (.array .int) := ⟨R_Vans, F_Vans, 5, t_Vans, rfl, by decide, i_Vans, t_Vans_ok, n_Vans, rfl, rfl, rfl, Or.inl fm_Vans_21⟩
theorem fk_Trip_87 : FLk "VanRounds$Trip" 87 6 4 true (.array .int) := ⟨R_Vans, F_Vans, 5, t_Vans, rfl, by decide, i_Vans, t_Vans_ok, n_Vans, rfl, rfl, rfl, Or.inr ⟨"VanRounds", fm_Trip_87⟩⟩
theorem fk_Trip_12 : FLk "VanRounds$Trip" 12 5 0 true (.object "VanRounds$Town") := ⟨R_Trip, F_Trip, 12, t_Trip, rfl, by decide, i_Trip, t_Trip_ok, n_Trip, rfl, rfl, rfl, Or.inl fm_Trip_12⟩
theorem fk_Van_26 : FLk "VanRounds" 26 5 0 true (.object "VanRounds$Town") := ⟨R_Trip, F_Trip, 12, t_Trip, rfl, by decide, i_Trip, t_Trip_ok, n_Trip, rfl, rfl, rfl, Or.inr ⟨"VanRounds", fm_Van_26⟩⟩
theorem fk_Planner_18 : FLk "VanRounds$Planner" 18 5 1 true (.object "VanRounds$Stops") := ⟨R_Trip, F_Trip, 12, t_Trip, rfl, by decide, i_Trip, t_Trip_ok, n_Trip, rfl, rfl, rfl, Or.inr ⟨"VanRounds", fm_Planner_18⟩⟩
theorem fk_Trip_21 : FLk "VanRounds$Trip" 21 5 1 true (.object "VanRounds$Stops") := ⟨R_Trip, F_Trip, 12, t_Trip, rfl, by decide, i_Trip, t_Trip_ok, n_Trip, rfl, rfl, rfl, Or.inl fm_Trip_21⟩
theorem fk_Van_33 : FLk "VanRounds" 33 5 1 true (.object "VanRounds$Stops") := ⟨R_Trip, F_Trip, 12, t_Trip, rfl, by decide, i_Trip, t_Trip_ok, n_Trip, rfl, rfl, rfl, Or.inr ⟨"VanRounds", fm_Van_33⟩⟩
theorem fk_Planner_23 : FLk "VanRounds$Planner" 23 5 2 true (.object "VanRounds$Vans") := ⟨R_Trip, F_Trip, 12, t_Trip, rfl, by decide, i_Trip, t_Trip_ok, n_Trip, rfl, rfl, rfl, Or.inr ⟨"VanRounds", fm_Planner_23⟩⟩
theorem fk_Trip_28 : FLk "VanRounds$Trip" 28 5 2 true (.object "VanRounds$Vans") := ⟨R_Trip, F_Trip, 12, t_Trip, rfl, by decide, i_Trip, t_Trip_ok, n_Trip, rfl, rfl, rfl, Or.inl fm_Trip_28⟩
theorem fk_Van_38 : FLk "VanRounds" 38 5 2 true (.object "VanRounds$Vans") := ⟨R_Trip, F_Trip, 12, t_Trip, rfl, by decide, i_Trip, t_Trip_ok, n_Trip, rfl, rfl, rfl, Or.inr ⟨"VanRounds", fm_Van_38⟩⟩
theorem fk_Trip_32 : FLk "VanRounds$Trip" 32 5 3 true (.array .int) := ⟨R_Trip, F_Trip, 12, t_Trip, rfl, by decide, i_Trip, t_Trip_ok, n_Trip, rfl, rfl, rfl, Or.inl fm_Trip_32⟩
theorem fk_Van_192 : FLk "VanRounds" 192 5 3 true (.array .int) := ⟨R_Trip, F_Trip, 12, t_Trip, rfl, by decide, i_Trip, t_Trip_ok, n_Trip, rfl, rfl, rfl, Or.inr ⟨"VanRounds", fm_Van_192⟩⟩
theorem fk_Trip_36 : FLk "VanRounds$Trip" 36 5 4 true (.array .int) := ⟨R_Trip, F_Trip, 12, t_Trip, rfl, by decide, i_Trip, t_Trip_ok, n_Trip, rfl, rfl, rfl, Or.inl fm_Trip_36⟩
theorem fk_Van_195 : FLk "VanRounds" 195 5 4 true (.array .int) := ⟨R_Trip, F_Trip, 12, t_Trip, rfl, by decide, i_Trip, t_Trip_ok, n_Trip, rfl, rfl, rfl, Or.inr ⟨"VanRounds", fm_Van_195⟩⟩
theorem fk_Trip_39 : FLk "VanRounds$Trip" 39 5 5 true (.array .int) := ⟨R_Trip, F_Trip, 12, t_Trip, rfl, by decide, i_Trip, t_Trip_ok, n_Trip, rfl, rfl, rfl, Or.inl fm_Trip_39⟩
theorem fk_Van_198 : FLk "VanRounds" 198 5 5 true (.array .int) := ⟨R_Trip, F_Trip, 12, t_Trip, rfl, by decide, i_Trip, t_Trip_ok, n_Trip, rfl, rfl, rfl, Or.inr ⟨"VanRounds", fm_Van_198⟩⟩
theorem fk_Trip_42 : FLk "VanRounds$Trip" 42 5 6 true (.array .int) := ⟨R_Trip, F_Trip, 12, t_Trip, rfl, by decide, i_Trip, t_Trip_ok, n_Trip, rfl, rfl, rfl, Or.inl fm_Trip_42⟩
theorem fk_Van_201 : FLk "VanRounds" 201 5 6 true (.array .int) := ⟨R_Trip, F_Trip, 12, t_Trip, rfl, by decide, i_Trip, t_Trip_ok, n_Trip, rfl, rfl, rfl, Or.inr ⟨"VanRounds", fm_Van_201⟩⟩
theorem fk_Trip_81 : FLk "VanRounds$Trip" 81 5 7 false (.int) := ⟨R_Trip, F_Trip, 12, t_Trip, rfl, by decide, i_Trip, t_Trip_ok, n_Trip, rfl, rfl, rfl, Or.inl fm_Trip_81⟩
theorem fk_Van_189 : FLk "VanRounds" 189 5 7 false (.int) := ⟨R_Trip, F_Trip, 12, t_Trip, rfl, by decide, i_Trip, t_Trip_ok, n_Trip, rfl, rfl, rfl, Or.inr ⟨"VanRounds", fm_Van_189⟩⟩
theorem fk_Trip_54 : FLk "VanRounds$Trip" 54 5 8 false (.int) := ⟨R_Trip, F_Trip, 12, t_Trip, rfl, by decide, i_Trip, t_Trip_ok, n_Trip, rfl, rfl, rfl, Or.inl fm_Trip_54⟩
theorem fk_Van_217 : FLk "VanRounds" 217 5 8 false (.int) := ⟨R_Trip, F_Trip, 12, t_Trip, rfl, by decide, i_Trip, t_Trip_ok, n_Trip, rfl, rfl, rfl, Or.inr ⟨"VanRounds", fm_Van_217⟩⟩
theorem fk_Trip_58 : FLk "VanRounds$Trip" 58 5 9 false (.int) := ⟨R_Trip, F_Trip, 12, t_Trip, rfl, by decide, i_Trip, t_Trip_ok, n_Trip, rfl, rfl, rfl, Or.inl fm_Trip_58⟩
theorem fk_Planner_86 : FLk "VanRounds$Planner" 86 5 9 false (.int) := ⟨R_Trip, F_Trip, 12, t_Trip, rfl, by decide, i_Trip, t_Trip_ok, n_Trip, rfl, rfl, rfl, Or.inr ⟨"VanRounds", fm_Planner_86⟩⟩
theorem fk_Van_204 : FLk "VanRounds" 204 5 9 false (.int) := ⟨R_Trip, F_Trip, 12, t_Trip, rfl, by decide, i_Trip, t_Trip_ok, n_Trip, rfl, rfl, rfl, Or.inr ⟨"VanRounds", fm_Van_204⟩⟩
theorem fk_Trip_61 : FLk "VanRounds$Trip" 61 5 10 false (.int) := ⟨R_Trip, F_Trip, 12, t_Trip, rfl, by decide, i_Trip, t_Trip_ok, n_Trip, rfl, rfl, rfl, Or.inl fm_Trip_61⟩
theorem fk_Van_291 : FLk "VanRounds" 291 5 10 false (.int) := ⟨R_Trip, F_Trip, 12, t_Trip, rfl, by decide, i_Trip, t_Trip_ok, n_Trip, rfl, rfl, rfl, Or.inr ⟨"VanRounds", fm_Van_291⟩⟩
theorem fk_Trip_64 : FLk "VanRounds$Trip" 64 5 11 false (.int) := ⟨R_Trip, F_Trip, 12, t_Trip, rfl, by decide, i_Trip, t_Trip_ok, n_Trip, rfl, rfl, rfl, Or.inl fm_Trip_64⟩
theorem fk_Van_294 : FLk "VanRounds" 294 5 11 false (.int) := ⟨R_Trip, F_Trip, 12, t_Trip, rfl, by decide, i_Trip, t_Trip_ok, n_Trip, rfl, rfl, rfl, Or.inr ⟨"VanRounds", fm_Van_294⟩⟩
theorem fk_Plan_11 : FLk "VanRounds$Plan" 11 1 0 true (.array (.array .int)) := ⟨R_Plan, F_Plan, 2, t_Plan, rfl, by decide, i_Plan, t_Plan_ok, n_Plan, rfl, rfl, rfl, Or.inl fm_Plan_11⟩
theorem fk_Trip_45 : FLk "VanRounds$Trip" 45 1 0 true (.array (.array .int)) := ⟨R_Plan, F_Plan, 2, t_Plan, rfl, by decide, i_Plan, t_Plan_ok, n_Plan, rfl, rfl, rfl, Or.inr ⟨"VanRounds", fm_Trip_45⟩⟩
theorem fk_Van_181 : FLk "VanRounds" 181 1 0 true (.array (.array .int)) := ⟨R_Plan, F_Plan, 2, t_Plan, rfl, by decide, i_Plan, t_Plan_ok, n_Plan, rfl, rfl, rfl, Or.inr ⟨"VanRounds", fm_Van_181⟩⟩
theorem fk_Plan_16 : FLk "VanRounds$Plan" 16 1 1 true (.array .int) := ⟨R_Plan, F_Plan, 2, t_Plan, rfl, by decide, i_Plan, t_Plan_ok, n_Plan, rfl, rfl, rfl, Or.inl fm_Plan_16⟩
theorem fk_Trip_51 : FLk "VanRounds$Trip" 51 1 1 true (.array .int) := ⟨R_Plan, F_Plan, 2, t_Plan, rfl, by decide, i_Plan, t_Plan_ok, n_Plan, rfl, rfl, rfl, Or.inr ⟨"VanRounds", fm_Trip_51⟩⟩
theorem fk_Planner_89 : FLk "VanRounds$Planner" 89 1 1 true (.array .int) := ⟨R_Plan, F_Plan, 2, t_Plan, rfl, by decide, i_Plan, t_Plan_ok, n_Plan, rfl, rfl, rfl, Or.inr ⟨"VanRounds", fm_Planner_89⟩⟩
theorem fk_Van_178 : FLk "VanRounds" 178 1 1 true (.array .int) := ⟨R_Plan, F_Plan, 2, t_Plan, rfl, by decide, i_Plan, t_Plan_ok, n_Plan, rfl, rfl, rfl, Or.inr ⟨"VanRounds", fm_Van_178⟩⟩
theorem fk_Planner_12 : FLk "VanRounds$Planner" 12 2 0 true (.object "VanRounds$Trip") := ⟨R_Planner, F_Planner, 13, t_Planner, rfl, by decide, i_Planner, t_Planner_ok, n_Planner, rfl, rfl, rfl, Or.inl fm_Planner_12⟩
theorem fk_Van_21 : FLk "VanRounds" 21 2 0 true (.object "VanRounds$Trip") := ⟨R_Planner, F_Planner, 13, t_Planner, rfl, by decide, i_Planner, t_Planner_ok, n_Planner, rfl, rfl, rfl, Or.inr ⟨"VanRounds", fm_Van_21⟩⟩
theorem fk_Planner_22 : FLk "VanRounds$Planner" 22 2 1 true (.object "VanRounds$Stops") := ⟨R_Planner, F_Planner, 13, t_Planner, rfl, by decide, i_Planner, t_Planner_ok, n_Planner, rfl, rfl, rfl, Or.inl fm_Planner_22⟩
theorem fk_Planner_27 : FLk "VanRounds$Planner" 27 2 2 true (.object "VanRounds$Vans") := ⟨R_Planner, F_Planner, 13, t_Planner, rfl, by decide, i_Planner, t_Planner_ok, n_Planner, rfl, rfl, rfl, Or.inl fm_Planner_27⟩
theorem fk_Van_16 : FLk "VanRounds" 16 2 3 true (.object "VanRounds$Plan") := ⟨R_Planner, F_Planner, 13, t_Planner, rfl, by decide, i_Planner, t_Planner_ok, n_Planner, rfl, rfl, rfl, Or.inr ⟨"VanRounds", fm_Van_16⟩⟩
theorem fk_Planner_31 : FLk "VanRounds$Planner" 31 2 3 true (.object "VanRounds$Plan") := ⟨R_Planner, F_Planner, 13, t_Planner, rfl, by decide, i_Planner, t_Planner_ok, n_Planner, rfl, rfl, rfl, Or.inl fm_Planner_31⟩
theorem fk_Planner_38 : FLk "VanRounds$Planner" 38 2 4 false (.int) := ⟨R_Planner, F_Planner, 13, t_Planner, rfl, by decide, i_Planner, t_Planner_ok, n_Planner, rfl, rfl, rfl, Or.inl fm_Planner_38⟩
theorem fk_Planner_66 : FLk "VanRounds$Planner" 66 2 5 false (.int) := ⟨R_Planner, F_Planner, 13, t_Planner, rfl, by decide, i_Planner, t_Planner_ok, n_Planner, rfl, rfl, rfl, Or.inl fm_Planner_66⟩
theorem fk_Planner_69 : FLk "VanRounds$Planner" 69 2 6 false (.int) := ⟨R_Planner, F_Planner, 13, t_Planner, rfl, by decide, i_Planner, t_Planner_ok, n_Planner, rfl, rfl, rfl, Or.inl fm_Planner_69⟩
theorem fk_Planner_79 : FLk "VanRounds$Planner" 79 2 7 false (.int) := ⟨R_Planner, F_Planner, 13, t_Planner, rfl, by decide, i_Planner, t_Planner_ok, n_Planner, rfl, rfl, rfl, Or.inl fm_Planner_79⟩
theorem fk_Planner_99 : FLk "VanRounds$Planner" 99 2 8 false (.int) := ⟨R_Planner, F_Planner, 13, t_Planner, rfl, by decide, i_Planner, t_Planner_ok, n_Planner, rfl, rfl, rfl, Or.inl fm_Planner_99⟩
theorem fk_Planner_35 : FLk "VanRounds$Planner" 35 2 9 true (.object "VanRounds$Plan") := ⟨R_Planner, F_Planner, 13, t_Planner, rfl, by decide, i_Planner, t_Planner_ok, n_Planner, rfl, rfl, rfl, Or.inl fm_Planner_35⟩
theorem fk_Planner_112 : FLk "VanRounds$Planner" 112 2 10 false (.int) := ⟨R_Planner, F_Planner, 13, t_Planner, rfl, by decide, i_Planner, t_Planner_ok, n_Planner, rfl, rfl, rfl, Or.inl fm_Planner_112⟩
theorem fk_Planner_134 : FLk "VanRounds$Planner" 134 2 11 false (.int) := ⟨R_Planner, F_Planner, 13, t_Planner, rfl, by decide, i_Planner, t_Planner_ok, n_Planner, rfl, rfl, rfl, Or.inl fm_Planner_134⟩
theorem fk_Planner_137 : FLk "VanRounds$Planner" 137 2 12 false (.int) := ⟨R_Planner, F_Planner, 13, t_Planner, rfl, by decide, i_Planner, t_Planner_ok, n_Planner, rfl, rfl, rfl, Or.inl fm_Planner_137⟩
theorem fk_Past_11 : FLk "VanRounds$Past" 11 0 0 true (.array (.object "VanRounds$Plan")) := ⟨R_Past, F_Past, 3, t_Past, rfl, by decide, i_Past, t_Past_ok, n_Past, rfl, rfl, rfl, Or.inl fm_Past_11⟩
theorem fk_Past_22 : FLk "VanRounds$Past" 22 0 1 false (.int) := ⟨R_Past, F_Past, 3, t_Past, rfl, by decide, i_Past, t_Past_ok, n_Past, rfl, rfl, rfl, Or.inl fm_Past_22⟩
theorem fk_Past_18 : FLk "VanRounds$Past" 18 0 2 false (.int) := ⟨R_Past, F_Past, 3, t_Past, rfl, by decide, i_Past, t_Past_ok, n_Past, rfl, rfl, rfl, Or.inl fm_Past_18⟩
theorem fk_Van_257 : FLk "VanRounds" 257 0 2 false (.int) := ⟨R_Past, F_Past, 3, t_Past, rfl, by decide, i_Past, t_Past_ok, n_Past, rfl, rfl, rfl, Or.inr ⟨"VanRounds", fm_Van_257⟩⟩
theorem fk_Van_12 : FLk "VanRounds" 12 7 0 true (.object "VanRounds$Planner") := ⟨R_Van, F_Van, 12, t_Van, rfl, by decide, i_Van, t_Van_ok, n_Van, rfl, rfl, rfl, Or.inl fm_Van_12⟩
theorem fk_Van_20 : FLk "VanRounds" 20 7 1 true (.object "VanRounds$Plan") := ⟨R_Van, F_Van, 12, t_Van, rfl, by decide, i_Van, t_Van_ok, n_Van, rfl, rfl, rfl, Or.inl fm_Van_20⟩
theorem fk_Van_25 : FLk "VanRounds" 25 7 2 true (.object "VanRounds$Trip") := ⟨R_Van, F_Van, 12, t_Van, rfl, by decide, i_Van, t_Van_ok, n_Van, rfl, rfl, rfl, Or.inl fm_Van_25⟩
theorem fk_Van_32 : FLk "VanRounds" 32 7 3 true (.object "VanRounds$Town") := ⟨R_Van, F_Van, 12, t_Van, rfl, by decide, i_Van, t_Van_ok, n_Van, rfl, rfl, rfl, Or.inl fm_Van_32⟩
theorem fk_Van_37 : FLk "VanRounds" 37 7 4 true (.object "VanRounds$Stops") := ⟨R_Van, F_Van, 12, t_Van, rfl, by decide, i_Van, t_Van_ok, n_Van, rfl, rfl, rfl, Or.inl fm_Van_37⟩
theorem fk_Van_42 : FLk "VanRounds" 42 7 5 true (.object "VanRounds$Vans") := ⟨R_Van, F_Van, 12, t_Van, rfl, by decide, i_Van, t_Van_ok, n_Van, rfl, rfl, rfl, Or.inl fm_Van_42⟩
theorem fk_Van_46 : FLk "VanRounds" 46 7 6 true (.object "VanRounds$Plan") := ⟨R_Van, F_Van, 12, t_Van, rfl, by decide, i_Van, t_Van_ok, n_Van, rfl, rfl, rfl, Or.inl fm_Van_46⟩
theorem fk_Van_52 : FLk "VanRounds" 52 7 7 true (.object "VanRounds$Past") := ⟨R_Van, F_Van, 12, t_Van, rfl, by decide, i_Van, t_Van_ok, n_Van, rfl, rfl, rfl, Or.inl fm_Van_52⟩
theorem fk_Van_56 : FLk "VanRounds" 56 7 8 true (.array .int) := ⟨R_Van, F_Van, 12, t_Van, rfl, by decide, i_Van, t_Van_ok, n_Van, rfl, rfl, rfl, Or.inl fm_Van_56⟩
theorem fk_Van_60 : FLk "VanRounds" 60 7 9 false (.int) := ⟨R_Van, F_Van, 12, t_Van, rfl, by decide, i_Van, t_Van_ok, n_Van, rfl, rfl, rfl, Or.inl fm_Van_60⟩
theorem fk_Van_64 : FLk "VanRounds" 64 7 10 false (.int) := ⟨R_Van, F_Van, 12, t_Van, rfl, by decide, i_Van, t_Van_ok, n_Van, rfl, rfl, rfl, Or.inl fm_Van_64⟩
theorem fk_Van_67 : FLk "VanRounds" 67 7 11 true (.array .int) := ⟨R_Van, F_Van, 12, t_Van, rfl, by decide, i_Van, t_Van_ok, n_Van, rfl, rfl, rfl, Or.inl fm_Van_67⟩
theorem fk_Mod_7 : FLk "VanRoundsModel" 7 8 0 true (.array .int) := ⟨R_Mod, F_Mod, 46, t_Mod, rfl, by decide, i_Mod, t_Mod_ok, n_Mod, rfl, rfl, rfl, Or.inl fm_Mod_7⟩
theorem fk_Mod_13 : FLk "VanRoundsModel" 13 8 1 true (.array .int) := ⟨R_Mod, F_Mod, 46, t_Mod, rfl, by decide, i_Mod, t_Mod_ok, n_Mod, rfl, rfl, rfl, Or.inl fm_Mod_13⟩
theorem fk_Mod_16 : FLk "VanRoundsModel" 16 8 2 true (.array .int) := ⟨R_Mod, F_Mod, 46, t_Mod, rfl, by decide, i_Mod, t_Mod_ok, n_Mod, rfl, rfl, rfl, Or.inl fm_Mod_16⟩
theorem fk_Mod_19 : FLk "VanRoundsModel" 19 8 3 true (.array .int) := ⟨R_Mod, F_Mod, 46, t_Mod, rfl, by decide, i_Mod, t_Mod_ok, n_Mod, rfl, rfl, rfl, Or.inl fm_Mod_19⟩
theorem fk_Mod_22 : FLk "VanRoundsModel" 22 8 4 true (.array .int) := ⟨R_Mod, F_Mod, 46, t_Mod, rfl, by decide, i_Mod, t_Mod_ok, n_Mod, rfl, rfl, rfl, Or.inl fm_Mod_22⟩
theorem fk_Mod_25 : FLk "VanRoundsModel" 25 8 5 true (.array .int) := ⟨R_Mod, F_Mod, 46, t_Mod, rfl, by decide, i_Mod, t_Mod_ok, n_Mod, rfl, rfl, rfl, Or.inl fm_Mod_25⟩
theorem fk_Mod_28 : FLk "VanRoundsModel" 28 8 6 true (.array .int) := ⟨R_Mod, F_Mod, 46, t_Mod, rfl, by decide, i_Mod, t_Mod_ok, n_Mod, rfl, rfl, rfl, Or.inl fm_Mod_28⟩
theorem fk_Mod_31 : FLk "VanRoundsModel" 31 8 7 true (.array .int) := ⟨R_Mod, F_Mod, 46, t_Mod, rfl, by decide, i_Mod, t_Mod_ok, n_Mod, rfl, rfl, rfl, Or.inl fm_Mod_31⟩
theorem fk_Mod_34 : FLk "VanRoundsModel" 34 8 8 true (.array .int) := ⟨R_Mod, F_Mod, 46, t_Mod, rfl, by decide, i_Mod, t_Mod_ok, n_Mod, rfl, rfl, rfl, Or.inl fm_Mod_34⟩
theorem fk_Mod_37 : FLk "VanRoundsModel" 37 8 9 true (.array .int) := ⟨R_Mod, F_Mod, 46, t_Mod, rfl, by decide, i_Mod, t_Mod_ok, n_Mod, rfl, rfl, rfl, Or.inl fm_Mod_37⟩
theorem fk_Mod_40 : FLk "VanRoundsModel" 40 8 10 true (.array .int) := ⟨R_Mod, F_Mod, 46, t_Mod, rfl, by decide, i_Mod, t_Mod_ok, n_Mod, rfl, rfl, rfl, Or.inl fm_Mod_40⟩
theorem fk_Mod_43 : FLk "VanRoundsModel" 43 8 11 true (.array .int) := ⟨R_Mod, F_Mod, 46, t_Mod, rfl, by decide, i_Mod, t_Mod_ok, n_Mod, rfl, rfl, rfl, Or.inl fm_Mod_43⟩
theorem fk_Mod_46 : FLk "VanRoundsModel" 46 8 12 true (.array .int) := ⟨R_Mod, F_Mod, 46, t_Mod, rfl, by decide, i_Mod, t_Mod_ok, n_Mod, rfl, rfl, rfl, Or.inl fm_Mod_46⟩
theorem fk_Mod_102 : FLk "VanRoundsModel" 102 8 13 false (.int) := ⟨R_Mod, F_Mod, 46, t_Mod, rfl, by decide, i_Mod, t_Mod_ok, n_Mod, rfl, rfl, rfl, Or.inl fm_Mod_102⟩
theorem fk_Mod_105 : FLk "VanRoundsModel" 105 8 14 false (.int) := ⟨R_Mod, F_Mod, 46, t_Mod, rfl, by decide, i_Mod, t_Mod_ok, n_Mod, rfl, rfl, rfl, Or.inl fm_Mod_105⟩
theorem fk_Mod_49 : FLk "VanRoundsModel" 49 8 15 true (.array .int) := ⟨R_Mod, F_Mod, 46, t_Mod, rfl, by decide, i_Mod, t_Mod_ok, n_Mod, rfl, rfl, rfl, Or.inl fm_Mod_49⟩
theorem fk_Mod_52 : FLk "VanRoundsModel" 52 8 16 true (.array .int) := ⟨R_Mod, F_Mod, 46, t_Mod, rfl, by decide, i_Mod, t_Mod_ok, n_Mod, rfl, rfl, rfl, Or.inl fm_Mod_52⟩
theorem fk_Mod_55 : FLk "VanRoundsModel" 55 8 17 true (.array .int) := ⟨R_Mod, F_Mod, 46, t_Mod, rfl, by decide, i_Mod, t_Mod_ok, n_Mod, rfl, rfl, rfl, Or.inl fm_Mod_55⟩
theorem fk_Mod_58 : FLk "VanRoundsModel" 58 8 18 true (.array .int) := ⟨R_Mod, F_Mod, 46, t_Mod, rfl, by decide, i_Mod, t_Mod_ok, n_Mod, rfl, rfl, rfl, Or.inl fm_Mod_58⟩
theorem fk_Mod_61 : FLk "VanRoundsModel" 61 8 19 true (.array .int) := ⟨R_Mod, F_Mod, 46, t_Mod, rfl, by decide, i_Mod, t_Mod_ok, n_Mod, rfl, rfl, rfl, Or.inl fm_Mod_61⟩
theorem fk_Mod_137 : FLk "VanRoundsModel" 137 8 20 false (.int) := ⟨R_Mod, F_Mod, 46, t_Mod, rfl, by decide, i_Mod, t_Mod_ok, n_Mod, rfl, rfl, rfl, Or.inl fm_Mod_137⟩
theorem fk_Mod_64 : FLk "VanRoundsModel" 64 8 21 true (.array .int) := ⟨R_Mod, F_Mod, 46, t_Mod, rfl, by decide, i_Mod, t_Mod_ok, n_Mod, rfl, rfl, rfl, Or.inl fm_Mod_64⟩
theorem fk_Mod_67 : FLk "VanRoundsModel" 67 8 22 true (.array .int) := ⟨R_Mod, F_Mod, 46, t_Mod, rfl, by decide, i_Mod, t_Mod_ok, n_Mod, rfl, rfl, rfl, Or.inl fm_Mod_67⟩
theorem fk_Mod_70 : FLk "VanRoundsModel" 70 8 23 true (.array .boolean) := ⟨R_Mod, F_Mod, 46, t_Mod, rfl, by decide, i_Mod, t_Mod_ok, n_Mod, rfl, rfl, rfl, Or.inl fm_Mod_70⟩
theorem fk_Mod_74 : FLk "VanRoundsModel" 74 8 24 true (.array .int) := ⟨R_Mod, F_Mod, 46, t_Mod, rfl, by decide, i_Mod, t_Mod_ok, n_Mod, rfl, rfl, rfl, Or.inl fm_Mod_74⟩
theorem fk_Mod_77 : FLk "VanRoundsModel" 77 8 25 true (.array .int) := ⟨R_Mod, F_Mod, 46, t_Mod, rfl, by decide, i_Mod, t_Mod_ok, n_Mod, rfl, rfl, rfl, Or.inl fm_Mod_77⟩
theorem fk_Mod_80 : FLk "VanRoundsModel" 80 8 26 true (.array .int) := ⟨R_Mod, F_Mod, 46, t_Mod, rfl, by decide, i_Mod, t_Mod_ok, n_Mod, rfl, rfl, rfl, Or.inl fm_Mod_80⟩
theorem fk_Mod_83 : FLk "VanRoundsModel" 83 8 27 true (.array .int) := ⟨R_Mod, F_Mod, 46, t_Mod, rfl, by decide, i_Mod, t_Mod_ok, n_Mod, rfl, rfl, rfl, Or.inl fm_Mod_83⟩
theorem fk_Mod_86 : FLk "VanRoundsModel" 86 8 28 true (.array .int) := ⟨R_Mod, F_Mod, 46, t_Mod, rfl, by decide, i_Mod, t_Mod_ok, n_Mod, rfl, rfl, rfl, Or.inl fm_Mod_86⟩
theorem fk_Mod_188 : FLk "VanRoundsModel" 188 8 29 false (.int) := ⟨R_Mod, F_Mod, 46, t_Mod, rfl, by decide, i_Mod, t_Mod_ok, n_Mod, rfl, rfl, rfl, Or.inl fm_Mod_188⟩
theorem fk_Mod_171 : FLk "VanRoundsModel" 171 8 30 false (.int) := ⟨R_Mod, F_Mod, 46, t_Mod, rfl, by decide, i_Mod, t_Mod_ok, n_Mod, rfl, rfl, rfl, Or.inl fm_Mod_171⟩
theorem fk_Mod_174 : FLk "VanRoundsModel" 174 8 31 false (.int) := ⟨R_Mod, F_Mod, 46, t_Mod, rfl, by decide, i_Mod, t_Mod_ok, n_Mod, rfl, rfl, rfl, Or.inl fm_Mod_174⟩
theorem fk_Mod_185 : FLk "VanRoundsModel" 185 8 32 false (.int) := ⟨R_Mod, F_Mod, 46, t_Mod, rfl, by decide, i_Mod, t_Mod_ok, n_Mod, rfl, rfl, rfl, Or.inl fm_Mod_185⟩
theorem fk_Mod_89 : FLk "VanRoundsModel" 89 8 33 false (.int) := ⟨R_Mod, F_Mod, 46, t_Mod, rfl, by decide, i_Mod, t_Mod_ok, n_Mod, rfl, rfl, rfl, Or.inl fm_Mod_89⟩
theorem fk_Mod_240 : FLk "VanRoundsModel" 240 8 34 false (.int) := ⟨R_Mod, F_Mod, 46, t_Mod, rfl, by decide, i_Mod, t_Mod_ok, n_Mod, rfl, rfl, rfl, Or.inl fm_Mod_240⟩
theorem fk_Mod_237 : FLk "VanRoundsModel" 237 8 35 false (.int) := ⟨R_Mod, F_Mod, 46, t_Mod, rfl, by decide, i_Mod, t_Mod_ok, n_Mod, rfl, rfl, rfl, Or.inl fm_Mod_237⟩
theorem fk_Mod_243 : FLk "VanRoundsModel" 243 8 36 false (.int) := ⟨R_Mod, F_Mod, 46, t_Mod, rfl, by decide, i_Mod, t_Mod_ok, n_Mod, rfl, rfl, rfl, Or.inl fm_Mod_243⟩
theorem fk_Mod_246 : FLk "VanRoundsModel" 246 8 37 false (.int) := ⟨R_Mod, F_Mod, 46, t_Mod, rfl, by decide, i_Mod, t_Mod_ok, n_Mod, rfl, rfl, rfl, Or.inl fm_Mod_246⟩
theorem fk_Mod_249 : FLk "VanRoundsModel" 249 8 38 false (.int) := ⟨R_Mod, F_Mod, 46, t_Mod, rfl, by decide, i_Mod, t_Mod_ok, n_Mod, rfl, rfl, rfl, Or.inl fm_Mod_249⟩
theorem fk_Mod_266 : FLk "VanRoundsModel" 266 8 39 false (.int) := ⟨R_Mod, F_Mod, 46, t_Mod, rfl, by decide, i_Mod, t_Mod_ok, n_Mod, rfl, rfl, rfl, Or.inl fm_Mod_266⟩
theorem fk_Mod_269 : FLk "VanRoundsModel" 269 8 40 false (.int) := ⟨R_Mod, F_Mod, 46, t_Mod, rfl, by decide, i_Mod, t_Mod_ok, n_Mod, rfl, rfl, rfl, Or.inl fm_Mod_269⟩
theorem fk_Mod_272 : FLk "VanRoundsModel" 272 8 41 false (.int) := ⟨R_Mod, F_Mod, 46, t_Mod, rfl, by decide, i_Mod, t_Mod_ok, n_Mod, rfl, rfl, rfl, Or.inl fm_Mod_272⟩
theorem fk_Mod_262 : FLk "VanRoundsModel" 262 8 42 false (.boolean) := ⟨R_Mod, F_Mod, 46, t_Mod, rfl, by decide, i_Mod, t_Mod_ok, n_Mod, rfl, rfl, rfl, Or.inl fm_Mod_262⟩
theorem fk_Mod_93 : FLk "VanRoundsModel" 93 8 43 true (.array .int) := ⟨R_Mod, F_Mod, 46, t_Mod, rfl, by decide, i_Mod, t_Mod_ok, n_Mod, rfl, rfl, rfl, Or.inl fm_Mod_93⟩
theorem fk_Mod_96 : FLk "VanRoundsModel" 96 8 44 true (.array .int) := ⟨R_Mod, F_Mod, 46, t_Mod, rfl, by decide, i_Mod, t_Mod_ok, n_Mod, rfl, rfl, rfl, Or.inl fm_Mod_96⟩
theorem fk_Mod_99 : FLk "VanRoundsModel" 99 8 45 false (.int) := ⟨R_Mod, F_Mod, 46, t_Mod, rfl, by decide, i_Mod, t_Mod_ok, n_Mod, rfl, rfl, rfl, Or.inl fm_Mod_99⟩
/-- which fields are numbers -/
def iiL : List (List Bool) := [[false, true, true], [false, false], [false, false, false, false, true, true, true, true, true, false, true, true, true], [true, false, false, false, false, false, false, false, false], [false, false, false, false, false, true], [false, false, false, false, false, false, false, true, true, true, true, true], [true, false, false, false, false], [false, false, false, false, false, false, false, false, false, true, true, false], [false, false, false, false, false, false, false, false, false, false, false, false, false, true, true, false, false, false, false, false, true, false, false, false, false, false, false, false, false, true, true, true, true, true, true, true, true, true, true, true, true, true, true, false, false, true]]
def isI (ci k : Nat) : Bool := (iiL.getD ci []).getD k false
def nfL : List Nat := [3, 2, 13, 9, 6, 12, 5, 12, 46]
/-- the kind of each cell: an object of classes[k]; 9 int[], 10 boolean[], 11 Plan[], 12 int[][] -/
def kdL : List Nat := [7, 2, 5, 4, 9, 9, 9, 9, 9, 3, 9, 9, 9, 9, 9, 9, 9, 9, 6, 9, 9, 9, 9, 9, 9, 9, 9, 1, 12, 9, 9, 9, 9, 1, 12, 9, 9, 9, 9, 1, 12, 9, 9, 9, 9, 0, 11, 1, 12, 9, 9, 9, 9, 1, 12, 9, 9, 9, 9, 1, 12, 9, 9, 9, 9, 1, 12, 9, 9, 9, 9, 1, 12, 9, 9, 9, 9, 1, 12, 9, 9, 9, 9, 1, 12, 9, 9, 9, 9, 1, 12, 9, 9, 9, 9, 1, 12, 9, 9, 9, 9, 1, 12, 9, 9, 9, 9, 1, 12, 9, 9, 9, 9, 1, 12, 9, 9, 9, 9, 1, 12, 9, 9, 9, 9, 1, 12, 9, 9, 9, 9, 1, 12, 9, 9, 9, 9, 1, 12, 9, 9, 9, 9, 1, 12, 9, 9, 9, 9, 1, 12, 9, 9, 9, 9, 1, 12, 9, 9, 9, 9, 1, 12, 9, 9, 9, 9, 9, 9, 8, 9, 9, 9, 9, 9, 9, 9, 9, 9, 9, 9, 9, 9, 9, 9, 9, 9, 9, 9, 9, 10, 9, 9, 9, 9, 9, 9, 9]
def alL : List Int := [0, 0, 0, 0, 512, 512, 8, 4096, 512, 0, 12, 12, 12, 12, 12, 12, 12, 12, 0, 3, 3, 3, 3, 12, 12, 12, 12, 0, 3, 12, 12, 12, 3, 0, 3, 12, 12, 12, 3, 0, 3, 12, 12, 12, 3, 0, 20, 0, 3, 12, 12, 12, 3, 0, 3, 12, 12, 12, 3, 0, 3, 12, 12, 12, 3, 0, 3, 12, 12, 12, 3, 0, 3, 12, 12, 12, 3, 0, 3, 12, 12, 12, 3, 0, 3, 12, 12, 12, 3, 0, 3, 12, 12, 12, 3, 0, 3, 12, 12, 12, 3, 0, 3, 12, 12, 12, 3, 0, 3, 12, 12, 12, 3, 0, 3, 12, 12, 12, 3, 0, 3, 12, 12, 12, 3, 0, 3, 12, 12, 12, 3, 0, 3, 12, 12, 12, 3, 0, 3, 12, 12, 12, 3, 0, 3, 12, 12, 12, 3, 0, 3, 12, 12, 12, 3, 0, 3, 12, 12, 12, 3, 0, 3, 12, 12, 12, 3, 12, 9, 0, 512, 12, 12, 12, 12, 12, 12, 12, 12, 3, 3, 3, 3, 36, 3, 780, 39, 39, 9, 8, 8, 8, 12, 12, 12, 12, 12, 12]
def layL : List (List Int) := [[1, 27, 2, 3, 9, 18, 39, 45, 167, -1, -1, 168], [2, 9, 18, 27, -1, -1, -1, -1, -1, 33, -1, -1, -1], [3, 9, 18, 23, 24, 25, 26, -1, -1, -1, -1, -1], [4, 5, 6, 7, 8, -1], [], [], [], [], [], [-1, 10, 11, 12, 13, 14, 15, 16, 17], [], [], [], [], [], [], [], [], [-1, 19, 20, 21, 22], [], [], [], [], [], [], [], [], [28, 32], [29, 30, 31], [], [], [], [], [34, 38], [35, 36, 37], [], [], [], [], [40, 44], [41, 42, 43], [], [], [], [], [46, -1, -1], [47, 53, 59, 65, 71, 77, 83, 89, 95, 101, 107, 113, 119, 125, 131, 137, 143, 149, 155, 161], [48, 52], [49, 50, 51], [], [], [], [], [54, 58], [55, 56, 57], [], [], [], [], [60, 64], [61, 62, 63], [], [], [], [], [66, 70], [67, 68, 69], [], [], [], [], [72, 76], [73, 74, 75], [], [], [], [], [78, 82], [79, 80, 81], [], [], [], [], [84, 88], [85, 86, 87], [], [], [], [], [90, 94], [91, 92, 93], [], [], [], [], [96, 100], [97, 98, 99], [], [], [], [], [102, 106], [103, 104, 105], [], [], [], [], [108, 112], [109, 110, 111], [], [], [], [], [114, 118], [115, 116, 117], [], [], [], [], [120, 124], [121, 122, 123], [], [], [], [], [126, 130], [127, 128, 129], [], [], [], [], [132, 136], [133, 134, 135], [], [], [], [], [138, 142], [139, 140, 141], [], [], [], [], [144, 148], [145, 146, 147], [], [], [], [], [150, 154], [151, 152, 153], [], [], [], [], [156, 160], [157, 158, 159], [], [], [], [], [162, 166], [163, 164, 165], [], [], [], [], [], [], [170, 171, 172, 173, 174, 175, 176, 177, 178, 179, 180, 181, 182, -1, -1, 183, 184, 185, 186, 187, -1, 188, 189, 190, 191, 192, 193, 194, 195, -1, -1, -1, -1, -1, -1, -1, -1, -1, -1, -1, -1, -1, -1, 196, 197, -1], [], [], [], [], [], [], [], [], [], [], [], [], [], [], [], [], [], [], [], [], [], [], [], [], [], [], [], []]
def planL : List Int := [27, 33, 39, 47, 53, 59, 65, 71, 77, 83, 89, 95, 101, 107, 113, 119, 125, 131, 137, 143, 149, 155, 161]
end
section
-- RUN: method bodies over numbers: cells by their places, whole numbers for ints. What is proved of Run and Ct is proved of the machine.
abbrev av : Type := Int ⊕ Int ⊕ Int ⊕ Unit
def vI (x : Int) : av := .inl x
def vL (x : Int) : av := .inr (.inl x)
def vR (c : Int) : av := .inr (.inr (.inl c))
def vU : av := .inr (.inr (.inr ()))
theorem vI_ne {x : Int} : vI x ≠ vU := by intro h; cases h
theorem vL_ne {x : Int} : vL x ≠ vU := by intro h; cases h
theorem vR_ne {x : Int} : vR x ≠ vU := by intro h; cases h
/-- the classes' numbers, the array classes (int[], boolean[], Plan[], int[][]), the world's first address, the script's -/
abbrev cx : Type := va_G × (ClassId × ClassId × ClassId × ClassId) × Nat × Nat
abbrev hpd : Type := cx → Heap → Prop
def cv (X : cx) (v : av) : Value := match v with
  | .inl x => .int (Int32.ofInt x)
  | .inr (.inl x) => .long (Int64.ofInt x)
  | .inr (.inr (.inl c)) => .ref (if c < 0 then X.2.2.2 else X.2.2.1 + c.toNat)
  | .inr (.inr (.inr _)) => .int 0
def catv (v : av) : Nat := match v with
  | .inr (.inl _) => 2
  | _ => 1
theorem cv_cat (X : cx) (v : av) : (cv X v).category = catv v := by
  rcases v with x | x | x | x <;> rfl
def tysX (X : cx) : List (ClassId × FieldType) := [(X.2.1.1, .int), (X.2.1.2.1, .boolean), (X.2.1.2.2.1, .object "VanRounds$Plan"), (X.2.1.2.2.2, .array .int)]
/-- the locals -/
def lrel (X : cx) (n : Nat) (A : Array Slot) (ls : List av) : Prop := A.size = n ∧ lv_wf A ∧ ∀ (i : Nat) (v : av), ls[i]? = some v → v ≠ vU → A[i]? = some (.val (cv X v))
def noL (ls : List av) : Bool := ls.all (fun v => match v with | .inr (.inl _) => false | _ => true)
def lv1 (X : cx) (i : Nat) (v : av) : Option (Nat × Value) := match v with
  | .inr (.inr (.inr _)) => none
  | _ => some (i, cv X v)
def lvl (X : cx) (ls : List av) : List (Nat × Value) := (List.range ls.length).filterMap (fun i => (ls[i]?).bind (lv1 X i))
theorem lvl_mem {X : cx} {ls : List av} {i : Nat} {v : av} (h : ls[i]? = some v) (hv : v ≠ vU) : (i, cv X v) ∈ lvl X ls := by
  refine List.mem_filterMap.mpr ⟨i, List.mem_range.mpr (List.getElem?_eq_some_iff.mp h).1, ?_⟩
  rw [h]
  rcases v with x | x | x | x
  · rfl
  · rfl
  · rfl
  · exact absurd rfl hv
theorem lvl_of {X : cx} {ls : List av} {q : Nat × Value} (h : q ∈ lvl X ls) : ∃ v, ls[q.1]? = some v ∧ v ≠ vU ∧ q.2 = cv X v := by
  obtain ⟨i, -, h⟩ := List.mem_filterMap.mp h
  obtain ⟨v, h1, h2⟩ := Option.bind_eq_some_iff.mp h
  rcases v with x | x | x | x
  · cases h2
    exact ⟨_, h1, vI_ne (x := x), rfl⟩
  · cases h2
    exact ⟨_, h1, vL_ne (x := x), rfl⟩
  · cases h2
    exact ⟨_, h1, vR_ne (x := x), rfl⟩
  · cases h2
theorem lrel_has {X : cx} {n : Nat} {A : Array Slot} {ls : List av} (h : lrel X n A ls) : lv_has A n (lvl X ls) := by
  refine ⟨h.1, h.2.1, fun q hq => ?_⟩
  obtain ⟨v, h1, h2, h3⟩ := lvl_of hq
  rw [h3]
  exact h.2.2 _ _ h1 h2
theorem noL_cat {X : cx} {ls : List av} (h : noL ls = true) {q : Nat × Value} (hq : q ∈ lvl X ls) : q.2.category = 1 := by
  obtain ⟨v, h1, h2, h3⟩ := lvl_of hq
  have h4 := List.all_eq_true.mp h v (List.mem_of_getElem? h1)
  rw [h3, cv_cat]
  rcases v with x | x | x | x
  · rfl
  · cases h4
  · rfl
  · rfl
theorem lrel_store {X : cx} {n : Nat} {A A' : Array Slot} {ls : List av} {i : Nat} {v : av} (hL : lrel X n A ls) (hno : noL ls = true) {l : List (Nat × Value)} (hl : l = (i, cv X v) :: (lvl X ls).filter (fun q => !(q.1 == i) && !(q.1 + 1 == i && q.2.category == 2))) (h : lv_has A' n l) : lrel X n A' (ls.set i v) := by
  subst hl
  refine ⟨h.1, h.2.1, fun j u hj hu => ?_⟩
  by_cases e : j = i
  · subst e
    have hlt : j < ls.length := by
      have := (List.getElem?_eq_some_iff.mp hj).1
      simpa using this
    rw [List.getElem?_set_self hlt] at hj
    cases hj
    exact h.2.2 (j, cv X v) List.mem_cons_self
  · rw [List.getElem?_set_ne (fun q => e q.symm)] at hj
    have hm := lvl_mem (X := X) hj hu
    refine h.2.2 (j, cv X u) (List.mem_cons_of_mem _ (List.mem_filter.mpr ⟨hm, ?_⟩))
    have hc := noL_cat hno hm
    simp [e, hc]
/-- what stays so through a method's body -/
def Cxt (M : mi) (X : cx) (p : Program) (s : State) (m : MethodId) (args : Array Value) (meth : Method) (c : Code) : Prop :=
  p.tables.exec = Jvm.exec ∧ c.code = M.2.1 ∧ meth.sig.returnType = M.2.2.2 ∧ c.maxLocals = M.2.2.1 ∧ s.vm.findClass M.1.cls = some m.cls ∧ (∀ w ∈ lw_tbl, w.before args s = true) ∧ meth.locks = false ∧ va_K X.1 classes (tysX X) s ∧ meth.name = M.1.name
/-- the room, what more is known, the end that is wanted -/
abbrev rx : Type := Room × (cx → State → Array Value → Prop) × (cx → List Frame → Array Value → State → State → Prop)
def Run (M : mi) (Rx : rx) (kz : Nat × Nat) (pc : Nat) (ls st : List av) (w : hpd) : Prop :=
  ∀ (X : cx) (p : Program) (l : Launch) (e : Env) (s : State) (m : MethodId) (args : Array Value) (below : List Frame) (meth : Method) (c : Code) (H : Heap) (locs : List Loc) (A : Array Slot),
    Cxt M X p s m args meth c → Rx.2.1 X s args → va_S (fun q => X.2.2.1 ≤ q) s.heap H locs → w X H → lrel X M.2.2.1 A ls →
    W p l e Rx.1 s m args below meth c H locs kz.1 kz.2 (Rx.2.2 X below args s) (F0 m pc A (st.map (cv X)))
def rmv (lev mc ms : Nat) : Room := { frames := lev, cells := mc, slots := ms, locals := 64 * lev }
def QQ (X : cx) (Q : Option av → hpd → Prop) : Array Value → State → Outcome → State → Prop := fun _ st oc t =>
  (∃ (v : Option av) (w' : hpd), oc = .returned (v.map (cv X)) ∧ Q v w' ∧ w' X t.heap ∧ va_K X.1 classes (tysX X) t) ∧ va_F (fun q => X.2.2.1 ≤ q) st t
def rxM (lev mc ms : Nat) (Q : Option av → hpd → Prop) : rx := (rmv lev mc ms, fun _ _ _ => True, fun X below args s => MQ below (QQ X Q) args s mc ms (fun q => X.2.2.1 ≤ q))
def wsM (M : mi) : List Cond := Cond.code M.1 M.2.1 M.2.2.1 M.2.2.2 :: lw_tbl
/-- a method's contract: from the world w, called with As, it ends with Q of its answer and the world behind it -/
def Ct (M : mi) (lev mc ms : Nat) (As : List av) (w : hpd) (Q : Option av → hpd → Prop) : Prop :=
  ∀ (l : Launch) (X : cx), Met l M.1 (wsM M) (rmv lev mc ms) (va_Pc (As.map (cv X)) (fun U => w X U.heap ∧ va_K X.1 classes (tysX X) U)) (QQ X Q) mc ms (fun q => X.2.2.1 ≤ q)
def eLs (As : List av) : List av := As.flatMap (fun v => match v with | .inr (.inl x) => [vL x, vU] | v => [v])
theorem eLs_rel {X : cx} : ∀ (As : List av) (i0 : Nat) (i : Nat) (v : av), (eLs As)[i]? = some v → v ≠ vU → (i0 + i, cv X v) ∈ lv_args i0 (As.map (cv X)) := by
  intro As
  induction As with
  | nil => intro i0 i v h; simp [eLs] at h
  | cons a As ih =>
    intro i0 i v h hv
    have hone : ∀ (hc : catv a = 1), eLs (a :: As) = a :: eLs As → (i0 + i, cv X v) ∈ lv_args i0 ((a :: As).map (cv X)) := by
      intro hc he
      rw [he] at h
      have hn : ¬ (cv X a).category = 2 := by rw [cv_cat, hc]; decide
      show (i0 + i, cv X v) ∈ (i0, cv X a) :: lv_args (if (cv X a).category = 2 then i0 + 2 else i0 + 1) (As.map (cv X))
      rw [if_neg hn]
      cases i with
      | zero =>
        simp at h
        subst h
        exact List.mem_cons_self
      | succ i =>
        simp at h
        refine List.mem_cons_of_mem _ ?_
        have := ih (i0 + 1) i v h hv
        rwa [show i0 + 1 + i = i0 + (i + 1) by omega] at this
    rcases a with x | x | x | x
    · exact hone rfl rfl
    · have he : eLs (.inr (.inl x) :: As) = vL x :: vU :: eLs As := rfl
      rw [he] at h
      have hn : (cv X (.inr (.inl x))).category = 2 := by rw [cv_cat]; rfl
      show (i0 + i, cv X v) ∈ (i0, cv X (.inr (.inl x))) :: lv_args (if (cv X (.inr (.inl x))).category = 2 then i0 + 2 else i0 + 1) (As.map (cv X))
      rw [if_pos hn]
      match i, h with
      | 0, h =>
        simp at h
        subst h
        exact List.mem_cons_self
      | 1, h =>
        simp at h
        exact absurd h.symm hv
      | i + 2, h =>
        simp at h
        refine List.mem_cons_of_mem _ ?_
        have := ih (i0 + 2) i v h hv
        rwa [show i0 + 2 + i = i0 + (i + 2) by omega] at this
    · exact hone rfl rfl
    · exact hone rfl rfl
theorem eLs_len {X : cx} : ∀ As : List av, (lg_sl (As.map (cv X))).length = (eLs As).length := by
  intro As
  induction As with
  | nil => rfl
  | cons a As ih =>
    rw [List.map_cons]
    show (lg_sl (cv X a :: As.map (cv X))).length = _
    rw [show lg_sl (cv X a :: As.map (cv X)) = (if (cv X a).category = 2 then [Slot.val (cv X a), .second] else [Slot.val (cv X a)]) ++ lg_sl (As.map (cv X)) from rfl, List.length_append, ih, cv_cat]
    rcases a with x | x | x | x
    · show 1 + _ = (_ :: eLs As).length
      simp; omega
    · show 2 + _ = (_ :: _ :: eLs As).length
      simp; omega
    · show 1 + _ = (_ :: eLs As).length
      simp; omega
    · show 1 + _ = (_ :: eLs As).length
      simp; omega
/-- a contract out of a run of the body from its entry -/
theorem ct_of {M : mi} {lev mc ms : Nat} {As : List av} {w : hpd} {Q : Option av → hpd → Prop} (ls : List av) (hy : plainName M.1.cls = true) (hls : eLs As ++ List.replicate (M.2.2.1 - (eLs As).length) vU = ls) (hn : (eLs As).length ≤ M.2.2.1) (h : Run M (rxM lev mc ms Q) (0, 0) 0 ls [] w) : Ct M lev mc ms As w Q := by
  intro l X
  refine Met.ofW (cc := M.2.1) (maxL := M.2.2.1) (ret := M.2.2.2) hy rfl ?_
  intro p e s m args below meth c s₁ B hml hv
  obtain ⟨rfl, hw, hK⟩ := hv
  have hts0 := atoms_spec (ws := wsM M) B.pre
  rw [lg_entry_eq]
  have hl := lv_entry (As.map (cv X)) (n := M.2.2.1) (by rw [eLs_len]; exact hn)
  refine h X p l e s m _ below meth c s.heap [] _ ⟨B.exec, B.bytes, B.returns, hml, findClass_of_methodNamed B.named, fun w hw => hts0 w (List.mem_cons_of_mem _ hw), B.notSynchronized, hK, (name_of_methodNamed B.named B.method).1⟩ trivial va_S.rf hw ⟨hl.1, hl.2.1, fun i v hi hv => ?_⟩
  rw [← hls] at hi
  by_cases hlt : i < (eLs As).length
  · rw [List.getElem?_append_left hlt] at hi
    have := hl.2.2 _ (eLs_rel (X := X) As 0 i v hi hv)
    simpa using this
  · rw [List.getElem?_append_right (by omega)] at hi
    have := List.mem_of_getElem? hi
    exact absurd (List.eq_of_mem_replicate this) hv
end
section
-- ROWS over Run: an instruction each (written by wip/whole/gen_rul.py)
abbrev inR (x : Int) : Prop := -2147483648 ≤ x ∧ x < 2147483648
theorem tI {x : Int} (h : inR x) : (Int32.ofInt x).toInt = x := Int32.toInt_ofInt_of_le (by have := h.1; omega) (by have := h.2; omega)
theorem tN {x : Int} (h0 : 0 ≤ x) (h : x < 2147483648) : (Int32.ofInt x).toNatClampNeg = x.toNat := by
  show (Int32.ofInt x).toInt.toNat = _
  rw [tI ⟨by omega, h⟩]
theorem i_lt {x y : Int} (hx : inR x) (hy : inR y) : Int32.ofInt x < Int32.ofInt y ↔ x < y := by rw [Int32.lt_iff_toInt_lt, tI hx, tI hy]
theorem i_le {x y : Int} (hx : inR x) (hy : inR y) : Int32.ofInt x ≤ Int32.ofInt y ↔ x ≤ y := by rw [Int32.le_iff_toInt_le, tI hx, tI hy]
theorem i_eq {x y : Int} (hx : inR x) (hy : inR y) : Int32.ofInt x = Int32.ofInt y ↔ x = y := by rw [← Int32.toInt_inj, tI hx, tI hy]
theorem i_in {x : Int} {n : Nat} (h0 : 0 ≤ x) (h1 : x < n) (hn : n < 2147483648) : vp_in (Int32.ofInt x) n := by
  rw [vp_in_iff, tI ⟨by omega, by omega⟩]
  exact ⟨h0, h1⟩
theorem i_div {x y : Int} (hx : 0 ≤ x ∧ x < 2147483648) (hy : 0 < y ∧ y < 2147483648) : Int32.ofInt x / Int32.ofInt y = Int32.ofInt (x / y) := by
  have hx' : inR x := ⟨by omega, hx.2⟩
  have hy' : inR y := ⟨by omega, hy.2⟩
  have hq0 : 0 ≤ x / y := Int.ediv_nonneg hx.1 (by omega)
  have hq1 : x / y ≤ x := Int.ediv_le_self y hx.1
  rw [← Int32.toInt_inj, tI ⟨by omega, by omega⟩, Int32.toInt_div_of_ne_right, tI hx', tI hy', Int.tdiv_eq_ediv_of_nonneg hx.1]
  intro h
  have h2 := congrArg Int32.toInt h
  rw [tI hy'] at h2
  have h3 : (-1 : Int32).toInt = -1 := by decide
  rw [h3] at h2
  omega
theorem i_rem {x y : Int} (hx : 0 ≤ x ∧ x < 2147483648) (hy : 0 < y ∧ y < 2147483648) : Int32.ofInt x - Int32.ofInt x / Int32.ofInt y * Int32.ofInt y = Int32.ofInt (x % y) := by
  rw [i_div hx hy, ← Int32.ofInt_mul, ← Int32.ofInt_sub, Int.emod_def, Int.mul_comm]
theorem i_ne0 {y : Int} (hy : 0 < y ∧ y < 2147483648) : ¬ Int32.ofInt y = 0 := by
  intro h
  have h2 := congrArg Int32.toInt h
  rw [tI ⟨by omega, hy.2⟩] at h2
  have h3 : (0 : Int32).toInt = 0 := by decide
  rw [h3] at h2
  omega
theorem i_0 : (0 : Int32) = Int32.ofInt 0 := by decide
theorem i_l {x : Int} (h : inR x) : (Int32.ofInt x).toInt64 = Int64.ofInt x := by
  have h1 := h.1
  have h2 := h.2
  rw [← Int64.toInt_inj, Int32.toInt_toInt64, tI h, Int64.toInt_ofInt_of_le (by omega) (by omega)]
abbrev inL (x : Int) : Prop := -9223372036854775808 ≤ x ∧ x < 9223372036854775808
theorem tL {x : Int} (h : inL x) : (Int64.ofInt x).toInt = x := Int64.toInt_ofInt_of_le (by have := h.1; omega) (by have := h.2; omega)
def cmpI (x y : Int) : Int := if y < x then 1 else if x = y then 0 else -1
theorem l_cmp {x y : Int} (hx : inL x) (hy : inL y) : lg_cmp (Int64.ofInt x) (Int64.ofInt y) = Int32.ofInt (cmpI x y) := by
  unfold lg_cmp cmpI
  have h1 : (Int64.ofInt x > Int64.ofInt y) ↔ y < x := by
    show Int64.ofInt y < Int64.ofInt x ↔ _
    rw [Int64.lt_iff_toInt_lt, tL hx, tL hy]
  have h2 : (Int64.ofInt x = Int64.ofInt y) ↔ x = y := by rw [← Int64.toInt_inj, tL hx, tL hy]
  by_cases c1 : y < x
  · rw [if_pos (h1.mpr c1), if_pos c1]; decide
  · rw [if_neg (fun h => c1 (h1.mp h)), if_neg c1]
    by_cases c2 : x = y
    · rw [if_pos (h2.mpr c2), if_pos c2]; decide
    · rw [if_neg (fun h => c2 (h2.mp h)), if_neg c2]; decide
section RULES
variable {M : mi} {Rx : rx} {kz : Nat × Nat} {pc : Nat} {ls st : List av} {w : hpd}
theorem r_iconst {n : Int} (hd : decode M.2.1 pc = .ok (.iconst n, 1)) (k : Run M Rx kz (pc + 1) ls (vI n :: st) w) : Run M Rx kz pc ls st w := by
  intro X p l e s m args below meth c H locs A hC hE hS hW hL
  exact lv_iconst hC.1 hC.2.1 hd rfl (k X p l e s m args below meth c H locs A hC hE hS hW hL)
theorem r_bipush {n : Int} (hd : decode M.2.1 pc = .ok (.bipush n, 2)) (hn : (Int8.ofInt n).toInt32 = Int32.ofInt n) (k : Run M Rx kz (pc + 2) ls (vI n :: st) w) : Run M Rx kz pc ls st w := by
  intro X p l e s m args below meth c H locs A hC hE hS hW hL
  exact lv_bipush hC.1 hC.2.1 hd hn (k X p l e s m args below meth c H locs A hC hE hS hW hL)
theorem r_sipush {n : Int} (hd : decode M.2.1 pc = .ok (.sipush n, 3)) (hn : (Int16.ofInt n).toInt32 = Int32.ofInt n) (k : Run M Rx kz (pc + 3) ls (vI n :: st) w) : Run M Rx kz pc ls st w := by
  intro X p l e s m args below meth c H locs A hC hE hS hW hL
  exact lv_sipush hC.1 hC.2.1 hd hn (k X p l e s m args below meth c H locs A hC hE hS hW hL)
theorem r_ldc {i : Nat} {n : Int} (hc : Cond.constant M.1.cls i (Int32.ofInt n) ∈ lw_tbl) (hd : decode M.2.1 pc = .ok (.ldc i, 2)) (k : Run M Rx kz (pc + 2) ls (vI n :: st) w) : Run M Rx kz pc ls st w := by
  intro X p l e s m args below meth c H locs A hC hE hS hW hL
  exact lv_ldc hC.1 hC.2.1 hC.2.2.2.2.1 (hC.2.2.2.2.2.1 _ hc) hd (k X p l e s m args below meth c H locs A hC hE hS hW hL)
theorem r_ldc2 {i : Nat} {n : Int} (hc : Cond.constantLong M.1.cls i (Int64.ofInt n) ∈ lw_tbl) (hd : decode M.2.1 pc = .ok (.ldc2_w i, 3)) (k : Run M Rx kz (pc + 3) ls (vL n :: st) w) : Run M Rx kz pc ls st w := by
  intro X p l e s m args below meth c H locs A hC hE hS hW hL
  exact lv_ldc2 hC.1 hC.2.1 hC.2.2.2.2.1 (hC.2.2.2.2.2.1 _ hc) hd (k X p l e s m args below meth c H locs A hC hE hS hW hL)
theorem r_lconst {n : Fin 2} {z : Int} (hd : decode M.2.1 pc = .ok (.lconst n, 1)) (hz : Int64.ofNat (n : Nat) = Int64.ofInt z) (k : Run M Rx kz (pc + 1) ls (vL z :: st) w) : Run M Rx kz pc ls st w := by
  intro X p l e s m args below meth c H locs A hC hE hS hW hL
  exact lv_lconst hC.1 hC.2.1 hd hz (k X p l e s m args below meth c H locs A hC hE hS hW hL)
theorem r_iload_n {k : Fin 4} (i : Nat) {x : Int} (hd : decode M.2.1 pc = .ok (.iload_n k, 1)) (hk : (k : Nat) = i) (h : ls[i]? = some (vI x)) (kk : Run M Rx kz (pc + 1) ls (vI x :: st) w) : Run M Rx kz pc ls st w := by
  intro X p l e s m args below meth c H locs A hC hE hS hW hL
  exact lv_iload_n hC.1 hC.2.1 hd hk (hL.2.2 _ _ h vI_ne) (kk X p l e s m args below meth c H locs A hC hE hS hW hL)
theorem r_iload (i : Nat) {x : Int} (hd : decode M.2.1 pc = .ok (.iload i, 2)) (h : ls[i]? = some (vI x)) (kk : Run M Rx kz (pc + 2) ls (vI x :: st) w) : Run M Rx kz pc ls st w := by
  intro X p l e s m args below meth c H locs A hC hE hS hW hL
  exact lv_iload hC.1 hC.2.1 hd (hL.2.2 _ _ h vI_ne) (kk X p l e s m args below meth c H locs A hC hE hS hW hL)
theorem r_lload_n {k : Fin 4} (i : Nat) {x : Int} (hd : decode M.2.1 pc = .ok (.lload_n k, 1)) (hk : (k : Nat) = i) (h : ls[i]? = some (vL x)) (kk : Run M Rx kz (pc + 1) ls (vL x :: st) w) : Run M Rx kz pc ls st w := by
  intro X p l e s m args below meth c H locs A hC hE hS hW hL
  exact lv_lload_n hC.1 hC.2.1 hd hk (hL.2.2 _ _ h vL_ne) (kk X p l e s m args below meth c H locs A hC hE hS hW hL)
theorem r_lload (i : Nat) {x : Int} (hd : decode M.2.1 pc = .ok (.lload i, 2)) (h : ls[i]? = some (vL x)) (kk : Run M Rx kz (pc + 2) ls (vL x :: st) w) : Run M Rx kz pc ls st w := by
  intro X p l e s m args below meth c H locs A hC hE hS hW hL
  exact lv_lload hC.1 hC.2.1 hd (hL.2.2 _ _ h vL_ne) (kk X p l e s m args below meth c H locs A hC hE hS hW hL)
theorem r_aload_n {k : Fin 4} (i : Nat) {x : Int} (hd : decode M.2.1 pc = .ok (.aload_n k, 1)) (hk : (k : Nat) = i) (h : ls[i]? = some (vR x)) (kk : Run M Rx kz (pc + 1) ls (vR x :: st) w) : Run M Rx kz pc ls st w := by
  intro X p l e s m args below meth c H locs A hC hE hS hW hL
  exact lv_aload_n hC.1 hC.2.1 hd hk (hL.2.2 _ _ h vR_ne) (kk X p l e s m args below meth c H locs A hC hE hS hW hL)
theorem r_aload (i : Nat) {x : Int} (hd : decode M.2.1 pc = .ok (.aload i, 2)) (h : ls[i]? = some (vR x)) (kk : Run M Rx kz (pc + 2) ls (vR x :: st) w) : Run M Rx kz pc ls st w := by
  intro X p l e s m args below meth c H locs A hC hE hS hW hL
  exact lv_aload hC.1 hC.2.1 hd (hL.2.2 _ _ h vR_ne) (kk X p l e s m args below meth c H locs A hC hE hS hW hL)
theorem r_istore_n {k : Fin 4} (i : Nat) {x : Int} (hd : decode M.2.1 pc = .ok (.istore_n k, 1)) (hk : (k : Nat) = i) (hi : i < M.2.2.1) (hno : noL ls = true) (kk : Run M Rx kz (pc + 1) (ls.set i (vI x)) st w) : Run M Rx kz pc ls (vI x :: st) w := by
  intro X p l e s m args below meth c H locs A hC hE hS hW hL
  exact lv_istore_n hC.1 hC.2.1 hd hk (lrel_has hL) hi rfl (fun A2 h => kk X p l e s m args below meth c H locs _ hC hE hS hW (lrel_store (v := vI x) hL hno rfl h))
theorem r_istore (i : Nat) {x : Int} (hd : decode M.2.1 pc = .ok (.istore i, 2)) (hi : i < M.2.2.1) (hno : noL ls = true) (kk : Run M Rx kz (pc + 2) (ls.set i (vI x)) st w) : Run M Rx kz pc ls (vI x :: st) w := by
  intro X p l e s m args below meth c H locs A hC hE hS hW hL
  exact lv_istore hC.1 hC.2.1 hd (lrel_has hL) hi rfl (fun A2 h => kk X p l e s m args below meth c H locs _ hC hE hS hW (lrel_store (v := vI x) hL hno rfl h))
theorem r_astore_n {k : Fin 4} (i : Nat) {x : Int} (hd : decode M.2.1 pc = .ok (.astore_n k, 1)) (hk : (k : Nat) = i) (hi : i < M.2.2.1) (hno : noL ls = true) (kk : Run M Rx kz (pc + 1) (ls.set i (vR x)) st w) : Run M Rx kz pc ls (vR x :: st) w := by
  intro X p l e s m args below meth c H locs A hC hE hS hW hL
  exact lv_astore_n hC.1 hC.2.1 hd hk (lrel_has hL) hi rfl (fun A2 h => kk X p l e s m args below meth c H locs _ hC hE hS hW (lrel_store (v := vR x) hL hno rfl h))
theorem r_astore (i : Nat) {x : Int} (hd : decode M.2.1 pc = .ok (.astore i, 2)) (hi : i < M.2.2.1) (hno : noL ls = true) (kk : Run M Rx kz (pc + 2) (ls.set i (vR x)) st w) : Run M Rx kz pc ls (vR x :: st) w := by
  intro X p l e s m args below meth c H locs A hC hE hS hW hL
  exact lv_astore hC.1 hC.2.1 hd (lrel_has hL) hi rfl (fun A2 h => kk X p l e s m args below meth c H locs _ hC hE hS hW (lrel_store (v := vR x) hL hno rfl h))
theorem r_iinc (i : Nat) {n x : Int} (hd : decode M.2.1 pc = .ok (.iinc i n, 3)) (h : ls[i]? = some (vI x)) (hi : i < M.2.2.1) (hno : noL ls = true) (kk : Run M Rx kz (pc + 3) (ls.set i (vI (x + n))) st w) : Run M Rx kz pc ls st w := by
  intro X p l e s m args below meth c H locs A hC hE hS hW hL
  have h0 : lv_has A M.2.2.1 ((i, .int (Int32.ofInt x)) :: lvl X ls) := by
    have h1 := lrel_has hL
    refine ⟨h1.1, h1.2.1, fun q hq => ?_⟩
    rcases List.mem_cons.mp hq with rfl | hq
    · exact hL.2.2 i _ h vI_ne
    · exact h1.2.2 q hq
  refine lv_iinc (v := Int32.ofInt (x + n)) (k := 0) hC.1 hC.2.1 hd h0 rfl (Int32.ofInt_add x n).symm hi rfl (fun A2 h2 => kk X p l e s m args below meth c H locs A2 hC hE hS hW (lrel_store (v := vI (x + n)) hL hno rfl ⟨h2.1, h2.2.1, fun q hq => h2.2.2 q ?_⟩))
  rcases List.mem_cons.mp hq with rfl | hq
  · exact List.mem_cons_self
  · refine List.mem_cons_of_mem _ ?_
    rw [List.filter_cons]
    split
    · exact List.mem_cons_of_mem _ hq
    · exact hq
theorem r_iadd {x y : Int} (hd : decode M.2.1 pc = .ok (.iadd, 1)) (k : Run M Rx kz (pc + 1) ls (vI (x + y) :: st) w) : Run M Rx kz pc ls (vI y :: vI x :: st) w := by
  intro X p l e s m args below meth c H locs A hC hE hS hW hL
  refine lv_iadd hC.1 hC.2.1 hd ?_
  rw [← Int32.ofInt_add]
  exact k X p l e s m args below meth c H locs A hC hE hS hW hL
theorem r_isub {x y : Int} (hd : decode M.2.1 pc = .ok (.isub, 1)) (k : Run M Rx kz (pc + 1) ls (vI (x - y) :: st) w) : Run M Rx kz pc ls (vI y :: vI x :: st) w := by
  intro X p l e s m args below meth c H locs A hC hE hS hW hL
  refine lv_isub hC.1 hC.2.1 hd ?_
  rw [← Int32.ofInt_sub]
  exact k X p l e s m args below meth c H locs A hC hE hS hW hL
theorem r_imul {x y : Int} (hd : decode M.2.1 pc = .ok (.imul, 1)) (k : Run M Rx kz (pc + 1) ls (vI (x * y) :: st) w) : Run M Rx kz pc ls (vI y :: vI x :: st) w := by
  intro X p l e s m args below meth c H locs A hC hE hS hW hL
  refine lv_imul hC.1 hC.2.1 hd ?_
  rw [← Int32.ofInt_mul]
  exact k X p l e s m args below meth c H locs A hC hE hS hW hL
theorem r_ineg {x : Int} (hd : decode M.2.1 pc = .ok (.ineg, 1)) (k : Run M Rx kz (pc + 1) ls (vI (-x) :: st) w) : Run M Rx kz pc ls (vI x :: st) w := by
  intro X p l e s m args below meth c H locs A hC hE hS hW hL
  refine lv_ineg hC.1 hC.2.1 hd ?_
  rw [← Int32.ofInt_neg]
  exact k X p l e s m args below meth c H locs A hC hE hS hW hL
theorem r_idiv {x y : Int} (hd : decode M.2.1 pc = .ok (.idiv, 1)) (hx : 0 ≤ x ∧ x < 2147483648) (hy : 0 < y ∧ y < 2147483648) (k : Run M Rx kz (pc + 1) ls (vI (x / y) :: st) w) : Run M Rx kz pc ls (vI y :: vI x :: st) w := by
  intro X p l e s m args below meth c H locs A hC hE hS hW hL
  refine lv_idiv hC.1 hC.2.1 hd (i_ne0 hy) ?_
  rw [i_div hx hy]
  exact k X p l e s m args below meth c H locs A hC hE hS hW hL
theorem r_irem {x y : Int} (hd : decode M.2.1 pc = .ok (.irem, 1)) (hx : 0 ≤ x ∧ x < 2147483648) (hy : 0 < y ∧ y < 2147483648) (k : Run M Rx kz (pc + 1) ls (vI (x % y) :: st) w) : Run M Rx kz pc ls (vI y :: vI x :: st) w := by
  intro X p l e s m args below meth c H locs A hC hE hS hW hL
  refine lv_irem hC.1 hC.2.1 hd (i_ne0 hy) ?_
  rw [i_rem hx hy]
  exact k X p l e s m args below meth c H locs A hC hE hS hW hL
theorem r_ishl {x y z : Int} (hd : decode M.2.1 pc = .ok (.ishl, 1)) (hz : Int32.ofInt x <<< (Int32.ofInt y &&& 31) = Int32.ofInt z) (k : Run M Rx kz (pc + 1) ls (vI z :: st) w) : Run M Rx kz pc ls (vI y :: vI x :: st) w := by
  intro X p l e s m args below meth c H locs A hC hE hS hW hL
  refine lv_ishl hC.1 hC.2.1 hd ?_
  rw [hz]
  exact k X p l e s m args below meth c H locs A hC hE hS hW hL
theorem r_ishr {x y z : Int} (hd : decode M.2.1 pc = .ok (.ishr, 1)) (hz : Int32.ofInt x >>> (Int32.ofInt y &&& 31) = Int32.ofInt z) (k : Run M Rx kz (pc + 1) ls (vI z :: st) w) : Run M Rx kz pc ls (vI y :: vI x :: st) w := by
  intro X p l e s m args below meth c H locs A hC hE hS hW hL
  refine lv_ishr hC.1 hC.2.1 hd ?_
  rw [hz]
  exact k X p l e s m args below meth c H locs A hC hE hS hW hL
theorem r_iand {x y z : Int} (hd : decode M.2.1 pc = .ok (.iand, 1)) (hz : Int32.ofInt x &&& Int32.ofInt y = Int32.ofInt z) (k : Run M Rx kz (pc + 1) ls (vI z :: st) w) : Run M Rx kz pc ls (vI y :: vI x :: st) w := by
  intro X p l e s m args below meth c H locs A hC hE hS hW hL
  refine lv_iand hC.1 hC.2.1 hd ?_
  rw [hz]
  exact k X p l e s m args below meth c H locs A hC hE hS hW hL
theorem r_ior {x y z : Int} (hd : decode M.2.1 pc = .ok (.ior, 1)) (hz : Int32.ofInt x ||| Int32.ofInt y = Int32.ofInt z) (k : Run M Rx kz (pc + 1) ls (vI z :: st) w) : Run M Rx kz pc ls (vI y :: vI x :: st) w := by
  intro X p l e s m args below meth c H locs A hC hE hS hW hL
  refine lv_ior hC.1 hC.2.1 hd ?_
  rw [hz]
  exact k X p l e s m args below meth c H locs A hC hE hS hW hL
theorem r_ladd {x y : Int} (hd : decode M.2.1 pc = .ok (.ladd, 1)) (k : Run M Rx kz (pc + 1) ls (vL (x + y) :: st) w) : Run M Rx kz pc ls (vL y :: vL x :: st) w := by
  intro X p l e s m args below meth c H locs A hC hE hS hW hL
  refine lv_ladd hC.1 hC.2.1 hd ?_
  rw [← Int64.ofInt_add]
  exact k X p l e s m args below meth c H locs A hC hE hS hW hL
theorem r_i2l {x : Int} (hd : decode M.2.1 pc = .ok (.i2l, 1)) (hx : inR x) (k : Run M Rx kz (pc + 1) ls (vL x :: st) w) : Run M Rx kz pc ls (vI x :: st) w := by
  intro X p l e s m args below meth c H locs A hC hE hS hW hL
  exact lv_i2l hC.1 hC.2.1 hd (i_l hx) (k X p l e s m args below meth c H locs A hC hE hS hW hL)
theorem r_lcmp {x y : Int} (hd : decode M.2.1 pc = .ok (.lcmp, 1)) (hx : inL x) (hy : inL y) (k : Run M Rx kz (pc + 1) ls (vI (cmpI x y) :: st) w) : Run M Rx kz pc ls (vL y :: vL x :: st) w := by
  intro X p l e s m args below meth c H locs A hC hE hS hW hL
  refine W.lcmp hC.1 hC.2.1 hd ?_
  rw [l_cmp hx hy]
  exact k X p l e s m args below meth c H locs A hC hE hS hW hL
theorem r_dup {v : av} (hd : decode M.2.1 pc = .ok (.dup, 1)) (hv : catv v = 1) (k : Run M Rx kz (pc + 1) ls (v :: v :: st) w) : Run M Rx kz pc ls (v :: st) w := by
  intro X p l e s m args below meth c H locs A hC hE hS hW hL
  exact lv_dup hC.1 hC.2.1 hd (by rw [cv_cat]; exact hv) (k X p l e s m args below meth c H locs A hC hE hS hW hL)
theorem r_dup2 {u v : av} (hd : decode M.2.1 pc = .ok (.dup2, 1)) (hu : catv u = 1) (hv : catv v = 1) (k : Run M Rx kz (pc + 1) ls (u :: v :: u :: v :: st) w) : Run M Rx kz pc ls (u :: v :: st) w := by
  intro X p l e s m args below meth c H locs A hC hE hS hW hL
  exact lv_dup2_11 hC.1 hC.2.1 hd (by rw [cv_cat]; exact hu) (by rw [cv_cat]; exact hv) (k X p l e s m args below meth c H locs A hC hE hS hW hL)
theorem r_pop {v : av} (hd : decode M.2.1 pc = .ok (.pop, 1)) (hv : catv v = 1) (k : Run M Rx kz (pc + 1) ls st w) : Run M Rx kz pc ls (v :: st) w := by
  intro X p l e s m args below meth c H locs A hC hE hS hW hL
  exact lv_pop hC.1 hC.2.1 hd (by rw [cv_cat]; exact hv) (k X p l e s m args below meth c H locs A hC hE hS hW hL)
theorem r_goto {off : Int} (tgt : Nat) (hd : decode M.2.1 pc = .ok (.goto off, 3)) (ht : (pc : Int) + off = (tgt : Int)) (k : Run M Rx kz tgt ls st w) : Run M Rx kz pc ls st w := by
  intro X p l e s m args below meth c H locs A hC hE hS hW hL
  exact lv_goto hC.1 hC.2.1 hd ht (k X p l e s m args below meth c H locs A hC hE hS hW hL)
theorem r_icmp_lt {x y off : Int} (tgt : Nat) (hd : decode M.2.1 pc = .ok (.if_icmp .lt off, 3)) (ht : (pc : Int) + off = (tgt : Int)) (hx : inR x) (hy : inR y) (kt : x < y → Run M Rx kz tgt ls st w) (kf : y ≤ x → Run M Rx kz (pc + 3) ls st w) : Run M Rx kz pc ls (vI y :: vI x :: st) w := by
  intro X p l e s m args below meth c H locs A hC hE hS hW hL
  exact lv_icmp_lt hC.1 hC.2.1 hd ht (fun h => kt ((i_lt hx hy).mp h) X p l e s m args below meth c H locs A hC hE hS hW hL) (fun h => kf (Int.not_lt.mp (fun q => h ((i_lt hx hy).mpr q))) X p l e s m args below meth c H locs A hC hE hS hW hL)
theorem r_if_lt {x off : Int} (tgt : Nat) (hd : decode M.2.1 pc = .ok (.ifCond .lt off, 3)) (ht : (pc : Int) + off = (tgt : Int)) (hx : inR x) (kt : x < 0 → Run M Rx kz tgt ls st w) (kf : 0 ≤ x → Run M Rx kz (pc + 3) ls st w) : Run M Rx kz pc ls (vI x :: st) w := by
  intro X p l e s m args below meth c H locs A hC hE hS hW hL
  have hy : inR 0 := by decide
  exact lv_if_lt hC.1 hC.2.1 hd ht (fun h => kt (by rw [i_0] at h; exact (i_lt hx hy).mp h) X p l e s m args below meth c H locs A hC hE hS hW hL) (fun h => kf (by rw [i_0] at h; exact Int.not_lt.mp (fun q => h ((i_lt hx hy).mpr q))) X p l e s m args below meth c H locs A hC hE hS hW hL)
theorem r_icmp_ge {x y off : Int} (tgt : Nat) (hd : decode M.2.1 pc = .ok (.if_icmp .ge off, 3)) (ht : (pc : Int) + off = (tgt : Int)) (hx : inR x) (hy : inR y) (kt : y ≤ x → Run M Rx kz tgt ls st w) (kf : x < y → Run M Rx kz (pc + 3) ls st w) : Run M Rx kz pc ls (vI y :: vI x :: st) w := by
  intro X p l e s m args below meth c H locs A hC hE hS hW hL
  exact lv_icmp_ge hC.1 hC.2.1 hd ht (fun h => kt ((i_le hy hx).mp h) X p l e s m args below meth c H locs A hC hE hS hW hL) (fun h => kf (Int.not_le.mp (fun q => h ((i_le hy hx).mpr q))) X p l e s m args below meth c H locs A hC hE hS hW hL)
theorem r_if_ge {x off : Int} (tgt : Nat) (hd : decode M.2.1 pc = .ok (.ifCond .ge off, 3)) (ht : (pc : Int) + off = (tgt : Int)) (hx : inR x) (kt : 0 ≤ x → Run M Rx kz tgt ls st w) (kf : x < 0 → Run M Rx kz (pc + 3) ls st w) : Run M Rx kz pc ls (vI x :: st) w := by
  intro X p l e s m args below meth c H locs A hC hE hS hW hL
  have hy : inR 0 := by decide
  exact lv_if_ge hC.1 hC.2.1 hd ht (fun h => kt (by rw [i_0] at h; exact (i_le hy hx).mp h) X p l e s m args below meth c H locs A hC hE hS hW hL) (fun h => kf (by rw [i_0] at h; exact Int.not_le.mp (fun q => h ((i_le hy hx).mpr q))) X p l e s m args below meth c H locs A hC hE hS hW hL)
theorem r_icmp_le {x y off : Int} (tgt : Nat) (hd : decode M.2.1 pc = .ok (.if_icmp .le off, 3)) (ht : (pc : Int) + off = (tgt : Int)) (hx : inR x) (hy : inR y) (kt : x ≤ y → Run M Rx kz tgt ls st w) (kf : y < x → Run M Rx kz (pc + 3) ls st w) : Run M Rx kz pc ls (vI y :: vI x :: st) w := by
  intro X p l e s m args below meth c H locs A hC hE hS hW hL
  exact lv_icmp_le hC.1 hC.2.1 hd ht (fun h => kt ((i_le hx hy).mp h) X p l e s m args below meth c H locs A hC hE hS hW hL) (fun h => kf (Int.not_le.mp (fun q => h ((i_le hx hy).mpr q))) X p l e s m args below meth c H locs A hC hE hS hW hL)
theorem r_if_le {x off : Int} (tgt : Nat) (hd : decode M.2.1 pc = .ok (.ifCond .le off, 3)) (ht : (pc : Int) + off = (tgt : Int)) (hx : inR x) (kt : x ≤ 0 → Run M Rx kz tgt ls st w) (kf : 0 < x → Run M Rx kz (pc + 3) ls st w) : Run M Rx kz pc ls (vI x :: st) w := by
  intro X p l e s m args below meth c H locs A hC hE hS hW hL
  have hy : inR 0 := by decide
  exact lv_if_le hC.1 hC.2.1 hd ht (fun h => kt (by rw [i_0] at h; exact (i_le hx hy).mp h) X p l e s m args below meth c H locs A hC hE hS hW hL) (fun h => kf (by rw [i_0] at h; exact Int.not_le.mp (fun q => h ((i_le hx hy).mpr q))) X p l e s m args below meth c H locs A hC hE hS hW hL)
theorem r_icmp_gt {x y off : Int} (tgt : Nat) (hd : decode M.2.1 pc = .ok (.if_icmp .gt off, 3)) (ht : (pc : Int) + off = (tgt : Int)) (hx : inR x) (hy : inR y) (kt : y < x → Run M Rx kz tgt ls st w) (kf : x ≤ y → Run M Rx kz (pc + 3) ls st w) : Run M Rx kz pc ls (vI y :: vI x :: st) w := by
  intro X p l e s m args below meth c H locs A hC hE hS hW hL
  exact lv_icmp_gt hC.1 hC.2.1 hd ht (fun h => kt ((i_lt hy hx).mp h) X p l e s m args below meth c H locs A hC hE hS hW hL) (fun h => kf (Int.not_lt.mp (fun q => h ((i_lt hy hx).mpr q))) X p l e s m args below meth c H locs A hC hE hS hW hL)
theorem r_if_gt {x off : Int} (tgt : Nat) (hd : decode M.2.1 pc = .ok (.ifCond .gt off, 3)) (ht : (pc : Int) + off = (tgt : Int)) (hx : inR x) (kt : 0 < x → Run M Rx kz tgt ls st w) (kf : x ≤ 0 → Run M Rx kz (pc + 3) ls st w) : Run M Rx kz pc ls (vI x :: st) w := by
  intro X p l e s m args below meth c H locs A hC hE hS hW hL
  have hy : inR 0 := by decide
  exact lv_if_gt hC.1 hC.2.1 hd ht (fun h => kt (by rw [i_0] at h; exact (i_lt hy hx).mp h) X p l e s m args below meth c H locs A hC hE hS hW hL) (fun h => kf (by rw [i_0] at h; exact Int.not_lt.mp (fun q => h ((i_lt hy hx).mpr q))) X p l e s m args below meth c H locs A hC hE hS hW hL)
theorem r_icmp_eq {x y off : Int} (tgt : Nat) (hd : decode M.2.1 pc = .ok (.if_icmp .eq off, 3)) (ht : (pc : Int) + off = (tgt : Int)) (hx : inR x) (hy : inR y) (kt : x = y → Run M Rx kz tgt ls st w) (kf : x ≠ y → Run M Rx kz (pc + 3) ls st w) : Run M Rx kz pc ls (vI y :: vI x :: st) w := by
  intro X p l e s m args below meth c H locs A hC hE hS hW hL
  exact lv_icmp_eq hC.1 hC.2.1 hd ht (fun h => kt ((i_eq hx hy).mp h) X p l e s m args below meth c H locs A hC hE hS hW hL) (fun h => kf ((fun q => h ((i_eq hx hy).mpr q))) X p l e s m args below meth c H locs A hC hE hS hW hL)
theorem r_if_eq {x off : Int} (tgt : Nat) (hd : decode M.2.1 pc = .ok (.ifCond .eq off, 3)) (ht : (pc : Int) + off = (tgt : Int)) (hx : inR x) (kt : x = 0 → Run M Rx kz tgt ls st w) (kf : x ≠ 0 → Run M Rx kz (pc + 3) ls st w) : Run M Rx kz pc ls (vI x :: st) w := by
  intro X p l e s m args below meth c H locs A hC hE hS hW hL
  have hy : inR 0 := by decide
  exact lv_if_eq hC.1 hC.2.1 hd ht (fun h => kt (by rw [i_0] at h; exact (i_eq hx hy).mp h) X p l e s m args below meth c H locs A hC hE hS hW hL) (fun h => kf (by rw [i_0] at h; exact (fun q => h ((i_eq hx hy).mpr q))) X p l e s m args below meth c H locs A hC hE hS hW hL)
theorem r_icmp_ne {x y off : Int} (tgt : Nat) (hd : decode M.2.1 pc = .ok (.if_icmp .ne off, 3)) (ht : (pc : Int) + off = (tgt : Int)) (hx : inR x) (hy : inR y) (kt : x ≠ y → Run M Rx kz tgt ls st w) (kf : x = y → Run M Rx kz (pc + 3) ls st w) : Run M Rx kz pc ls (vI y :: vI x :: st) w := by
  intro X p l e s m args below meth c H locs A hC hE hS hW hL
  exact lv_icmp_ne hC.1 hC.2.1 hd ht (fun h => kt ((fun q => h ((i_eq hx hy).mpr q))) X p l e s m args below meth c H locs A hC hE hS hW hL) (fun h => kf ((i_eq hx hy).mp h) X p l e s m args below meth c H locs A hC hE hS hW hL)
theorem r_if_ne {x off : Int} (tgt : Nat) (hd : decode M.2.1 pc = .ok (.ifCond .ne off, 3)) (ht : (pc : Int) + off = (tgt : Int)) (hx : inR x) (kt : x ≠ 0 → Run M Rx kz tgt ls st w) (kf : x = 0 → Run M Rx kz (pc + 3) ls st w) : Run M Rx kz pc ls (vI x :: st) w := by
  intro X p l e s m args below meth c H locs A hC hE hS hW hL
  have hy : inR 0 := by decide
  exact lv_if_ne hC.1 hC.2.1 hd ht (fun h => kt (by rw [i_0] at h; exact (fun q => h ((i_eq hx hy).mpr q))) X p l e s m args below meth c H locs A hC hE hS hW hL) (fun h => kf (by rw [i_0] at h; exact (i_eq hx hy).mp h) X p l e s m args below meth c H locs A hC hE hS hW hL)
theorem r_tableIn {dflt lo hi : Int} {offs : Array Int} {len : Nat} {x off : Int} (tgt : Nat) (hd : decode M.2.1 pc = .ok (.tableswitch dflt lo hi offs, len)) (hx : inR x) (h1 : lo ≤ x) (h2 : x ≤ hi) (ho : offs[(x - lo).toNat]? = some off) (ht : (pc : Int) + off = (tgt : Int)) (k : Run M Rx kz tgt ls st w) : Run M Rx kz pc ls (vI x :: st) w := by
  intro X p l e s m args below meth c H locs A hC hE hS hW hL
  exact lv_tableIn hC.1 hC.2.1 hd (by rw [tI hx]; omega) (by rw [tI hx]; omega) (by rw [tI hx]; exact ho) ht (k X p l e s m args below meth c H locs A hC hE hS hW hL)
theorem r_tableOut {dflt lo hi : Int} {offs : Array Int} {len : Nat} {x : Int} (tgt : Nat) (hd : decode M.2.1 pc = .ok (.tableswitch dflt lo hi offs, len)) (hx : inR x) (h : x < lo ∨ hi < x) (ht : (pc : Int) + dflt = (tgt : Int)) (k : Run M Rx kz tgt ls st w) : Run M Rx kz pc ls (vI x :: st) w := by
  intro X p l e s m args below meth c H locs A hC hE hS hW hL
  exact lv_tableOut hC.1 hC.2.1 hd (by rw [tI hx]; exact h) ht (k X p l e s m args below meth c H locs A hC hE hS hW hL)
end RULES
theorem r_iret {M : mi} {lev mc ms pc : Nat} {ls : List av} {x : Int} {w : hpd} {Q : Option av → hpd → Prop} (hd : decode M.2.1 pc = .ok (.ireturn, 1)) (hr : M.2.2.2 = some .int) (hQ : Q (some (vI x)) w) : Run M (rxM lev mc ms Q) (mc, ms) pc ls [vI x] w := by
  intro X p l e s m args below meth c H locs A hC hE hS hW hL
  exact W.iret hC.1 hC.2.1 (hC.2.2.1.trans hr) (fun t ht hWm => ⟨⟨some (vI x), w, rfl, hQ, by rw [ht]; exact hW, va_K.moved hWm.alike hC.2.2.2.2.2.2.2.1⟩, hS.F ht⟩) hS.2.2 hd hC.2.2.2.2.2.2.1
theorem r_zret {M : mi} {lev mc ms pc : Nat} {ls : List av} {x : Int} {w : hpd} {Q : Option av → hpd → Prop} (hd : decode M.2.1 pc = .ok (.ireturn, 1)) (hr : M.2.2.2 = some .boolean) (hx : x = 0 ∨ x = 1) (hQ : Q (some (vI x)) w) : Run M (rxM lev mc ms Q) (mc, ms) pc ls [vI x] w := by
  intro X p l e s m args below meth c H locs A hC hE hS hW hL
  exact W.zret hC.1 hC.2.1 (hC.2.2.1.trans hr) (by rcases hx with rfl | rfl <;> decide) (fun t ht hWm => ⟨⟨some (vI x), w, rfl, hQ, by rw [ht]; exact hW, va_K.moved hWm.alike hC.2.2.2.2.2.2.2.1⟩, hS.F ht⟩) hS.2.2 hd hC.2.2.2.2.2.2.1
theorem r_vret {M : mi} {lev mc ms pc : Nat} {ls : List av} {w : hpd} {Q : Option av → hpd → Prop} (hd : decode M.2.1 pc = .ok (.return_, 1)) (hr : M.2.2.2 = none) (hQ : Q none w) : Run M (rxM lev mc ms Q) (mc, ms) pc ls [] w := by
  intro X p l e s m args below meth c H locs A hC hE hS hW hL
  exact W.vret hC.1 hC.2.1 (hC.2.2.1.trans hr) (fun t ht hWm => ⟨⟨none, w, rfl, hQ, by rw [ht]; exact hW, va_K.moved hWm.alike hC.2.2.2.2.2.2.2.1⟩, hS.F ht⟩) hS.2.2 hd hC.2.2.2.2.2.2.1
end
section
-- CELLS: the finished world, its numbers as a function of cell and place
def KD (c : Int) : Nat := if c < 0 then 99 else kdL.getD c.toNat 99
def AL (c : Int) : Int := alL.getD c.toNat 0
def lay (c i : Int) : Int := (layL.getD c.toNat []).getD i.toNat (-1)
def nfc (ci : Nat) : Nat := match classes[ci]? with
  | some q => q.2.2
  | none => 0
abbrev sto : Type := Int → Int → Int
def wr (σ : sto) (c i v : Int) : sto := fun c' i' => if c' = c ∧ i' = i then v else σ c' i'
def ent (X : cx) (σ : sto) (k : Nat) : va_E :=
  if KD k < 9 then .inr (KD k, (List.range (nfc (KD k))).map (fun i => if isI (KD k) i then .int (Int32.ofInt (σ k i)) else .ref (X.2.2.1 + (lay k i).toNat)))
  else if KD k < 11 then .inl (if KD k = 9 then X.2.1.1 else X.2.1.2.1, (AL k).toNat, .inl (fun j => Int32.ofInt (σ k j)))
  else .inl (if KD k = 11 then X.2.1.2.2.1 else X.2.1.2.2.2, (AL k).toNat, .inr (.inr (.inr (.inr (fun j => some (X.2.2.1 + (lay k j).toNat))))))
def wl (X : cx) (σ : sto) : va_W := (List.range 198).map (fun k => (X.2.2.1 + k, ent X σ k))
/-- the finished world -/
def sg (σ : sto) : hpd := fun X H => va_P X.1 classes (wl X σ) H
theorem KD_lt {c : Int} {k : Nat} (h : KD c = k) (hk : k < 99) : ∃ n : Nat, c = n ∧ n < 198 := by
  unfold KD at h
  by_cases h0 : c < 0
  · rw [if_pos h0] at h; omega
  · rw [if_neg h0] at h
    refine ⟨c.toNat, by omega, ?_⟩
    rcases Nat.lt_or_ge c.toNat 198 with q | q
    · exact q
    · rw [List.getD_eq_getElem?_getD, List.getElem?_eq_none (Nat.le_trans (show kdL.length ≤ 198 by decide +kernel) q)] at h
      simp at h
      omega
theorem AL_le (c : Int) : AL c ≤ 4096 := by
  unfold AL
  rcases Nat.lt_or_ge c.toNat alL.length with q | q
  · rw [List.getD_eq_getElem?_getD, List.getElem?_eq_getElem q]
    have h : ∀ x ∈ alL, x ≤ 4096 := by decide +kernel
    exact h _ (List.getElem_mem q)
  · rw [List.getD_eq_getElem?_getD, List.getElem?_eq_none q]
    decide
theorem wl_at (X : cx) (σ : sto) {n : Nat} (hn : n < 198) : (wl X σ)[n]? = some (X.2.2.1 + n, ent X σ n) := by
  simp [wl, List.getElem?_range hn]
theorem wl_set {X : cx} {σ σ' : sto} {n : Nat} {e : va_E} (ho : ∀ k : Nat, k ≠ n → ent X σ' k = ent X σ k) (he : ent X σ' n = e) : (wl X σ).set n (X.2.2.1 + n, e) = wl X σ' := by
  apply List.ext_getElem?
  intro k
  by_cases hk : k < 198
  · rw [wl_at X σ' hk]
    by_cases h : k = n
    · subst h
      rw [List.getElem?_set_self (by simpa [wl] using hk), he]
    · rw [List.getElem?_set_ne (fun q => h q.symm), wl_at X σ hk, ho k h]
  · rw [List.getElem?_eq_none (by simp [wl]; omega), List.getElem?_eq_none (by simp [wl]; omega)]
theorem wl_D (X : cx) (σ : sto) : va_D (fun q => X.2.2.1 ≤ q) (wl X σ) := by
  have key : ∀ (k : Nat) (q : Nat × va_E), (wl X σ)[k]? = some q → q.1 = X.2.2.1 + k := by
    intro k q h
    by_cases hk : k < 198
    · rw [wl_at X σ hk] at h
      cases h
      rfl
    · rw [List.getElem?_eq_none (by simp [wl]; omega)] at h
      cases h
  refine ⟨fun i j p q hi hj h => ?_, fun k q h => ?_⟩
  · rw [key i p hi, key j q hj] at h
    omega
  · rw [key k q h]
    omega
theorem ent_ne {X : cx} {σ : sto} {n : Nat} {i v : Int} {k : Nat} (h : k ≠ n) : ent X (wr σ n i v) k = ent X σ k := by
  have hf : ∀ j : Int, wr σ n i v k j = σ k j := fun j => by
    unfold wr
    rw [if_neg]
    intro q
    exact h (by have := q.1; omega)
  unfold ent
  simp only [hf]
theorem ent_arr {X : cx} {σ : sto} {n : Nat} (h : KD n = 9) : ent X σ n = .inl (X.2.1.1, (AL n).toNat, .inl (fun j => Int32.ofInt (σ n j))) := by
  unfold ent
  rw [h]
  rfl
theorem ent_bool {X : cx} {σ : sto} {n : Nat} (h : KD n = 10) : ent X σ n = .inl (X.2.1.2.1, (AL n).toNat, .inl (fun j => Int32.ofInt (σ n j))) := by
  unfold ent
  rw [h]
  rfl
theorem ent_obj {X : cx} {σ : sto} {n ci : Nat} (h : KD n = ci) (hc : ci < 9) : ent X σ n = .inr (ci, (List.range (nfc ci)).map (fun i => if isI ci i then .int (Int32.ofInt (σ n i)) else .ref (X.2.2.1 + (lay n i).toNat))) := by
  unfold ent
  rw [h, if_pos hc]
theorem wr_upd {σ : sto} {n : Nat} {i v : Int} (h0 : 0 ≤ i) : (fun j : Nat => Int32.ofInt (wr σ n i v n j)) = upd (fun j : Nat => Int32.ofInt (σ n j)) i.toNat (Int32.ofInt v) := by
  funext j
  unfold wr upd
  by_cases h : j = i.toNat
  · rw [if_pos h, if_pos ⟨rfl, by omega⟩]
  · rw [if_neg h, if_neg (fun q => h (by have := q.2; omega))]
theorem nfc_of {ci : Nat} {C : String} {T : u_T} {N : Nat} (h : classes[ci]? = some (C, T, N)) : nfc ci = N ∧ ci < 9 := by
  refine ⟨?_, (List.getElem?_eq_some_iff.mp h).1⟩
  unfold nfc
  rw [h]
section MEM
variable {M : mi} {Rx : rx} {kz : Nat × Nat} {pc : Nat} {ls st : List av} {σ : sto}
theorem r_getI {idx ci k : Nat} {fin : Bool} {ty : FieldType} {c : Int} (ki : Int) (hd : decode M.2.1 pc = .ok (.getfield idx, 3)) (hF : FLk M.1.cls idx ci k fin ty) (hk : KD c = ci) (hI : isI ci k = true) (hki : ((k : Nat) : Int) = ki) (kk : Run M Rx kz (pc + 3) ls (vI (σ c ki) :: st) (sg σ)) : Run M Rx kz pc ls (vR c :: st) (sg σ) := by
  intro X p l e s m args below meth cd H locs A hC hE hS hW hL
  obtain ⟨C, T, N, tyf, h1, h2, h3, h4, h5, h6, h7, h8, h9⟩ := hF
  obtain ⟨hn, h10⟩ := nfc_of h1
  obtain ⟨n, rfl, hlt⟩ := KD_lt hk (by omega)
  subst hki
  have he : (wl X σ)[n]? = some (X.2.2.1 + n, .inr (ci, (List.range N).map (fun i => if isI ci i then .int (Int32.ofInt (σ n i)) else .ref (X.2.2.1 + (lay n i).toNat)))) := by rw [wl_at X σ hlt, ent_obj hk h10, hn]
  have hv : ((List.range N).map (fun i => if isI ci i then Value.int (Int32.ofInt (σ n i)) else .ref (X.2.2.1 + (lay n i).toNat)))[k]? = some (.int (Int32.ofInt (σ n k))) := by
    rw [List.getElem?_map, List.getElem?_range h2]
    simp [hI]
  have hg : cv X (vR (n : Int)) = .ref (X.2.2.1 + n) := by
    show Value.ref (if (n : Int) < 0 then _ else _) = _
    rw [if_neg (by omega)]
    simp
  rw [List.map_cons, hg]
  have kk' := kk X p l e s m args below meth cd H locs A hC hE hS hW hL
  rcases h9 with h9 | ⟨host, h9⟩
  · exact va_get hC.1 hC.2.1 hC.2.2.2.2.2.1 h3 hC.2.2.2.2.1 hC.2.2.2.2.2.2.2.1 hW n he h1 k h2 (hC.2.2.2.2.2.1 _ h9) (fun x hx => by rw [h6] at hx; exact hx) hv hd kk'
  · exact va_getN hC.1 hC.2.1 hC.2.2.2.2.2.1 h3 hC.2.2.2.2.1 hC.2.2.2.2.2.2.2.1 hW n he h1 k h2 (hC.2.2.2.2.2.1 _ h9) (fun x hx => by rw [h6] at hx; exact hx) hv hd kk'
theorem r_getR {idx ci k : Nat} {fin : Bool} {ty : FieldType} {c : Int} (r : Int) (hd : decode M.2.1 pc = .ok (.getfield idx, 3)) (hF : FLk M.1.cls idx ci k fin ty) (hk : KD c = ci) (hI : isI ci k = false) (hr : lay c k = r) (hr0 : 0 ≤ r) (kk : Run M Rx kz (pc + 3) ls (vR r :: st) (sg σ)) : Run M Rx kz pc ls (vR c :: st) (sg σ) := by
  intro X p l e s m args below meth cd H locs A hC hE hS hW hL
  obtain ⟨C, T, N, tyf, h1, h2, h3, h4, h5, h6, h7, h8, h9⟩ := hF
  obtain ⟨hn, h10⟩ := nfc_of h1
  obtain ⟨n, rfl, hlt⟩ := KD_lt hk (by omega)
  have he : (wl X σ)[n]? = some (X.2.2.1 + n, .inr (ci, (List.range N).map (fun i => if isI ci i then .int (Int32.ofInt (σ n i)) else .ref (X.2.2.1 + (lay n i).toNat)))) := by rw [wl_at X σ hlt, ent_obj hk h10, hn]
  have hv : ((List.range N).map (fun i => if isI ci i then Value.int (Int32.ofInt (σ n i)) else .ref (X.2.2.1 + (lay n i).toNat)))[k]? = some (.ref (X.2.2.1 + r.toNat)) := by
    rw [List.getElem?_map, List.getElem?_range h2]
    simp [hI, hr]
  have hg : cv X (vR (n : Int)) = .ref (X.2.2.1 + n) := by
    show Value.ref (if (n : Int) < 0 then _ else _) = _
    rw [if_neg (by omega)]
    simp
  have hg2 : cv X (vR r) = .ref (X.2.2.1 + r.toNat) := by
    show Value.ref (if r < 0 then _ else _) = _
    rw [if_neg (by omega)]
  rw [List.map_cons, hg]
  have kk' := kk X p l e s m args below meth cd H locs A hC hE hS hW hL
  rw [List.map_cons, hg2] at kk'
  rcases h9 with h9 | ⟨host, h9⟩
  · exact va_get hC.1 hC.2.1 hC.2.2.2.2.2.1 h3 hC.2.2.2.2.1 hC.2.2.2.2.2.2.2.1 hW n he h1 k h2 (hC.2.2.2.2.2.1 _ h9) (fun x hx => by rw [h6] at hx; exact hx) hv hd kk'
  · exact va_getN hC.1 hC.2.1 hC.2.2.2.2.2.1 h3 hC.2.2.2.2.1 hC.2.2.2.2.2.2.2.1 hW n he h1 k h2 (hC.2.2.2.2.2.1 _ h9) (fun x hx => by rw [h6] at hx; exact hx) hv hd kk'
theorem r_putI {idx ci k : Nat} {ty : FieldType} {c x : Int} (ki : Int) (hd : decode M.2.1 pc = .ok (.putfield idx, 3)) (hF : FLk M.1.cls idx ci k false ty) (hk : KD c = ci) (hI : isI ci k = true) (hki : ((k : Nat) : Int) = ki) (hty : ty = .int ∨ ty = .boolean ∧ (x = 0 ∨ x = 1)) (kk : Run M Rx kz (pc + 3) ls st (sg (wr σ c ki x))) : Run M Rx kz pc ls (vI x :: vR c :: st) (sg σ) := by
  intro X p l e s m args below meth cd H locs A hC hE hS hW hL
  obtain ⟨C, T, N, tyf, h1, h2, h3, h4, h5, h6, h7, h8, h9⟩ := hF
  obtain ⟨hn, h10⟩ := nfc_of h1
  obtain ⟨n, rfl, hlt⟩ := KD_lt hk (by omega)
  subst hki
  have he : (wl X σ)[n]? = some (X.2.2.1 + n, .inr (ci, (List.range N).map (fun i => if isI ci i then .int (Int32.ofInt (σ n i)) else .ref (X.2.2.1 + (lay n i).toNat)))) := by rw [wl_at X σ hlt, ent_obj hk h10, hn]
  have hset : (wl X σ).set n (X.2.2.1 + n, .inr (ci, ((List.range N).map (fun i => if isI ci i then Value.int (Int32.ofInt (σ n i)) else .ref (X.2.2.1 + (lay n i).toNat))).set k (.int (Int32.ofInt x)))) = wl X (wr σ n k x) := by
    refine wl_set (fun q hq => ent_ne hq) ?_
    rw [ent_obj hk h10, hn]
    congr 2
    apply List.ext_getElem?
    intro j
    by_cases hj : j < N
    · rw [List.getElem?_map, List.getElem?_range hj]
      by_cases hjk : j = k
      · subst hjk
        rw [List.getElem?_set_self (by simpa using hj)]
        simp [hI, wr]
      · rw [List.getElem?_set_ne (fun q => hjk q.symm), List.getElem?_map, List.getElem?_range hj]
        have : wr σ n k x n j = σ n j := by
          unfold wr
          rw [if_neg]
          intro q
          exact hjk (by have := q.2; omega)
        simp [this]
    · rw [List.getElem?_eq_none (by simp; omega), List.getElem?_eq_none (by simp; omega)]
  have hg : cv X (vR (n : Int)) = .ref (X.2.2.1 + n) := by
    show Value.ref (if (n : Int) < 0 then _ else _) = _
    rw [if_neg (by omega)]
    simp
  have hpd : parseFieldDescriptor (T k).2.2.1 = some ty := by rw [h4 k h2, h8]
  have hnw : narrow ty (.int (Int32.ofInt x)) = .int (Int32.ofInt x) := by
    rcases hty with rfl | ⟨rfl, rfl | rfl⟩
    · rfl
    · decide
    · decide
  have hft : fits ty (.int (Int32.ofInt x)) = true := by
    rcases hty with rfl | ⟨rfl, rfl | rfl⟩
    · rfl
    · decide
    · decide
  rw [List.map_cons, List.map_cons, hg]
  show W _ _ _ _ _ _ _ _ _ _ _ _ _ _ _ (F0 m pc A (.int (Int32.ofInt x) :: .ref (X.2.2.1 + n) :: st.map (cv X)))
  rcases h9 with h9 | ⟨host, h9⟩
  · exact va_put (ty := ty) (v := .int (Int32.ofInt x)) hC.1 hC.2.1 hC.2.2.2.2.2.1 h3 tyf h4 h5 hC.2.2.2.2.1 hC.2.2.2.2.2.2.2.1 hW (wl_D X σ) hS n he h1 k h2 (hC.2.2.2.2.2.1 _ h9) (fun x hx => by rw [h6] at hx; exact hx) h7 hpd hnw hft (by simpa using h2) hd (fun H1 locs1 hP1 hD1 hS1 => kk X p l e s m args below meth cd H1 locs1 A hC hE hS1 (by rw [hset] at hP1; exact hP1) hL)
  · exact va_putN (ty := ty) (v := .int (Int32.ofInt x)) hC.1 hC.2.1 hC.2.2.2.2.2.1 h3 tyf h4 h5 hC.2.2.2.2.1 hC.2.2.2.2.2.2.2.1 hW (wl_D X σ) hS n he h1 k h2 (hC.2.2.2.2.2.1 _ h9) (fun x hx => by rw [h6] at hx; exact hx) h7 hpd hnw hft (by simpa using h2) hd (fun H1 locs1 hP1 hD1 hS1 => kk X p l e s m args below meth cd H1 locs1 A hC hE hS1 (by rw [hset] at hP1; exact hP1) hL)
theorem cvR {X : cx} {n : Nat} : cv X (vR (n : Int)) = .ref (X.2.2.1 + n) := by
  show Value.ref (if (n : Int) < 0 then _ else _) = _
  rw [if_neg (by omega)]
  simp
theorem cvR' {X : cx} {r : Int} (h : 0 ≤ r) : cv X (vR r) = .ref (X.2.2.1 + r.toNat) := by
  show Value.ref (if r < 0 then _ else _) = _
  rw [if_neg (by omega)]
theorem r_iald {c i : Int} (n : Int) (hd : decode M.2.1 pc = .ok (.iaload, 1)) (hk : KD c = 9) (hn : AL c = n) (h0 : 0 ≤ i) (h1 : i < n) (kk : Run M Rx kz (pc + 1) ls (vI (σ c i) :: st) (sg σ)) : Run M Rx kz pc ls (vI i :: vR c :: st) (sg σ) := by
  intro X p l e s m args below meth cd H locs A hC hE hS hW hL
  obtain ⟨a, rfl, hlt⟩ := KD_lt hk (by omega)
  have hle := AL_le (a : Int)
  have hi := i_in (n := (AL a).toNat) h0 (by omega) (by omega)
  have ht : (Int32.ofInt i).toNatClampNeg = i.toNat := tN h0 (by omega)
  have hii : ((i.toNat : Nat) : Int) = i := by omega
  rw [List.map_cons, List.map_cons, cvR]
  refine va_iald hC.1 hC.2.1 hC.2.2.2.2.2.2.2.1 hW a 0 (f := fun j => Int32.ofInt (σ a j)) (n := (AL a).toNat) (cA := X.2.1.1) (by rw [wl_at X σ hlt, ent_arr hk]) rfl hi hd ?_
  rw [ht, hii]
  exact kk X p l e s m args below meth cd H locs A hC hE hS hW hL
theorem r_bald {c i : Int} (n : Int) (hd : decode M.2.1 pc = .ok (.baload, 1)) (hk : KD c = 10) (hn : AL c = n) (h0 : 0 ≤ i) (h1 : i < n) (kk : Run M Rx kz (pc + 1) ls (vI (σ c i) :: st) (sg σ)) : Run M Rx kz pc ls (vI i :: vR c :: st) (sg σ) := by
  intro X p l e s m args below meth cd H locs A hC hE hS hW hL
  obtain ⟨a, rfl, hlt⟩ := KD_lt hk (by omega)
  have hle := AL_le (a : Int)
  have hi := i_in (n := (AL a).toNat) h0 (by omega) (by omega)
  have ht : (Int32.ofInt i).toNatClampNeg = i.toNat := tN h0 (by omega)
  have hii : ((i.toNat : Nat) : Int) = i := by omega
  rw [List.map_cons, List.map_cons, cvR]
  refine va_zald hC.1 hC.2.1 hC.2.2.2.2.2.2.2.1 hW a 1 (f := fun j => Int32.ofInt (σ a j)) (n := (AL a).toNat) (cA := X.2.1.2.1) (by rw [wl_at X σ hlt, ent_bool hk]) rfl hi hd ?_
  rw [ht, hii]
  exact kk X p l e s m args below meth cd H locs A hC hE hS hW hL
theorem r_iast {c i x : Int} (n : Int) (hd : decode M.2.1 pc = .ok (.iastore, 1)) (hk : KD c = 9) (hn : AL c = n) (h0 : 0 ≤ i) (h1 : i < n) (kk : Run M Rx kz (pc + 1) ls st (sg (wr σ c i x))) : Run M Rx kz pc ls (vI x :: vI i :: vR c :: st) (sg σ) := by
  intro X p l e s m args below meth cd H locs A hC hE hS hW hL
  obtain ⟨a, rfl, hlt⟩ := KD_lt hk (by omega)
  have hle := AL_le (a : Int)
  have hi := i_in (n := (AL a).toNat) h0 (by omega) (by omega)
  have ht : (Int32.ofInt i).toNatClampNeg = i.toNat := tN h0 (by omega)
  rw [List.map_cons, List.map_cons, List.map_cons, cvR]
  refine va_iast hC.1 hC.2.1 hC.2.2.2.2.2.2.2.1 hW (wl_D X σ) hS a 0 (f := fun j => Int32.ofInt (σ a j)) (n := (AL a).toNat) (cA := X.2.1.1) (by rw [wl_at X σ hlt, ent_arr hk]) rfl hi hd (fun H1 locs1 hP1 hD1 hS1 => ?_)
  refine kk X p l e s m args below meth cd H1 locs1 A hC hE hS1 ?_ hL
  rw [ht, ← wr_upd (n := a) h0, wl_set (fun q hq => ent_ne hq) (ent_arr hk)] at hP1
  exact hP1
theorem r_bast {c i x : Int} (n : Int) (hd : decode M.2.1 pc = .ok (.bastore, 1)) (hk : KD c = 10) (hn : AL c = n) (h0 : 0 ≤ i) (h1 : i < n) (hx : x = 0 ∨ x = 1) (kk : Run M Rx kz (pc + 1) ls st (sg (wr σ c i x))) : Run M Rx kz pc ls (vI x :: vI i :: vR c :: st) (sg σ) := by
  intro X p l e s m args below meth cd H locs A hC hE hS hW hL
  obtain ⟨a, rfl, hlt⟩ := KD_lt hk (by omega)
  have hle := AL_le (a : Int)
  have hi := i_in (n := (AL a).toNat) h0 (by omega) (by omega)
  have ht : (Int32.ofInt i).toNatClampNeg = i.toNat := tN h0 (by omega)
  have hnr : vp_nar .boolean (Int32.ofInt x) = Int32.ofInt x := by rcases hx with rfl | rfl <;> decide
  rw [List.map_cons, List.map_cons, List.map_cons, cvR]
  refine va_zast hC.1 hC.2.1 hC.2.2.2.2.2.2.2.1 hW (wl_D X σ) hS a 1 (f := fun j => Int32.ofInt (σ a j)) (n := (AL a).toNat) (cA := X.2.1.2.1) (by rw [wl_at X σ hlt, ent_bool hk]) rfl hi hd (fun H1 locs1 hP1 hD1 hS1 => ?_)
  refine kk X p l e s m args below meth cd H1 locs1 A hC hE hS1 ?_ hL
  have hP1 : va_P X.1 classes ((wl X σ).set a (X.2.2.1 + a, .inl (X.2.1.2.1, (AL a).toNat, .inl (upd (fun j : Nat => Int32.ofInt (σ a j)) (Int32.ofInt i).toNatClampNeg (vp_nar .boolean (Int32.ofInt x)))))) H1 := hP1
  rw [ht, hnr, ← wr_upd (n := a) h0, wl_set (fun q hq => ent_ne hq) (ent_bool hk)] at hP1
  exact hP1
theorem ent_q11 {X : cx} {σ : sto} {n : Nat} (h : KD n = 11) : ent X σ n = .inl (X.2.1.2.2.1, (AL n).toNat, .inr (.inr (.inr (.inr (fun j => some (X.2.2.1 + (lay n j).toNat)))))) := by
  unfold ent
  rw [h]
  rfl
theorem ent_q12 {X : cx} {σ : sto} {n : Nat} (h : KD n = 12) : ent X σ n = .inl (X.2.1.2.2.2, (AL n).toNat, .inr (.inr (.inr (.inr (fun j => some (X.2.2.1 + (lay n j).toNat)))))) := by
  unfold ent
  rw [h]
  rfl
theorem r_aald {c i : Int} (n r : Int) (hd : decode M.2.1 pc = .ok (.aaload, 1)) (hk : KD c = 11 ∨ KD c = 12) (hn : AL c = n) (h0 : 0 ≤ i) (h1 : i < n) (hr : lay c i = r) (hr0 : 0 ≤ r) (kk : Run M Rx kz (pc + 1) ls (vR r :: st) (sg σ)) : Run M Rx kz pc ls (vI i :: vR c :: st) (sg σ) := by
  intro X p l e s m args below meth cd H locs A hC hE hS hW hL
  obtain ⟨a, rfl, hlt⟩ : ∃ n : Nat, c = n ∧ n < 198 := by
    rcases hk with hk | hk
    · exact KD_lt hk (by omega)
    · exact KD_lt hk (by omega)
  have hle := AL_le (a : Int)
  have hi := i_in (n := (AL a).toNat) h0 (by omega) (by omega)
  have ht : (Int32.ofInt i).toNatClampNeg = i.toNat := tN h0 (by omega)
  have hii : ((i.toNat : Nat) : Int) = i := by omega
  have hlt2 : (Int32.ofInt i).toNatClampNeg < (AL a).toNat := by rw [ht]; omega
  have hval : va_rf (some (X.2.2.1 + (lay a (((Int32.ofInt i).toNatClampNeg : Nat) : Int)).toNat)) = .ref (X.2.2.1 + r.toNat) := by
    rw [ht, hii, hr]
    rfl
  have kk' := kk X p l e s m args below meth cd H locs A hC hE hS hW hL
  rw [List.map_cons, cvR' hr0] at kk'
  rw [List.map_cons, List.map_cons, cvR]
  rcases hk with hk | hk
  · have hP := hW a _ (wl_at X σ hlt)
    rw [ent_q11 hk] at hP
    refine W.aald (v := .ref (X.2.2.1 + r.toNat)) (ty := .object "VanRounds$Plan") hC.1 hC.2.1 hP ((hC.2.2.2.2.2.2.2.1.2 2 _ rfl).1 (AL a).toNat (fun j => va_rf (some (X.2.2.1 + (lay a j).toNat)))) rfl (fun q => by cases q) (by show ¬ (Int32.ofInt i < 0 ∨ (arrV _ _ _).slots.size ≤ _); rw [arrV_size]; exact hi) (by show (arrV _ _ _).slots[_]? = _; rw [arrV_read _ _ hlt2, hval]) rfl rfl hd kk'
  · have hP := hW a _ (wl_at X σ hlt)
    rw [ent_q12 hk] at hP
    refine W.aald (v := .ref (X.2.2.1 + r.toNat)) (ty := .array .int) hC.1 hC.2.1 hP ((hC.2.2.2.2.2.2.2.1.2 3 _ rfl).1 (AL a).toNat (fun j => va_rf (some (X.2.2.1 + (lay a j).toNat)))) rfl (fun q => by cases q) (by show ¬ (Int32.ofInt i < 0 ∨ (arrV _ _ _).slots.size ≤ _); rw [arrV_size]; exact hi) (by show (arrV _ _ _).slots[_]? = _; rw [arrV_read _ _ hlt2, hval]) rfl rfl hd kk'
/-- n numbers from place sp of cell c on come to place dp of cell a on -/
def cpy (σ : sto) (c sp a dp n : Int) : sto := fun c' i' => if c' = a ∧ dp ≤ i' ∧ i' < dp + n then σ c (sp + (i' - dp)) else σ c' i'
theorem cpy_ent {X : cx} {σ : sto} {n : Nat} {c sp dp m : Int} {k : Nat} (h : k ≠ n) : ent X (cpy σ c sp n dp m) k = ent X σ k := by
  have hf : ∀ j : Int, cpy σ c sp n dp m k j = σ k j := fun j => by
    unfold cpy
    rw [if_neg]
    intro q
    exact h (by have := q.1; omega)
  unfold ent
  simp only [hf]
theorem r_copy {idx : Nat} {c sp a dp n : Int} (nc na : Int) (hd : decode M.2.1 pc = .ok (.invokestatic idx, 3)) (hlk : Cond.methodLink M.1.cls idx arraycopyName ∈ lw_tbl) (hkc : KD c = 9) (hka : KD a = 9) (hnc : AL c = nc) (hna : AL a = na) (h0 : 0 ≤ sp) (h1 : 0 ≤ dp) (h2 : 0 ≤ n) (h3 : sp + n ≤ nc) (h4 : dp + n ≤ na) (hf : 1 ≤ Rx.1.frames) (hlo : (st.map catv).sum + 24 ≤ Rx.1.locals)
    (kk : Run M Rx kz (pc + 3) ls st (sg (cpy σ c sp a dp n))) : Run M Rx kz pc ls (vI n :: vI dp :: vR a :: vI sp :: vR c :: st) (sg σ) := by
  intro X p l e s m args below meth cd H locs A hC hE hS hW hL
  obtain ⟨c, rfl, hltc⟩ := KD_lt hkc (by omega)
  obtain ⟨a, rfl, hlta⟩ := KD_lt hka (by omega)
  have hlc := AL_le (c : Int)
  have hla := AL_le (a : Int)
  have t1 : (Int32.ofInt sp).toNatClampNeg = sp.toNat := tN h0 (by omega)
  have t2 : (Int32.ofInt dp).toNatClampNeg = dp.toNat := tN h1 (by omega)
  have t3 : (Int32.ofInt n).toNatClampNeg = n.toNat := tN h2 (by omega)
  have nn : ∀ z : Int, 0 ≤ z → z < 2147483648 → ¬ Int32.ofInt z < 0 := fun z hz hz2 h => by
    rw [i_0, i_lt ⟨by omega, hz2⟩ (by decide)] at h
    omega
  have hsum : ((st.map (cv X)).map fun v => v.category).sum = (st.map catv).sum := by
    rw [List.map_map]
    congr 1
    apply List.map_congr_left
    intro v _
    exact cv_cat X v
  rw [List.map_cons, List.map_cons, List.map_cons, List.map_cons, List.map_cons, cvR, cvR]
  refine va_copyi hC.1 hC.2.1 (hC.2.2.2.1.trans hL.1.symm) hC.2.2.2.2.1 (hC.2.2.2.2.2.1 _ hlk) (hC.2.2.2.2.2.1 _ jn_copy) (hC.2.2.2.2.2.1 _ js_copy) (hC.2.2.2.2.2.1 _ ji_sys) hC.2.2.2.2.2.2.2.1 hW (wl_D X σ) hS c a 0 0 (c0 := X.2.1.1) (c1 := X.2.1.1) (n0 := (AL c).toNat) (n1 := (AL a).toNat) (f := fun j => Int32.ofInt (σ c j)) (g := fun j => Int32.ofInt (σ a j)) (ty := .int) (by rw [wl_at X σ hltc, ent_arr hkc]) (by rw [wl_at X σ hlta, ent_arr hka]) rfl rfl rfl (nn sp h0 (by omega)) (nn dp h1 (by omega)) (nn n h2 (by omega)) (by rw [t1, t3]; omega) (by rw [t2, t3]; omega) (fun i hi => rfl) hf (by rw [hsum]; exact Nat.le_trans (Nat.add_le_add_left (by decide) _) hlo) hd (fun H1 locs1 hP1 hD1 hS1 => ?_)
  refine kk X p l e s m args below meth cd H1 locs1 A hC hE hS1 ?_ hL
  have e : va_cpy (fun j : Nat => Int32.ofInt (σ c j)) (fun j : Nat => Int32.ofInt (σ a j)) sp.toNat dp.toNat n.toNat = (fun j : Nat => Int32.ofInt (cpy σ c sp a dp n a j)) := by
    funext j
    unfold va_cpy cpy
    by_cases hj : dp.toNat ≤ j ∧ j < dp.toNat + n.toNat
    · rw [if_pos hj, if_pos ⟨rfl, by omega, by omega⟩]
      show Int32.ofInt (σ c ((sp.toNat + (j - dp.toNat) : Nat) : Int)) = _
      rw [show (((sp.toNat + (j - dp.toNat) : Nat) : Int)) = sp + ((j : Int) - dp) by omega]
    · rw [if_neg hj, if_neg (fun q => hj (by have := q.2; omega))]
  rw [t1, t2, t3, e, wl_set (fun q hq => cpy_ent hq) (ent_arr hka)] at hP1
  exact hP1
theorem r_min {idx : Nat} {x y : Int} (hd : decode M.2.1 pc = .ok (.invokestatic idx, 3)) (hlk : Cond.methodLink M.1.cls idx Lib.Math.min.name ∈ lw_tbl) (hx : inR x) (hy : inR y) (hf : 1 ≤ Rx.1.frames) (hlo : (st.map catv).sum + 13 ≤ Rx.1.locals) (hz : kz.1 ≤ Rx.1.cells ∧ kz.2 ≤ Rx.1.slots) {w : hpd} (kk : Run M Rx kz (pc + 3) ls (vI (if y < x then y else x) :: st) w) : Run M Rx kz pc ls (vI y :: vI x :: st) w := by
  intro X p l e s m args below meth cd H locs A hC hE hS hW hL
  have hsum : ((st.map (cv X)).map fun v => v.category).sum = (st.map catv).sum := by
    rw [List.map_map]
    congr 1
    apply List.map_congr_left
    intro v _
    exact cv_cat X v
  refine va_mmin hC.1 hC.2.1 (hC.2.2.2.1.trans hL.1.symm) hC.2.2.2.2.1 (hC.2.2.2.2.2.1 _ hlk) (hC.2.2.2.2.2.1 _ js_min) (hC.2.2.2.2.2.1 _ ji_math) (hC.2.2.2.2.2.1 _ jm_min) hf (by rw [hsum]; exact hlo) hz.1 hz.2 hd ?_
  have kk' := kk X p l e s m args below meth cd H locs A hC hE hS hW hL
  by_cases h : y < x
  · rw [if_pos ((i_lt hy hx).mpr h)]
    rw [if_pos h] at kk'
    exact kk'
  · rw [if_neg (fun q => h ((i_lt hy hx).mp q))]
    rw [if_neg h] at kk'
    exact kk'
theorem r_max {idx : Nat} {x y : Int} (hd : decode M.2.1 pc = .ok (.invokestatic idx, 3)) (hlk : Cond.methodLink M.1.cls idx Lib.Math.max.name ∈ lw_tbl) (hx : inR x) (hy : inR y) (hf : 1 ≤ Rx.1.frames) (hlo : (st.map catv).sum + 13 ≤ Rx.1.locals) (hz : kz.1 ≤ Rx.1.cells ∧ kz.2 ≤ Rx.1.slots) {w : hpd} (kk : Run M Rx kz (pc + 3) ls (vI (if x < y then y else x) :: st) w) : Run M Rx kz pc ls (vI y :: vI x :: st) w := by
  intro X p l e s m args below meth cd H locs A hC hE hS hW hL
  have hsum : ((st.map (cv X)).map fun v => v.category).sum = (st.map catv).sum := by
    rw [List.map_map]
    congr 1
    apply List.map_congr_left
    intro v _
    exact cv_cat X v
  refine va_mmax hC.1 hC.2.1 (hC.2.2.2.1.trans hL.1.symm) hC.2.2.2.2.1 (hC.2.2.2.2.2.1 _ hlk) (hC.2.2.2.2.2.1 _ js_max) (hC.2.2.2.2.2.1 _ ji_math) (hC.2.2.2.2.2.1 _ jm_max) hf (by rw [hsum]; exact hlo) hz.1 hz.2 hd ?_
  have kk' := kk X p l e s m args below meth cd H locs A hC hE hS hW hL
  by_cases h : x < y
  · rw [if_pos ((i_lt hx hy).mpr h)]
    rw [if_pos h] at kk'
    exact kk'
  · rw [if_neg (fun q => h ((i_lt hx hy).mp q))]
    rw [if_neg h] at kk'
    exact kk'
end MEM
end
section
-- CALLS over Run
def okw : Cond → Bool := fun w => goodWord w || (match w with
  | .fieldLinkNest .. => true
  | .methodLinkNest .. => true
  | .privateMethod _ => true
  | .arrayOver _ => true
  | _ => false)
theorem lw_ok : lw_tbl.all okw = true := by decide +kernel
theorem lw_warm {args a' : Array Value} {s U : State} (hW : s.WarmedH U.vm) {w : Cond} (hw : w ∈ lw_tbl) (h : w.before args s = true) : w.before a' U = true := by
  have h0 := List.all_eq_true.mp lw_ok w hw
  unfold okw at h0
  rw [Bool.or_eq_true] at h0
  rcases h0 with h0 | h0
  · exact word_at hW (good_of_word h0) h
  · cases w with
    | fieldLinkNest a i b n d g => exact va_Nw.use rfl (va_Nw.warmF hW (va_Nw.of rfl h))
    | methodLinkNest a i x g => exact va_Nw.use rfl (va_Nw.warmM hW (va_Nw.of rfl h))
    | privateMethod x => exact va_tabs (u := s.setVm U.vm) rfl rfl (Cond.before_shiftedFace (State.Shifted.of_warmed hW) (.privateMethod x) rfl h)
    | arrayOver ty =>
      have h1 := h
      rw [← Cond.arrayOver_setVmC (vm' := U.vm) hW.alike] at h1
      exact h1
    | _ => cases h0
def FY (M : mi) (n : Nat) : Prop := plainName M.1.cls = true ∧ (M.1.cls ≠ "java/lang/invoke/MethodHandle" ∧ M.1.cls ≠ "java/lang/invoke/VarHandle") ∧ (parseMethodDescriptor M.1.desc).map (fun d => d.parameters.length) = some n
def VC (M : mi) (n : Nat) : Prop := FY M n ∧ Cond.instanceMethod M.1 ∈ lw_tbl ∧ Cond.selects M.1.cls M.1 M.1 ∈ lw_tbl ∧ Cond.initialized M.1.cls ∈ lw_tbl ∧ Cond.code M.1 M.2.1 M.2.2.1 M.2.2.2 ∈ lw_tbl
def SC (M : mi) (n : Nat) : Prop := FY M n ∧ Cond.static M.1 ∈ lw_tbl ∧ Cond.initialized M.1.cls ∈ lw_tbl ∧ Cond.code M.1 M.2.1 M.2.2.1 M.2.2.2 ∈ lw_tbl
def IC (M : mi) : Prop := FY M 0 ∧ Cond.instanceMethod M.1 ∈ lw_tbl ∧ Cond.initialized M.1.cls ∈ lw_tbl ∧ Cond.code M.1 M.2.1 M.2.2.1 M.2.2.2 ∈ lw_tbl ∧ M.1.name = "<init>" ∧ M.2.2.2 = none
theorem ct_words {My : mi} {s : State} {args : Array Value} (hts : ∀ w ∈ lw_tbl, w.before args s = true) (hcd : Cond.code My.1 My.2.1 My.2.2.1 My.2.2.2 ∈ lw_tbl) : ∀ w ∈ wsM My, ∀ (a' : Array Value) (U : State), s.WarmedH U.vm → w.before a' U = true := by
  intro w hw a' U hW
  rcases List.mem_cons.mp hw with rfl | h
  · exact lw_warm hW hcd (hts _ hcd)
  · exact lw_warm hW h (hts _ h)
theorem fy_len {My : mi} {n : Nat} (h : FY My n) : ∀ sig, parseMethodDescriptor My.1.desc = some sig → n = sig.parameters.length := by
  intro sig hs
  have h2 := h.2.2
  rw [hs] at h2
  exact (Option.some.inj h2).symm
theorem ct_blind {As : List Value} {w : hpd} {X : cx} : FrameBlind (va_Pc As (fun U => w X U.heap ∧ va_K X.1 classes (tysX X) U)) :=
  fun a U g mk q => ⟨q.1, q.2.1, va_K.moved (u := U) (U := U.calling g mk a) (Vm.Alike.refl U.vm) q.2.2⟩
section CAL
variable {M : mi} {Rx : rx} {kz : Nat × Nat} {pc : Nat} {ls st : List av} {σ : sto}
/-- behind a call -/
theorem run_behind {X : cx} {p : Program} {l : Launch} {e : Env} {s : State} {m : MethodId} {args : Array Value} {below : List Frame} {meth : Method} {c : Code} {H : Heap} {locs : List Loc} {A : Array Slot} {mc ms : Nat} {g0 : List Value} {a : Array Value} {Q : Option av → hpd → Prop}
    (hC : Cxt M X p s m args meth c) (hE : Rx.2.1 X s args) (hS : va_S (fun q => X.2.2.1 ≤ q) s.heap H locs) (hL : lrel X M.2.2.1 A ls)
    (hr : va_Run p l e Rx.1 s m args below meth c H locs kz.1 kz.2 mc ms (F0 m pc A g0) (st.map (cv X)) (QQ X Q a) (fun q => X.2.2.1 ≤ q))
    (kk : ∀ v w', Q v w' → Run M Rx (kz.1 + mc, kz.2 + ms) (pc + 3) ls (v.toList ++ st) w') : W p l e Rx.1 s m args below meth c H locs kz.1 kz.2 (Rx.2.2 X below args s) (F0 m pc A g0) := by
  intro T hT Xs
  obtain ⟨v, st₀, t, T', L, h0, X', hLl, e1, e2, ⟨⟨v', w', hv, hq, hw, hkk⟩, hz', hkp⟩, stp⟩ := hr T hT Xs
  cases hv
  rw [h0] at hz' hkp
  obtain ⟨t2, a1, b1⟩ := kk v' w' hq X p l e s m args below meth c T'.heap (locs ++ L) A hC hE ⟨Nat.le_trans hS.1 (by rw [e1]; exact hz'), fun q h1 h2 => by rw [e1, hkp q (Nat.lt_of_lt_of_le h1 hS.1) h2]; exact hS.2.1 q h1 h2, fun q hq => by
      rcases List.mem_append.mp hq with h | h
      · exact hS.2.2 q h
      · exact hLl q h⟩ (by rw [e1]; exact hw) hL T' rfl X'
  refine ⟨t2, stp t2 ?_, b1⟩
  have he : (v'.toList ++ st).map (cv X) = (v'.map (cv X)).toList ++ st.map (cv X) := by cases v' <;> simp
  rw [he] at a1
  exact a1
theorem map_sum {X : cx} (st : List av) : ((st.map (cv X)).map fun v => v.category).sum = (st.map catv).sum := by
  rw [List.map_map]
  congr 1
  apply List.map_congr_left
  intro v _
  exact cv_cat X v
theorem r_callV {My : mi} {lev idx n : Nat} (ci : Nat) {o : Int} {As stk : List av} {Q : Option av → hpd → Prop} (hd : decode M.2.1 pc = .ok (.invokevirtual idx, 3)) (hlk : Cond.methodLink M.1.cls idx My.1 ∈ lw_tbl) (hV : VC My n) (hCt : Ct My lev 0 0 (vR o :: As) (sg σ) Q) (hn : As.length = n) (hst : stk = As.reverse ++ vR o :: st) (hk : KD o = ci) (hcl : (classes[ci]?).map (·.1) = some My.1.cls) (hR : lev + 1 ≤ Rx.1.frames ∧ 8 + (My.2.2.1 + 11) + 64 * lev ≤ Rx.1.locals) (hz : kz.1 ≤ Rx.1.cells ∧ kz.2 ≤ Rx.1.slots) (hro : (st.map catv).sum ≤ 8)
    (kk : ∀ v w', Q v w' → Run M Rx kz (pc + 3) ls (v.toList ++ st) w') : Run M Rx kz pc ls stk (sg σ) := by
  intro X p l e s m args below meth c H locs A hC hE hS hW hL
  subst hst
  obtain ⟨hFY, him, hse, hin, hcd⟩ := hV
  have hts := hC.2.2.2.2.2.1
  obtain ⟨q, hq1, hq2⟩ := Option.map_eq_some_iff.mp hcl
  have hci : ci < 9 := (List.getElem?_eq_some_iff.mp hq1).1
  obtain ⟨b, rfl, hlt⟩ := KD_lt hk (by omega)
  have he : (wl X σ)[b]? = some (X.2.2.1 + b, .inr (ci, (List.range (nfc ci)).map (fun i => if isI ci i then .int (Int32.ofInt (σ b i)) else .ref (X.2.2.1 + (lay b i).toNat)))) := by rw [wl_at X σ hlt, ent_obj hk hci]
  have hrec := va_recv hC.2.2.2.2.2.2.2.1 hW hq1 he
  rw [hq2] at hrec
  have cb : CallB Rx.1 s args M.1.cls idx My.1 My.2.1 My.2.2.1 My.2.2.2 (wsM My) (rmv lev 0 0) 0 0 n := ⟨rfl, rfl, hR.1, hR.2, ct_words hts hcd, List.mem_cons_self, hts _ hcd, hts _ hin, hFY.2.1, fy_len hFY, hts _ hlk⟩
  have hr := va_runV (l := l) (e := e) (below := below) (meth := meth) (H := H) (locs := locs) (cells := kz.1) (slots := kz.2) (As := As.map (cv X)) (b := X.2.2.1 + b) (rest := st.map (cv X)) (g := F0 m pc A ((As.reverse ++ vR (b : Int) :: st).map (cv X))) (C := My.1.cls) (nL := M.2.2.1) ⟨hC.1, hC.2.1, hC.2.2.2.1, hC.2.2.2.2.1, hts⟩ (hCt l X) ⟨cb, hts _ him, hts _ hse⟩ ⟨ct_blind, hrec, fun U hU hWm => ⟨by rw [List.map_cons, cvR], by rw [hU]; exact hW, va_K.moved hWm.alike hC.2.2.2.2.2.2.2.1⟩⟩ rfl (by rw [List.length_map]; exact hn) hL.1 (by rw [List.map_append, List.map_cons, cvR, List.map_reverse]) (lv_room (by rw [map_sum]; exact hro)) hd hz
  exact run_behind hC hE hS hL hr kk
theorem r_callS {My : mi} {lev idx n : Nat} {w : hpd} {As stk : List av} {Q : Option av → hpd → Prop} (hd : decode M.2.1 pc = .ok (.invokestatic idx, 3)) (hlk : Cond.methodLink M.1.cls idx My.1 ∈ lw_tbl) (hV : SC My n) (hCt : Ct My lev 0 0 As w Q) (hn : As.length = n) (hst : stk = As.reverse ++ st) (hR : lev + 1 ≤ Rx.1.frames ∧ 8 + (My.2.2.1 + 11) + 64 * lev ≤ Rx.1.locals) (hz : kz.1 ≤ Rx.1.cells ∧ kz.2 ≤ Rx.1.slots) (hro : (st.map catv).sum ≤ 8)
    (kk : ∀ v w', Q v w' → Run M Rx kz (pc + 3) ls (v.toList ++ st) w') : Run M Rx kz pc ls stk w := by
  intro X p l e s m args below meth c H locs A hC hE hS hW hL
  subst hst
  obtain ⟨hFY, hsta, hin, hcd⟩ := hV
  have hts := hC.2.2.2.2.2.1
  have cb : CallB Rx.1 s args M.1.cls idx My.1 My.2.1 My.2.2.1 My.2.2.2 (wsM My) (rmv lev 0 0) 0 0 n := ⟨rfl, rfl, hR.1, hR.2, ct_words hts hcd, List.mem_cons_self, hts _ hcd, hts _ hin, hFY.2.1, fy_len hFY, hts _ hlk⟩
  have hr := va_runS (l := l) (e := e) (below := below) (meth := meth) (H := H) (locs := locs) (cells := kz.1) (slots := kz.2) (As := As.map (cv X)) (rest := st.map (cv X)) (g := F0 m pc A ((As.reverse ++ st).map (cv X))) (nL := M.2.2.1) ⟨hC.1, hC.2.1, hC.2.2.2.1, hC.2.2.2.2.1, hts⟩ (hCt l X) ⟨cb, hts _ hsta⟩ ⟨ct_blind, fun U hU hWm => ⟨rfl, by rw [hU]; exact hW, va_K.moved hWm.alike hC.2.2.2.2.2.2.2.1⟩⟩ rfl (by rw [List.length_map]; exact hn) hL.1 (by rw [List.map_append, List.map_reverse]) (lv_room (by rw [map_sum]; exact hro)) hd hz
  exact run_behind hC hE hS hL hr kk
end CAL

/-! static methods of the finished world: an int's answer, or none -/
def rxI (lev : Nat) (P : Int → sto → Prop) : rx := rxM lev 0 0 (fun v w' => ∃ (r : Int) (σ' : sto), v = some (vI r) ∧ w' = sg σ' ∧ P r σ')
def rxV (lev : Nat) (P : sto → Prop) : rx := rxM lev 0 0 (fun v w' => ∃ σ' : sto, v = none ∧ w' = sg σ' ∧ P σ')
def CI (M : mi) (lev : Nat) (As : List av) (σ : sto) (P : Int → sto → Prop) : Prop := Ct M lev 0 0 As (sg σ) (fun v w' => ∃ (r : Int) (σ' : sto), v = some (vI r) ∧ w' = sg σ' ∧ P r σ')
def CV (M : mi) (lev : Nat) (As : List av) (σ : sto) (P : sto → Prop) : Prop := Ct M lev 0 0 As (sg σ) (fun v w' => ∃ σ' : sto, v = none ∧ w' = sg σ' ∧ P σ')
theorem ci_of {M : mi} {lev : Nat} {As : List av} {σ : sto} {P : Int → sto → Prop} (ls : List av) (hy : plainName M.1.cls = true) (hls : eLs As ++ List.replicate (M.2.2.1 - (eLs As).length) vU = ls) (hn : (eLs As).length ≤ M.2.2.1) (h : Run M (rxI lev P) (0, 0) 0 ls [] (sg σ)) : CI M lev As σ P := ct_of ls hy hls hn h
theorem cv_of {M : mi} {lev : Nat} {As : List av} {σ : sto} {P : sto → Prop} (ls : List av) (hy : plainName M.1.cls = true) (hls : eLs As ++ List.replicate (M.2.2.1 - (eLs As).length) vU = ls) (hn : (eLs As).length ≤ M.2.2.1) (h : Run M (rxV lev P) (0, 0) 0 ls [] (sg σ)) : CV M lev As σ P := ct_of ls hy hls hn h
section CAL2
variable {M : mi} {Rx : rx} {kz : Nat × Nat} {pc : Nat} {ls st : List av} {σ : sto}
theorem q_iret {lev : Nat} {x : Int} {P : Int → sto → Prop} (hd : decode M.2.1 pc = .ok (.ireturn, 1)) (hr : M.2.2.2 = some .int) (hQ : P x σ) : Run M (rxI lev P) (0, 0) pc ls [vI x] (sg σ) := r_iret hd hr ⟨x, σ, rfl, rfl, hQ⟩
theorem q_zret {lev : Nat} {x : Int} {P : Int → sto → Prop} (hd : decode M.2.1 pc = .ok (.ireturn, 1)) (hr : M.2.2.2 = some .boolean) (hx : x = 0 ∨ x = 1) (hQ : P x σ) : Run M (rxI lev P) (0, 0) pc ls [vI x] (sg σ) := r_zret hd hr hx ⟨x, σ, rfl, rfl, hQ⟩
theorem q_vret {lev : Nat} {P : sto → Prop} (hd : decode M.2.1 pc = .ok (.return_, 1)) (hr : M.2.2.2 = none) (hQ : P σ) : Run M (rxV lev P) (0, 0) pc ls [] (sg σ) := r_vret hd hr ⟨σ, rfl, rfl, hQ⟩
theorem r_cVI {My : mi} {lev idx n : Nat} (ci : Nat) {o : Int} {As stk : List av} {P : Int → sto → Prop} (hd : decode M.2.1 pc = .ok (.invokevirtual idx, 3)) (hlk : Cond.methodLink M.1.cls idx My.1 ∈ lw_tbl) (hV : VC My n) (hCt : CI My lev (vR o :: As) σ P) (hn : As.length = n) (hst : stk = As.reverse ++ vR o :: st) (hk : KD o = ci) (hcl : (classes[ci]?).map (·.1) = some My.1.cls) (hR : lev + 1 ≤ Rx.1.frames ∧ 8 + (My.2.2.1 + 11) + 64 * lev ≤ Rx.1.locals) (hz : kz.1 ≤ Rx.1.cells ∧ kz.2 ≤ Rx.1.slots) (hro : (st.map catv).sum ≤ 8)
    (kk : ∀ (r : Int) (σ' : sto), P r σ' → Run M Rx kz (pc + 3) ls (vI r :: st) (sg σ')) : Run M Rx kz pc ls stk (sg σ) :=
  r_callV ci hd hlk hV hCt hn hst hk hcl hR hz hro (fun v w' h => by obtain ⟨r, σ', rfl, rfl, hP⟩ := h; exact kk r σ' hP)
theorem r_cVV {My : mi} {lev idx n : Nat} (ci : Nat) {o : Int} {As stk : List av} {P : sto → Prop} (hd : decode M.2.1 pc = .ok (.invokevirtual idx, 3)) (hlk : Cond.methodLink M.1.cls idx My.1 ∈ lw_tbl) (hV : VC My n) (hCt : CV My lev (vR o :: As) σ P) (hn : As.length = n) (hst : stk = As.reverse ++ vR o :: st) (hk : KD o = ci) (hcl : (classes[ci]?).map (·.1) = some My.1.cls) (hR : lev + 1 ≤ Rx.1.frames ∧ 8 + (My.2.2.1 + 11) + 64 * lev ≤ Rx.1.locals) (hz : kz.1 ≤ Rx.1.cells ∧ kz.2 ≤ Rx.1.slots) (hro : (st.map catv).sum ≤ 8)
    (kk : ∀ (σ' : sto), P σ' → Run M Rx kz (pc + 3) ls st (sg σ')) : Run M Rx kz pc ls stk (sg σ) :=
  r_callV ci hd hlk hV hCt hn hst hk hcl hR hz hro (fun v w' h => by obtain ⟨σ', rfl, rfl, hP⟩ := h; exact kk σ' hP)
theorem r_cSI {My : mi} {lev idx n : Nat} {As stk : List av} {P : Int → sto → Prop} (hd : decode M.2.1 pc = .ok (.invokestatic idx, 3)) (hlk : Cond.methodLink M.1.cls idx My.1 ∈ lw_tbl) (hV : SC My n) (hCt : CI My lev As σ P) (hn : As.length = n) (hst : stk = As.reverse ++ st) (hR : lev + 1 ≤ Rx.1.frames ∧ 8 + (My.2.2.1 + 11) + 64 * lev ≤ Rx.1.locals) (hz : kz.1 ≤ Rx.1.cells ∧ kz.2 ≤ Rx.1.slots) (hro : (st.map catv).sum ≤ 8)
    (kk : ∀ (r : Int) (σ' : sto), P r σ' → Run M Rx kz (pc + 3) ls (vI r :: st) (sg σ')) : Run M Rx kz pc ls stk (sg σ) :=
  r_callS hd hlk hV hCt hn hst hR hz hro (fun v w' h => by obtain ⟨r, σ', rfl, rfl, hP⟩ := h; exact kk r σ' hP)
end CAL2
end
section
-- FACTS of each method for the rows of calls (written by wip/whole/gen_nam.py)
theorem fy_Van_init : FY M_Van_init 0 := ⟨by decide +kernel, ⟨by decide +kernel, by decide +kernel⟩, by decide +kernel⟩
theorem ic_Van_init : IC M_Van_init := ⟨fy_Van_init, im_Van_init, in_Van_init, cd_Van_init, rfl, rfl⟩
theorem fy_Planner_init : FY M_Planner_init 0 := ⟨by decide +kernel, ⟨by decide +kernel, by decide +kernel⟩, by decide +kernel⟩
theorem ic_Planner_init : IC M_Planner_init := ⟨fy_Planner_init, im_Planner_init, in_Planner_init, cd_Planner_init, rfl, rfl⟩
theorem fy_Trip_init : FY M_Trip_init 0 := ⟨by decide +kernel, ⟨by decide +kernel, by decide +kernel⟩, by decide +kernel⟩
theorem ic_Trip_init : IC M_Trip_init := ⟨fy_Trip_init, im_Trip_init, in_Trip_init, cd_Trip_init, rfl, rfl⟩
theorem fy_Town_init : FY M_Town_init 0 := ⟨by decide +kernel, ⟨by decide +kernel, by decide +kernel⟩, by decide +kernel⟩
theorem ic_Town_init : IC M_Town_init := ⟨fy_Town_init, im_Town_init, in_Town_init, cd_Town_init, rfl, rfl⟩
theorem fy_Stops_init : FY M_Stops_init 0 := ⟨by decide +kernel, ⟨by decide +kernel, by decide +kernel⟩, by decide +kernel⟩
theorem ic_Stops_init : IC M_Stops_init := ⟨fy_Stops_init, im_Stops_init, in_Stops_init, cd_Stops_init, rfl, rfl⟩
theorem fy_Vans_init : FY M_Vans_init 0 := ⟨by decide +kernel, ⟨by decide +kernel, by decide +kernel⟩, by decide +kernel⟩
theorem ic_Vans_init : IC M_Vans_init := ⟨fy_Vans_init, im_Vans_init, in_Vans_init, cd_Vans_init, rfl, rfl⟩
theorem fy_Plan_init : FY M_Plan_init 0 := ⟨by decide +kernel, ⟨by decide +kernel, by decide +kernel⟩, by decide +kernel⟩
theorem ic_Plan_init : IC M_Plan_init := ⟨fy_Plan_init, im_Plan_init, in_Plan_init, cd_Plan_init, rfl, rfl⟩
theorem fy_Past_init : FY M_Past_init 0 := ⟨by decide +kernel, ⟨by decide +kernel, by decide +kernel⟩, by decide +kernel⟩
theorem ic_Past_init : IC M_Past_init := ⟨fy_Past_init, im_Past_init, in_Past_init, cd_Past_init, rfl, rfl⟩
theorem fy_Van_street : FY M_Van_street 3 := ⟨by decide +kernel, ⟨by decide +kernel, by decide +kernel⟩, by decide +kernel⟩
theorem vc_Van_street : VC M_Van_street 3 := ⟨fy_Van_street, im_Van_street, se_Van_street, in_Van_street, cd_Van_street⟩
theorem fy_Van_isPlace : FY M_Van_isPlace 1 := ⟨by decide +kernel, ⟨by decide +kernel, by decide +kernel⟩, by decide +kernel⟩
theorem sc_Van_isPlace : SC M_Van_isPlace 1 := ⟨fy_Van_isPlace, st_Van_isPlace, in_Van_isPlace, cd_Van_isPlace⟩
theorem fy_Van_refuse : FY M_Van_refuse 1 := ⟨by decide +kernel, ⟨by decide +kernel, by decide +kernel⟩, by decide +kernel⟩
theorem vc_Van_refuse : VC M_Van_refuse 1 := ⟨fy_Van_refuse, im_Van_refuse, se_Van_refuse, in_Van_refuse, cd_Van_refuse⟩
theorem fy_Town_hasStreet : FY M_Town_hasStreet 2 := ⟨by decide +kernel, ⟨by decide +kernel, by decide +kernel⟩, by decide +kernel⟩
theorem vc_Town_hasStreet : VC M_Town_hasStreet 2 := ⟨fy_Town_hasStreet, im_Town_hasStreet, se_Town_hasStreet, in_Town_hasStreet, cd_Town_hasStreet⟩
theorem fy_Town_first : FY M_Town_first 2 := ⟨by decide +kernel, ⟨by decide +kernel, by decide +kernel⟩, by decide +kernel⟩
theorem vc_Town_first : VC M_Town_first 2 := ⟨fy_Town_first, im_Town_first, se_Town_first, in_Town_first, cd_Town_first⟩
theorem fy_Town_remember : FY M_Town_remember 2 := ⟨by decide +kernel, ⟨by decide +kernel, by decide +kernel⟩, by decide +kernel⟩
theorem vc_Town_remember : VC M_Town_remember 2 := ⟨fy_Town_remember, im_Town_remember, se_Town_remember, in_Town_remember, cd_Town_remember⟩
theorem fy_Town_setDay : FY M_Town_setDay 3 := ⟨by decide +kernel, ⟨by decide +kernel, by decide +kernel⟩, by decide +kernel⟩
theorem vc_Town_setDay : VC M_Town_setDay 3 := ⟨fy_Town_setDay, im_Town_setDay, se_Town_setDay, in_Town_setDay, cd_Town_setDay⟩
theorem fy_Town_reckon : FY M_Town_reckon 2 := ⟨by decide +kernel, ⟨by decide +kernel, by decide +kernel⟩, by decide +kernel⟩
theorem vc_Town_reckon : VC M_Town_reckon 2 := ⟨fy_Town_reckon, im_Town_reckon, se_Town_reckon, in_Town_reckon, cd_Town_reckon⟩
theorem fy_Town_minutes : FY M_Town_minutes 3 := ⟨by decide +kernel, ⟨by decide +kernel, by decide +kernel⟩, by decide +kernel⟩
theorem vc_Town_minutes : VC M_Town_minutes 3 := ⟨fy_Town_minutes, im_Town_minutes, se_Town_minutes, in_Town_minutes, cd_Town_minutes⟩
theorem fy_Trip_total : FY M_Trip_total 1 := ⟨by decide +kernel, ⟨by decide +kernel, by decide +kernel⟩, by decide +kernel⟩
theorem vc_Trip_total : VC M_Trip_total 1 := ⟨fy_Trip_total, im_Trip_total, se_Trip_total, in_Trip_total, cd_Trip_total⟩
theorem fy_Trip_judge : FY M_Trip_judge 2 := ⟨by decide +kernel, ⟨by decide +kernel, by decide +kernel⟩, by decide +kernel⟩
theorem vc_Trip_judge : VC M_Trip_judge 2 := ⟨fy_Trip_judge, im_Trip_judge, se_Trip_judge, in_Trip_judge, cd_Trip_judge⟩
theorem fy_Trip_isPaired : FY M_Trip_isPaired 2 := ⟨by decide +kernel, ⟨by decide +kernel, by decide +kernel⟩, by decide +kernel⟩
theorem vc_Trip_isPaired : VC M_Trip_isPaired 2 := ⟨fy_Trip_isPaired, im_Trip_isPaired, se_Trip_isPaired, in_Trip_isPaired, cd_Trip_isPaired⟩
theorem fy_Trip_isCarried : FY M_Trip_isCarried 3 := ⟨by decide +kernel, ⟨by decide +kernel, by decide +kernel⟩, by decide +kernel⟩
theorem vc_Trip_isCarried : VC M_Trip_isCarried 3 := ⟨fy_Trip_isCarried, im_Trip_isCarried, se_Trip_isCarried, in_Trip_isCarried, cd_Trip_isCarried⟩
theorem fy_Stops_isAboardAtFirst : FY M_Stops_isAboardAtFirst 1 := ⟨by decide +kernel, ⟨by decide +kernel, by decide +kernel⟩, by decide +kernel⟩
theorem vc_Stops_isAboardAtFirst : VC M_Stops_isAboardAtFirst 1 := ⟨fy_Stops_isAboardAtFirst, im_Stops_isAboardAtFirst, se_Stops_isAboardAtFirst, in_Stops_isAboardAtFirst, cd_Stops_isAboardAtFirst⟩
theorem fy_Stops_amountOf : FY M_Stops_amountOf 1 := ⟨by decide +kernel, ⟨by decide +kernel, by decide +kernel⟩, by decide +kernel⟩
theorem vc_Stops_amountOf : VC M_Stops_amountOf 1 := ⟨fy_Stops_amountOf, im_Stops_amountOf, se_Stops_amountOf, in_Stops_amountOf, cd_Stops_amountOf⟩
theorem fy_Trip_isInTime : FY M_Trip_isInTime 3 := ⟨by decide +kernel, ⟨by decide +kernel, by decide +kernel⟩, by decide +kernel⟩
theorem vc_Trip_isInTime : VC M_Trip_isInTime 3 := ⟨fy_Trip_isInTime, im_Trip_isInTime, se_Trip_isInTime, in_Trip_isInTime, cd_Trip_isInTime⟩
theorem fy_Town_comes : FY M_Town_comes 3 := ⟨by decide +kernel, ⟨by decide +kernel, by decide +kernel⟩, by decide +kernel⟩
theorem vc_Town_comes : VC M_Town_comes 3 := ⟨fy_Town_comes, im_Town_comes, se_Town_comes, in_Town_comes, cd_Town_comes⟩
theorem fy_Town_walk : FY M_Town_walk 3 := ⟨by decide +kernel, ⟨by decide +kernel, by decide +kernel⟩, by decide +kernel⟩
theorem vc_Town_walk : VC M_Town_walk 3 := ⟨fy_Town_walk, im_Town_walk, se_Town_walk, in_Town_walk, cd_Town_walk⟩
theorem fy_Trip_isBack : FY M_Trip_isBack 3 := ⟨by decide +kernel, ⟨by decide +kernel, by decide +kernel⟩, by decide +kernel⟩
theorem vc_Trip_isBack : VC M_Trip_isBack 3 := ⟨fy_Trip_isBack, im_Trip_isBack, se_Trip_isBack, in_Trip_isBack, cd_Trip_isBack⟩
theorem fy_Town_restore : FY M_Town_restore 2 := ⟨by decide +kernel, ⟨by decide +kernel, by decide +kernel⟩, by decide +kernel⟩
theorem vc_Town_restore : VC M_Town_restore 2 := ⟨fy_Town_restore, im_Town_restore, se_Town_restore, in_Town_restore, cd_Town_restore⟩
theorem fy_Past_forget : FY M_Past_forget 0 := ⟨by decide +kernel, ⟨by decide +kernel, by decide +kernel⟩, by decide +kernel⟩
theorem vc_Past_forget : VC M_Past_forget 0 := ⟨fy_Past_forget, im_Past_forget, se_Past_forget, in_Past_forget, cd_Past_forget⟩
theorem fy_Van_slow : FY M_Van_slow 4 := ⟨by decide +kernel, ⟨by decide +kernel, by decide +kernel⟩, by decide +kernel⟩
theorem vc_Van_slow : VC M_Van_slow 4 := ⟨fy_Van_slow, im_Van_slow, se_Van_slow, in_Van_slow, cd_Van_slow⟩
theorem fy_Town_setHour : FY M_Town_setHour 4 := ⟨by decide +kernel, ⟨by decide +kernel, by decide +kernel⟩, by decide +kernel⟩
theorem vc_Town_setHour : VC M_Town_setHour 4 := ⟨fy_Town_setHour, im_Town_setHour, se_Town_setHour, in_Town_setHour, cd_Town_setHour⟩
theorem fy_Van_way : FY M_Van_way 3 := ⟨by decide +kernel, ⟨by decide +kernel, by decide +kernel⟩, by decide +kernel⟩
theorem vc_Van_way : VC M_Van_way 3 := ⟨fy_Van_way, im_Van_way, se_Van_way, in_Van_way, cd_Van_way⟩
theorem fy_Van_stop : FY M_Van_stop 4 := ⟨by decide +kernel, ⟨by decide +kernel, by decide +kernel⟩, by decide +kernel⟩
theorem vc_Van_stop : VC M_Van_stop 4 := ⟨fy_Van_stop, im_Van_stop, se_Van_stop, in_Van_stop, cd_Van_stop⟩
theorem fy_Stops_has : FY M_Stops_has 1 := ⟨by decide +kernel, ⟨by decide +kernel, by decide +kernel⟩, by decide +kernel⟩
theorem vc_Stops_has : VC M_Stops_has 1 := ⟨fy_Stops_has, im_Stops_has, se_Stops_has, in_Stops_has, cd_Stops_has⟩
theorem fy_Plan_vanWith : FY M_Plan_vanWith 1 := ⟨by decide +kernel, ⟨by decide +kernel, by decide +kernel⟩, by decide +kernel⟩
theorem vc_Plan_vanWith : VC M_Plan_vanWith 1 := ⟨fy_Plan_vanWith, im_Plan_vanWith, se_Plan_vanWith, in_Plan_vanWith, cd_Plan_vanWith⟩
theorem fy_Van_isSpan : FY M_Van_isSpan 1 := ⟨by decide +kernel, ⟨by decide +kernel, by decide +kernel⟩, by decide +kernel⟩
theorem sc_Van_isSpan : SC M_Van_isSpan 1 := ⟨fy_Van_isSpan, st_Van_isSpan, in_Van_isSpan, cd_Van_isSpan⟩
theorem fy_Van_isService : FY M_Van_isService 2 := ⟨by decide +kernel, ⟨by decide +kernel, by decide +kernel⟩, by decide +kernel⟩
theorem sc_Van_isService : SC M_Van_isService 2 := ⟨fy_Van_isService, st_Van_isService, in_Van_isService, cd_Van_isService⟩
theorem fy_Stops_add : FY M_Stops_add 3 := ⟨by decide +kernel, ⟨by decide +kernel, by decide +kernel⟩, by decide +kernel⟩
theorem vc_Stops_add : VC M_Stops_add 3 := ⟨fy_Stops_add, im_Stops_add, se_Stops_add, in_Stops_add, cd_Stops_add⟩
theorem fy_Stops_setSpan : FY M_Stops_setSpan 2 := ⟨by decide +kernel, ⟨by decide +kernel, by decide +kernel⟩, by decide +kernel⟩
theorem vc_Stops_setSpan : VC M_Stops_setSpan 2 := ⟨fy_Stops_setSpan, im_Stops_setSpan, se_Stops_setSpan, in_Stops_setSpan, cd_Stops_setSpan⟩
theorem fy_Stops_join : FY M_Stops_join 2 := ⟨by decide +kernel, ⟨by decide +kernel, by decide +kernel⟩, by decide +kernel⟩
theorem vc_Stops_join : VC M_Stops_join 2 := ⟨fy_Stops_join, im_Stops_join, se_Stops_join, in_Stops_join, cd_Stops_join⟩
theorem fy_Van_span : FY M_Van_span 2 := ⟨by decide +kernel, ⟨by decide +kernel, by decide +kernel⟩, by decide +kernel⟩
theorem vc_Van_span : VC M_Van_span 2 := ⟨fy_Van_span, im_Van_span, se_Van_span, in_Van_span, cd_Van_span⟩
theorem fy_Van_price : FY M_Van_price 2 := ⟨by decide +kernel, ⟨by decide +kernel, by decide +kernel⟩, by decide +kernel⟩
theorem vc_Van_price : VC M_Van_price 2 := ⟨fy_Van_price, im_Van_price, se_Van_price, in_Van_price, cd_Van_price⟩
theorem fy_Van_van : FY M_Van_van 3 := ⟨by decide +kernel, ⟨by decide +kernel, by decide +kernel⟩, by decide +kernel⟩
theorem vc_Van_van : VC M_Van_van 3 := ⟨fy_Van_van, im_Van_van, se_Van_van, in_Van_van, cd_Van_van⟩
theorem fy_Vans_add : FY M_Vans_add 2 := ⟨by decide +kernel, ⟨by decide +kernel, by decide +kernel⟩, by decide +kernel⟩
theorem vc_Vans_add : VC M_Vans_add 2 := ⟨fy_Vans_add, im_Vans_add, se_Vans_add, in_Vans_add, cd_Vans_add⟩
theorem fy_Vans_setShift : FY M_Vans_setShift 2 := ⟨by decide +kernel, ⟨by decide +kernel, by decide +kernel⟩, by decide +kernel⟩
theorem vc_Vans_setShift : VC M_Vans_setShift 2 := ⟨fy_Vans_setShift, im_Vans_setShift, se_Vans_setShift, in_Vans_setShift, cd_Vans_setShift⟩
theorem fy_Van_shift : FY M_Van_shift 2 := ⟨by decide +kernel, ⟨by decide +kernel, by decide +kernel⟩, by decide +kernel⟩
theorem vc_Van_shift : VC M_Van_shift 2 := ⟨fy_Van_shift, im_Van_shift, se_Van_shift, in_Van_shift, cd_Van_shift⟩
theorem fy_Vans_has : FY M_Vans_has 1 := ⟨by decide +kernel, ⟨by decide +kernel, by decide +kernel⟩, by decide +kernel⟩
theorem vc_Vans_has : VC M_Vans_has 1 := ⟨fy_Vans_has, im_Vans_has, se_Vans_has, in_Vans_has, cd_Vans_has⟩
theorem fy_Van_look : FY M_Van_look 2 := ⟨by decide +kernel, ⟨by decide +kernel, by decide +kernel⟩, by decide +kernel⟩
theorem vc_Van_look : VC M_Van_look 2 := ⟨fy_Van_look, im_Van_look, se_Van_look, in_Van_look, cd_Van_look⟩
theorem fy_Plan_placeOf : FY M_Plan_placeOf 1 := ⟨by decide +kernel, ⟨by decide +kernel, by decide +kernel⟩, by decide +kernel⟩
theorem vc_Plan_placeOf : VC M_Plan_placeOf 1 := ⟨fy_Plan_placeOf, im_Plan_placeOf, se_Plan_placeOf, in_Plan_placeOf, cd_Plan_placeOf⟩
theorem fy_Van_round : FY M_Van_round 2 := ⟨by decide +kernel, ⟨by decide +kernel, by decide +kernel⟩, by decide +kernel⟩
theorem vc_Van_round : VC M_Van_round 2 := ⟨fy_Van_round, im_Van_round, se_Van_round, in_Van_round, cd_Van_round⟩
theorem fy_Van_when : FY M_Van_when 3 := ⟨by decide +kernel, ⟨by decide +kernel, by decide +kernel⟩, by decide +kernel⟩
theorem vc_Van_when : VC M_Van_when 3 := ⟨fy_Van_when, im_Van_when, se_Van_when, in_Van_when, cd_Van_when⟩
theorem fy_Van_cost : FY M_Van_cost 1 := ⟨by decide +kernel, ⟨by decide +kernel, by decide +kernel⟩, by decide +kernel⟩
theorem vc_Van_cost : VC M_Van_cost 1 := ⟨fy_Van_cost, im_Van_cost, se_Van_cost, in_Van_cost, cd_Van_cost⟩
theorem fy_Van_why : FY M_Van_why 3 := ⟨by decide +kernel, ⟨by decide +kernel, by decide +kernel⟩, by decide +kernel⟩
theorem vc_Van_why : VC M_Van_why 3 := ⟨fy_Van_why, im_Van_why, se_Van_why, in_Van_why, cd_Van_why⟩
theorem fy_Van_isGap : FY M_Van_isGap 2 := ⟨by decide +kernel, ⟨by decide +kernel, by decide +kernel⟩, by decide +kernel⟩
theorem vc_Van_isGap : VC M_Van_isGap 2 := ⟨fy_Van_isGap, im_Van_isGap, se_Van_isGap, in_Van_isGap, cd_Van_isGap⟩
theorem fy_Plan_become : FY M_Plan_become 1 := ⟨by decide +kernel, ⟨by decide +kernel, by decide +kernel⟩, by decide +kernel⟩
theorem vc_Plan_become : VC M_Plan_become 1 := ⟨fy_Plan_become, im_Plan_become, se_Plan_become, in_Plan_become, cd_Plan_become⟩
theorem fy_Plan_insert : FY M_Plan_insert 3 := ⟨by decide +kernel, ⟨by decide +kernel, by decide +kernel⟩, by decide +kernel⟩
theorem vc_Plan_insert : VC M_Plan_insert 3 := ⟨fy_Plan_insert, im_Plan_insert, se_Plan_insert, in_Plan_insert, cd_Plan_insert⟩
theorem fy_Van_where : FY M_Van_where 0 := ⟨by decide +kernel, ⟨by decide +kernel, by decide +kernel⟩, by decide +kernel⟩
theorem vc_Van_where : VC M_Van_where 0 := ⟨fy_Van_where, im_Van_where, se_Van_where, in_Van_where, cd_Van_where⟩
theorem fy_Van_put : FY M_Van_put 3 := ⟨by decide +kernel, ⟨by decide +kernel, by decide +kernel⟩, by decide +kernel⟩
theorem vc_Van_put : VC M_Van_put 3 := ⟨fy_Van_put, im_Van_put, se_Van_put, in_Van_put, cd_Van_put⟩
theorem fy_Van_settle : FY M_Van_settle 0 := ⟨by decide +kernel, ⟨by decide +kernel, by decide +kernel⟩, by decide +kernel⟩
theorem vc_Van_settle : VC M_Van_settle 0 := ⟨fy_Van_settle, im_Van_settle, se_Van_settle, in_Van_settle, cd_Van_settle⟩
theorem fy_Van_adopt : FY M_Van_adopt 0 := ⟨by decide +kernel, ⟨by decide +kernel, by decide +kernel⟩, by decide +kernel⟩
theorem vc_Van_adopt : VC M_Van_adopt 0 := ⟨fy_Van_adopt, im_Van_adopt, se_Van_adopt, in_Van_adopt, cd_Van_adopt⟩
theorem fy_Plan_isLike : FY M_Plan_isLike 1 := ⟨by decide +kernel, ⟨by decide +kernel, by decide +kernel⟩, by decide +kernel⟩
theorem vc_Plan_isLike : VC M_Plan_isLike 1 := ⟨fy_Plan_isLike, im_Plan_isLike, se_Plan_isLike, in_Plan_isLike, cd_Plan_isLike⟩
theorem fy_Past_keep : FY M_Past_keep 1 := ⟨by decide +kernel, ⟨by decide +kernel, by decide +kernel⟩, by decide +kernel⟩
theorem vc_Past_keep : VC M_Past_keep 1 := ⟨fy_Past_keep, im_Past_keep, se_Past_keep, in_Past_keep, cd_Past_keep⟩
theorem fy_Van_pair : FY M_Van_pair 4 := ⟨by decide +kernel, ⟨by decide +kernel, by decide +kernel⟩, by decide +kernel⟩
theorem vc_Van_pair : VC M_Van_pair 4 := ⟨fy_Van_pair, im_Van_pair, se_Van_pair, in_Van_pair, cd_Van_pair⟩
theorem fy_Van_take : FY M_Van_take 1 := ⟨by decide +kernel, ⟨by decide +kernel, by decide +kernel⟩, by decide +kernel⟩
theorem vc_Van_take : VC M_Van_take 1 := ⟨fy_Van_take, im_Van_take, se_Van_take, in_Van_take, cd_Van_take⟩
theorem fy_Plan_remove : FY M_Plan_remove 1 := ⟨by decide +kernel, ⟨by decide +kernel, by decide +kernel⟩, by decide +kernel⟩
theorem vc_Plan_remove : VC M_Plan_remove 1 := ⟨fy_Plan_remove, im_Plan_remove, se_Plan_remove, in_Plan_remove, cd_Plan_remove⟩
theorem fy_Plan_removeAt : FY M_Plan_removeAt 2 := ⟨by decide +kernel, ⟨by decide +kernel, by decide +kernel⟩, by decide +kernel⟩
theorem vc_Plan_removeAt : VC M_Plan_removeAt 2 := ⟨fy_Plan_removeAt, im_Plan_removeAt, se_Plan_removeAt, in_Plan_removeAt, cd_Plan_removeAt⟩
theorem fy_Van_move : FY M_Van_move 3 := ⟨by decide +kernel, ⟨by decide +kernel, by decide +kernel⟩, by decide +kernel⟩
theorem vc_Van_move : VC M_Van_move 3 := ⟨fy_Van_move, im_Van_move, se_Van_move, in_Van_move, cd_Van_move⟩
theorem fy_Van_cross : FY M_Van_cross 4 := ⟨by decide +kernel, ⟨by decide +kernel, by decide +kernel⟩, by decide +kernel⟩
theorem vc_Van_cross : VC M_Van_cross 4 := ⟨fy_Van_cross, im_Van_cross, se_Van_cross, in_Van_cross, cd_Van_cross⟩
theorem fy_Plan_takeEnd : FY M_Plan_takeEnd 5 := ⟨by decide +kernel, ⟨by decide +kernel, by decide +kernel⟩, by decide +kernel⟩
theorem vc_Plan_takeEnd : VC M_Plan_takeEnd 5 := ⟨fy_Plan_takeEnd, im_Plan_takeEnd, se_Plan_takeEnd, in_Plan_takeEnd, cd_Plan_takeEnd⟩
theorem fy_Van_turn : FY M_Van_turn 3 := ⟨by decide +kernel, ⟨by decide +kernel, by decide +kernel⟩, by decide +kernel⟩
theorem vc_Van_turn : VC M_Van_turn 3 := ⟨fy_Van_turn, im_Van_turn, se_Van_turn, in_Van_turn, cd_Van_turn⟩
theorem fy_Van_isTaken : FY M_Van_isTaken 2 := ⟨by decide +kernel, ⟨by decide +kernel, by decide +kernel⟩, by decide +kernel⟩
theorem vc_Van_isTaken : VC M_Van_isTaken 2 := ⟨fy_Van_isTaken, im_Van_isTaken, se_Van_isTaken, in_Van_isTaken, cd_Van_isTaken⟩
theorem fy_Plan_reverse : FY M_Plan_reverse 3 := ⟨by decide +kernel, ⟨by decide +kernel, by decide +kernel⟩, by decide +kernel⟩
theorem vc_Plan_reverse : VC M_Plan_reverse 3 := ⟨fy_Plan_reverse, im_Plan_reverse, se_Plan_reverse, in_Plan_reverse, cd_Plan_reverse⟩
theorem fy_Van_build : FY M_Van_build 0 := ⟨by decide +kernel, ⟨by decide +kernel, by decide +kernel⟩, by decide +kernel⟩
theorem vc_Van_build : VC M_Van_build 0 := ⟨fy_Van_build, im_Van_build, se_Van_build, in_Van_build, cd_Van_build⟩
theorem fy_Plan_size : FY M_Plan_size 0 := ⟨by decide +kernel, ⟨by decide +kernel, by decide +kernel⟩, by decide +kernel⟩
theorem vc_Plan_size : VC M_Plan_size 0 := ⟨fy_Plan_size, im_Plan_size, se_Plan_size, in_Plan_size, cd_Plan_size⟩
theorem fy_Planner_findPut : FY M_Planner_findPut 0 := ⟨by decide +kernel, ⟨by decide +kernel, by decide +kernel⟩, by decide +kernel⟩
theorem vc_Planner_findPut : VC M_Planner_findPut 0 := ⟨fy_Planner_findPut, im_Planner_findPut, se_Planner_findPut, in_Planner_findPut, cd_Planner_findPut⟩
theorem fy_Planner_tryPuts : FY M_Planner_tryPuts 2 := ⟨by decide +kernel, ⟨by decide +kernel, by decide +kernel⟩, by decide +kernel⟩
theorem vc_Planner_tryPuts : VC M_Planner_tryPuts 2 := ⟨fy_Planner_tryPuts, im_Planner_tryPuts, se_Planner_tryPuts, in_Planner_tryPuts, cd_Planner_tryPuts⟩
theorem fy_Planner_weighPut : FY M_Planner_weighPut 5 := ⟨by decide +kernel, ⟨by decide +kernel, by decide +kernel⟩, by decide +kernel⟩
theorem vc_Planner_weighPut : VC M_Planner_weighPut 5 := ⟨fy_Planner_weighPut, im_Planner_weighPut, se_Planner_weighPut, in_Planner_weighPut, cd_Planner_weighPut⟩
theorem fy_Planner_doPut : FY M_Planner_doPut 0 := ⟨by decide +kernel, ⟨by decide +kernel, by decide +kernel⟩, by decide +kernel⟩
theorem vc_Planner_doPut : VC M_Planner_doPut 0 := ⟨fy_Planner_doPut, im_Planner_doPut, se_Planner_doPut, in_Planner_doPut, cd_Planner_doPut⟩
theorem fy_Van_better : FY M_Van_better 1 := ⟨by decide +kernel, ⟨by decide +kernel, by decide +kernel⟩, by decide +kernel⟩
theorem vc_Van_better : VC M_Van_better 1 := ⟨fy_Van_better, im_Van_better, se_Van_better, in_Van_better, cd_Van_better⟩
theorem fy_Planner_improve : FY M_Planner_improve 0 := ⟨by decide +kernel, ⟨by decide +kernel, by decide +kernel⟩, by decide +kernel⟩
theorem vc_Planner_improve : VC M_Planner_improve 0 := ⟨fy_Planner_improve, im_Planner_improve, se_Planner_improve, in_Planner_improve, cd_Planner_improve⟩
theorem fy_Planner_moveToLess : FY M_Planner_moveToLess 2 := ⟨by decide +kernel, ⟨by decide +kernel, by decide +kernel⟩, by decide +kernel⟩
theorem vc_Planner_moveToLess : VC M_Planner_moveToLess 2 := ⟨fy_Planner_moveToLess, im_Planner_moveToLess, se_Planner_moveToLess, in_Planner_moveToLess, cd_Planner_moveToLess⟩
theorem fy_Van_least : FY M_Van_least 0 := ⟨by decide +kernel, ⟨by decide +kernel, by decide +kernel⟩, by decide +kernel⟩
theorem vc_Van_least : VC M_Van_least 0 := ⟨fy_Van_least, im_Van_least, se_Van_least, in_Van_least, cd_Van_least⟩
theorem fy_Planner_seekLeast : FY M_Planner_seekLeast 0 := ⟨by decide +kernel, ⟨by decide +kernel, by decide +kernel⟩, by decide +kernel⟩
theorem vc_Planner_seekLeast : VC M_Planner_seekLeast 0 := ⟨fy_Planner_seekLeast, im_Planner_seekLeast, se_Planner_seekLeast, in_Planner_seekLeast, cd_Planner_seekLeast⟩
theorem fy_Plan_empty : FY M_Plan_empty 0 := ⟨by decide +kernel, ⟨by decide +kernel, by decide +kernel⟩, by decide +kernel⟩
theorem vc_Plan_empty : VC M_Plan_empty 0 := ⟨fy_Plan_empty, im_Plan_empty, se_Plan_empty, in_Plan_empty, cd_Plan_empty⟩
theorem fy_Planner_extend : FY M_Planner_extend 3 := ⟨by decide +kernel, ⟨by decide +kernel, by decide +kernel⟩, by decide +kernel⟩
theorem vc_Planner_extend : VC M_Planner_extend 3 := ⟨fy_Planner_extend, im_Planner_extend, se_Planner_extend, in_Planner_extend, cd_Planner_extend⟩
theorem fy_Planner_weighPlan : FY M_Planner_weighPlan 1 := ⟨by decide +kernel, ⟨by decide +kernel, by decide +kernel⟩, by decide +kernel⟩
theorem vc_Planner_weighPlan : VC M_Planner_weighPlan 1 := ⟨fy_Planner_weighPlan, im_Planner_weighPlan, se_Planner_weighPlan, in_Planner_weighPlan, cd_Planner_weighPlan⟩
theorem fy_Trip_mustsIn : FY M_Trip_mustsIn 1 := ⟨by decide +kernel, ⟨by decide +kernel, by decide +kernel⟩, by decide +kernel⟩
theorem vc_Trip_mustsIn : VC M_Trip_mustsIn 1 := ⟨fy_Trip_mustsIn, im_Trip_mustsIn, se_Trip_mustsIn, in_Trip_mustsIn, cd_Trip_mustsIn⟩
theorem fy_Van_undo : FY M_Van_undo 0 := ⟨by decide +kernel, ⟨by decide +kernel, by decide +kernel⟩, by decide +kernel⟩
theorem vc_Van_undo : VC M_Van_undo 0 := ⟨fy_Van_undo, im_Van_undo, se_Van_undo, in_Van_undo, cd_Van_undo⟩
theorem fy_Past_bringBack : FY M_Past_bringBack 1 := ⟨by decide +kernel, ⟨by decide +kernel, by decide +kernel⟩, by decide +kernel⟩
theorem vc_Past_bringBack : VC M_Past_bringBack 1 := ⟨fy_Past_bringBack, im_Past_bringBack, se_Past_bringBack, in_Past_bringBack, cd_Past_bringBack⟩
theorem fy_Van_clear : FY M_Van_clear 0 := ⟨by decide +kernel, ⟨by decide +kernel, by decide +kernel⟩, by decide +kernel⟩
theorem vc_Van_clear : VC M_Van_clear 0 := ⟨fy_Van_clear, im_Van_clear, se_Van_clear, in_Van_clear, cd_Van_clear⟩
theorem fy_Van_count : FY M_Van_count 1 := ⟨by decide +kernel, ⟨by decide +kernel, by decide +kernel⟩, by decide +kernel⟩
theorem vc_Van_count : VC M_Van_count 1 := ⟨fy_Van_count, im_Van_count, se_Van_count, in_Van_count, cd_Van_count⟩
theorem fy_Stops_musts : FY M_Stops_musts 0 := ⟨by decide +kernel, ⟨by decide +kernel, by decide +kernel⟩, by decide +kernel⟩
theorem vc_Stops_musts : VC M_Stops_musts 0 := ⟨fy_Stops_musts, im_Stops_musts, se_Stops_musts, in_Stops_musts, cd_Stops_musts⟩
theorem fy_Van_totalWaiting : FY M_Van_totalWaiting 0 := ⟨by decide +kernel, ⟨by decide +kernel, by decide +kernel⟩, by decide +kernel⟩
theorem vc_Van_totalWaiting : VC M_Van_totalWaiting 0 := ⟨fy_Van_totalWaiting, im_Van_totalWaiting, se_Van_totalWaiting, in_Van_totalWaiting, cd_Van_totalWaiting⟩
theorem fy_Van_totalLateness : FY M_Van_totalLateness 0 := ⟨by decide +kernel, ⟨by decide +kernel, by decide +kernel⟩, by decide +kernel⟩
theorem vc_Van_totalLateness : VC M_Van_totalLateness 0 := ⟨fy_Van_totalLateness, im_Van_totalLateness, se_Van_totalLateness, in_Van_totalLateness, cd_Van_totalLateness⟩
theorem fy_Van_lay : FY M_Van_lay 1 := ⟨by decide +kernel, ⟨by decide +kernel, by decide +kernel⟩, by decide +kernel⟩
theorem vc_Van_lay : VC M_Van_lay 1 := ⟨fy_Van_lay, im_Van_lay, se_Van_lay, in_Van_lay, cd_Van_lay⟩
theorem fy_Van_tear : FY M_Van_tear 0 := ⟨by decide +kernel, ⟨by decide +kernel, by decide +kernel⟩, by decide +kernel⟩
theorem vc_Van_tear : VC M_Van_tear 0 := ⟨fy_Van_tear, im_Van_tear, se_Van_tear, in_Van_tear, cd_Van_tear⟩
theorem fy_Van_row : FY M_Van_row 1 := ⟨by decide +kernel, ⟨by decide +kernel, by decide +kernel⟩, by decide +kernel⟩
theorem vc_Van_row : VC M_Van_row 1 := ⟨fy_Van_row, im_Van_row, se_Van_row, in_Van_row, cd_Van_row⟩
theorem fy_Van_copy : FY M_Van_copy 3 := ⟨by decide +kernel, ⟨by decide +kernel, by decide +kernel⟩, by decide +kernel⟩
theorem vc_Van_copy : VC M_Van_copy 3 := ⟨fy_Van_copy, im_Van_copy, se_Van_copy, in_Van_copy, cd_Van_copy⟩
theorem fy_Van_status : FY M_Van_status 1 := ⟨by decide +kernel, ⟨by decide +kernel, by decide +kernel⟩, by decide +kernel⟩
theorem vc_Van_status : VC M_Van_status 1 := ⟨fy_Van_status, im_Van_status, se_Van_status, in_Van_status, cd_Van_status⟩
theorem fy_Mod_init : FY M_Mod_init 0 := ⟨by decide +kernel, ⟨by decide +kernel, by decide +kernel⟩, by decide +kernel⟩
theorem ic_Mod_init : IC M_Mod_init := ⟨fy_Mod_init, im_Mod_init, in_Mod_init, cd_Mod_init, rfl, rfl⟩
theorem fy_Mod_way : FY M_Mod_way 3 := ⟨by decide +kernel, ⟨by decide +kernel, by decide +kernel⟩, by decide +kernel⟩
theorem vc_Mod_way : VC M_Mod_way 3 := ⟨fy_Mod_way, im_Mod_way, se_Mod_way, in_Mod_way, cd_Mod_way⟩
theorem fy_Mod_isPlace : FY M_Mod_isPlace 1 := ⟨by decide +kernel, ⟨by decide +kernel, by decide +kernel⟩, by decide +kernel⟩
theorem sc_Mod_isPlace : SC M_Mod_isPlace 1 := ⟨fy_Mod_isPlace, st_Mod_isPlace, in_Mod_isPlace, cd_Mod_isPlace⟩
theorem fy_Mod_isIn : FY M_Mod_isIn 3 := ⟨by decide +kernel, ⟨by decide +kernel, by decide +kernel⟩, by decide +kernel⟩
theorem sc_Mod_isIn : SC M_Mod_isIn 3 := ⟨fy_Mod_isIn, st_Mod_isIn, in_Mod_isIn, cd_Mod_isIn⟩
theorem fy_Mod_no : FY M_Mod_no 1 := ⟨by decide +kernel, ⟨by decide +kernel, by decide +kernel⟩, by decide +kernel⟩
theorem vc_Mod_no : VC M_Mod_no 1 := ⟨fy_Mod_no, im_Mod_no, se_Mod_no, in_Mod_no, cd_Mod_no⟩
theorem fy_Mod_wayOf : FY M_Mod_wayOf 3 := ⟨by decide +kernel, ⟨by decide +kernel, by decide +kernel⟩, by decide +kernel⟩
theorem vc_Mod_wayOf : VC M_Mod_wayOf 3 := ⟨fy_Mod_wayOf, im_Mod_wayOf, se_Mod_wayOf, in_Mod_wayOf, cd_Mod_wayOf⟩
theorem fy_Mod_over : FY M_Mod_over 3 := ⟨by decide +kernel, ⟨by decide +kernel, by decide +kernel⟩, by decide +kernel⟩
theorem vc_Mod_over : VC M_Mod_over 3 := ⟨fy_Mod_over, im_Mod_over, se_Mod_over, in_Mod_over, cd_Mod_over⟩
theorem fy_Mod_at : FY M_Mod_at 3 := ⟨by decide +kernel, ⟨by decide +kernel, by decide +kernel⟩, by decide +kernel⟩
theorem sc_Mod_at : SC M_Mod_at 3 := ⟨fy_Mod_at, st_Mod_at, in_Mod_at, cd_Mod_at⟩
theorem fy_Mod_street : FY M_Mod_street 3 := ⟨by decide +kernel, ⟨by decide +kernel, by decide +kernel⟩, by decide +kernel⟩
theorem vc_Mod_street : VC M_Mod_street 3 := ⟨fy_Mod_street, im_Mod_street, se_Mod_street, in_Mod_street, cd_Mod_street⟩
theorem fy_Mod_tells : FY M_Mod_tells 5 := ⟨by decide +kernel, ⟨by decide +kernel, by decide +kernel⟩, by decide +kernel⟩
theorem vc_Mod_tells : VC M_Mod_tells 5 := ⟨fy_Mod_tells, im_Mod_tells, se_Mod_tells, in_Mod_tells, cd_Mod_tells⟩
theorem fy_Mod_allFit : FY M_Mod_allFit 0 := ⟨by decide +kernel, ⟨by decide +kernel, by decide +kernel⟩, by decide +kernel⟩
theorem vc_Mod_allFit : VC M_Mod_allFit 0 := ⟨fy_Mod_allFit, im_Mod_allFit, se_Mod_allFit, in_Mod_allFit, cd_Mod_allFit⟩
theorem fy_Mod_fits : FY M_Mod_fits 1 := ⟨by decide +kernel, ⟨by decide +kernel, by decide +kernel⟩, by decide +kernel⟩
theorem vc_Mod_fits : VC M_Mod_fits 1 := ⟨fy_Mod_fits, im_Mod_fits, se_Mod_fits, in_Mod_fits, cd_Mod_fits⟩
theorem fy_Mod_pairs : FY M_Mod_pairs 1 := ⟨by decide +kernel, ⟨by decide +kernel, by decide +kernel⟩, by decide +kernel⟩
theorem vc_Mod_pairs : VC M_Mod_pairs 1 := ⟨fy_Mod_pairs, im_Mod_pairs, se_Mod_pairs, in_Mod_pairs, cd_Mod_pairs⟩
theorem fy_Mod_stands : FY M_Mod_stands 4 := ⟨by decide +kernel, ⟨by decide +kernel, by decide +kernel⟩, by decide +kernel⟩
theorem vc_Mod_stands : VC M_Mod_stands 4 := ⟨fy_Mod_stands, im_Mod_stands, se_Mod_stands, in_Mod_stands, cd_Mod_stands⟩
theorem fy_Mod_fails : FY M_Mod_fails 2 := ⟨by decide +kernel, ⟨by decide +kernel, by decide +kernel⟩, by decide +kernel⟩
theorem vc_Mod_fails : VC M_Mod_fails 2 := ⟨fy_Mod_fails, im_Mod_fails, se_Mod_fails, in_Mod_fails, cd_Mod_fails⟩
theorem fy_Mod_loads : FY M_Mod_loads 1 := ⟨by decide +kernel, ⟨by decide +kernel, by decide +kernel⟩, by decide +kernel⟩
theorem vc_Mod_loads : VC M_Mod_loads 1 := ⟨fy_Mod_loads, im_Mod_loads, se_Mod_loads, in_Mod_loads, cd_Mod_loads⟩
theorem fy_Mod_goes : FY M_Mod_goes 1 := ⟨by decide +kernel, ⟨by decide +kernel, by decide +kernel⟩, by decide +kernel⟩
theorem vc_Mod_goes : VC M_Mod_goes 1 := ⟨fy_Mod_goes, im_Mod_goes, se_Mod_goes, in_Mod_goes, cd_Mod_goes⟩
theorem fy_Mod_slow : FY M_Mod_slow 4 := ⟨by decide +kernel, ⟨by decide +kernel, by decide +kernel⟩, by decide +kernel⟩
theorem vc_Mod_slow : VC M_Mod_slow 4 := ⟨fy_Mod_slow, im_Mod_slow, se_Mod_slow, in_Mod_slow, cd_Mod_slow⟩
theorem fy_Mod_stop : FY M_Mod_stop 4 := ⟨by decide +kernel, ⟨by decide +kernel, by decide +kernel⟩, by decide +kernel⟩
theorem vc_Mod_stop : VC M_Mod_stop 4 := ⟨fy_Mod_stop, im_Mod_stop, se_Mod_stop, in_Mod_stop, cd_Mod_stop⟩
theorem fy_Mod_isStop : FY M_Mod_isStop 1 := ⟨by decide +kernel, ⟨by decide +kernel, by decide +kernel⟩, by decide +kernel⟩
theorem vc_Mod_isStop : VC M_Mod_isStop 1 := ⟨fy_Mod_isStop, im_Mod_isStop, se_Mod_isStop, in_Mod_isStop, cd_Mod_isStop⟩
theorem fy_Mod_isSpan : FY M_Mod_isSpan 1 := ⟨by decide +kernel, ⟨by decide +kernel, by decide +kernel⟩, by decide +kernel⟩
theorem sc_Mod_isSpan : SC M_Mod_isSpan 1 := ⟨fy_Mod_isSpan, st_Mod_isSpan, in_Mod_isSpan, cd_Mod_isSpan⟩
theorem fy_Mod_vanOf : FY M_Mod_vanOf 1 := ⟨by decide +kernel, ⟨by decide +kernel, by decide +kernel⟩, by decide +kernel⟩
theorem vc_Mod_vanOf : VC M_Mod_vanOf 1 := ⟨fy_Mod_vanOf, im_Mod_vanOf, se_Mod_vanOf, in_Mod_vanOf, cd_Mod_vanOf⟩
theorem fy_Mod_span : FY M_Mod_span 2 := ⟨by decide +kernel, ⟨by decide +kernel, by decide +kernel⟩, by decide +kernel⟩
theorem vc_Mod_span : VC M_Mod_span 2 := ⟨fy_Mod_span, im_Mod_span, se_Mod_span, in_Mod_span, cd_Mod_span⟩
theorem fy_Mod_price : FY M_Mod_price 2 := ⟨by decide +kernel, ⟨by decide +kernel, by decide +kernel⟩, by decide +kernel⟩
theorem vc_Mod_price : VC M_Mod_price 2 := ⟨fy_Mod_price, im_Mod_price, se_Mod_price, in_Mod_price, cd_Mod_price⟩
theorem fy_Mod_van : FY M_Mod_van 3 := ⟨by decide +kernel, ⟨by decide +kernel, by decide +kernel⟩, by decide +kernel⟩
theorem vc_Mod_van : VC M_Mod_van 3 := ⟨fy_Mod_van, im_Mod_van, se_Mod_van, in_Mod_van, cd_Mod_van⟩
theorem fy_Mod_shift : FY M_Mod_shift 2 := ⟨by decide +kernel, ⟨by decide +kernel, by decide +kernel⟩, by decide +kernel⟩
theorem vc_Mod_shift : VC M_Mod_shift 2 := ⟨fy_Mod_shift, im_Mod_shift, se_Mod_shift, in_Mod_shift, cd_Mod_shift⟩
theorem fy_Mod_isVan : FY M_Mod_isVan 1 := ⟨by decide +kernel, ⟨by decide +kernel, by decide +kernel⟩, by decide +kernel⟩
theorem vc_Mod_isVan : VC M_Mod_isVan 1 := ⟨fy_Mod_isVan, im_Mod_isVan, se_Mod_isVan, in_Mod_isVan, cd_Mod_isVan⟩
theorem fy_Mod_look : FY M_Mod_look 2 := ⟨by decide +kernel, ⟨by decide +kernel, by decide +kernel⟩, by decide +kernel⟩
theorem vc_Mod_look : VC M_Mod_look 2 := ⟨fy_Mod_look, im_Mod_look, se_Mod_look, in_Mod_look, cd_Mod_look⟩
theorem fy_Mod_placeOf : FY M_Mod_placeOf 1 := ⟨by decide +kernel, ⟨by decide +kernel, by decide +kernel⟩, by decide +kernel⟩
theorem vc_Mod_placeOf : VC M_Mod_placeOf 1 := ⟨fy_Mod_placeOf, im_Mod_placeOf, se_Mod_placeOf, in_Mod_placeOf, cd_Mod_placeOf⟩
theorem fy_Mod_round : FY M_Mod_round 2 := ⟨by decide +kernel, ⟨by decide +kernel, by decide +kernel⟩, by decide +kernel⟩
theorem vc_Mod_round : VC M_Mod_round 2 := ⟨fy_Mod_round, im_Mod_round, se_Mod_round, in_Mod_round, cd_Mod_round⟩
theorem fy_Mod_when : FY M_Mod_when 3 := ⟨by decide +kernel, ⟨by decide +kernel, by decide +kernel⟩, by decide +kernel⟩
theorem vc_Mod_when : VC M_Mod_when 3 := ⟨fy_Mod_when, im_Mod_when, se_Mod_when, in_Mod_when, cd_Mod_when⟩
theorem fy_Mod_cost : FY M_Mod_cost 1 := ⟨by decide +kernel, ⟨by decide +kernel, by decide +kernel⟩, by decide +kernel⟩
theorem vc_Mod_cost : VC M_Mod_cost 1 := ⟨fy_Mod_cost, im_Mod_cost, se_Mod_cost, in_Mod_cost, cd_Mod_cost⟩
theorem fy_Mod_costAll : FY M_Mod_costAll 0 := ⟨by decide +kernel, ⟨by decide +kernel, by decide +kernel⟩, by decide +kernel⟩
theorem vc_Mod_costAll : VC M_Mod_costAll 0 := ⟨fy_Mod_costAll, im_Mod_costAll, se_Mod_costAll, in_Mod_costAll, cd_Mod_costAll⟩
theorem fy_Mod_costOf : FY M_Mod_costOf 1 := ⟨by decide +kernel, ⟨by decide +kernel, by decide +kernel⟩, by decide +kernel⟩
theorem vc_Mod_costOf : VC M_Mod_costOf 1 := ⟨fy_Mod_costOf, im_Mod_costOf, se_Mod_costOf, in_Mod_costOf, cd_Mod_costOf⟩
theorem fy_Mod_why : FY M_Mod_why 3 := ⟨by decide +kernel, ⟨by decide +kernel, by decide +kernel⟩, by decide +kernel⟩
theorem vc_Mod_why : VC M_Mod_why 3 := ⟨fy_Mod_why, im_Mod_why, se_Mod_why, in_Mod_why, cd_Mod_why⟩
theorem fy_Mod_puts : FY M_Mod_puts 3 := ⟨by decide +kernel, ⟨by decide +kernel, by decide +kernel⟩, by decide +kernel⟩
theorem vc_Mod_puts : VC M_Mod_puts 3 := ⟨fy_Mod_puts, im_Mod_puts, se_Mod_puts, in_Mod_puts, cd_Mod_puts⟩
theorem fy_Mod_takesOut : FY M_Mod_takesOut 1 := ⟨by decide +kernel, ⟨by decide +kernel, by decide +kernel⟩, by decide +kernel⟩
theorem vc_Mod_takesOut : VC M_Mod_takesOut 1 := ⟨fy_Mod_takesOut, im_Mod_takesOut, se_Mod_takesOut, in_Mod_takesOut, cd_Mod_takesOut⟩
theorem fy_Mod_where : FY M_Mod_where 0 := ⟨by decide +kernel, ⟨by decide +kernel, by decide +kernel⟩, by decide +kernel⟩
theorem vc_Mod_where : VC M_Mod_where 0 := ⟨fy_Mod_where, im_Mod_where, se_Mod_where, in_Mod_where, cd_Mod_where⟩
theorem fy_Mod_put : FY M_Mod_put 3 := ⟨by decide +kernel, ⟨by decide +kernel, by decide +kernel⟩, by decide +kernel⟩
theorem vc_Mod_put : VC M_Mod_put 3 := ⟨fy_Mod_put, im_Mod_put, se_Mod_put, in_Mod_put, cd_Mod_put⟩
theorem fy_Mod_keeps : FY M_Mod_keeps 2 := ⟨by decide +kernel, ⟨by decide +kernel, by decide +kernel⟩, by decide +kernel⟩
theorem vc_Mod_keeps : VC M_Mod_keeps 2 := ⟨fy_Mod_keeps, im_Mod_keeps, se_Mod_keeps, in_Mod_keeps, cd_Mod_keeps⟩
theorem fy_Mod_settles : FY M_Mod_settles 0 := ⟨by decide +kernel, ⟨by decide +kernel, by decide +kernel⟩, by decide +kernel⟩
theorem vc_Mod_settles : VC M_Mod_settles 0 := ⟨fy_Mod_settles, im_Mod_settles, se_Mod_settles, in_Mod_settles, cd_Mod_settles⟩
theorem fy_Mod_takes : FY M_Mod_takes 2 := ⟨by decide +kernel, ⟨by decide +kernel, by decide +kernel⟩, by decide +kernel⟩
theorem vc_Mod_takes : VC M_Mod_takes 2 := ⟨fy_Mod_takes, im_Mod_takes, se_Mod_takes, in_Mod_takes, cd_Mod_takes⟩
theorem fy_Mod_notes : FY M_Mod_notes 0 := ⟨by decide +kernel, ⟨by decide +kernel, by decide +kernel⟩, by decide +kernel⟩
theorem vc_Mod_notes : VC M_Mod_notes 0 := ⟨fy_Mod_notes, im_Mod_notes, se_Mod_notes, in_Mod_notes, cd_Mod_notes⟩
theorem fy_Mod_isAs : FY M_Mod_isAs 2 := ⟨by decide +kernel, ⟨by decide +kernel, by decide +kernel⟩, by decide +kernel⟩
theorem vc_Mod_isAs : VC M_Mod_isAs 2 := ⟨fy_Mod_isAs, im_Mod_isAs, se_Mod_isAs, in_Mod_isAs, cd_Mod_isAs⟩
theorem fy_Mod_pair : FY M_Mod_pair 4 := ⟨by decide +kernel, ⟨by decide +kernel, by decide +kernel⟩, by decide +kernel⟩
theorem vc_Mod_pair : VC M_Mod_pair 4 := ⟨fy_Mod_pair, im_Mod_pair, se_Mod_pair, in_Mod_pair, cd_Mod_pair⟩
theorem fy_Mod_take : FY M_Mod_take 1 := ⟨by decide +kernel, ⟨by decide +kernel, by decide +kernel⟩, by decide +kernel⟩
theorem vc_Mod_take : VC M_Mod_take 1 := ⟨fy_Mod_take, im_Mod_take, se_Mod_take, in_Mod_take, cd_Mod_take⟩
theorem fy_Mod_move : FY M_Mod_move 3 := ⟨by decide +kernel, ⟨by decide +kernel, by decide +kernel⟩, by decide +kernel⟩
theorem vc_Mod_move : VC M_Mod_move 3 := ⟨fy_Mod_move, im_Mod_move, se_Mod_move, in_Mod_move, cd_Mod_move⟩
theorem fy_Mod_cross : FY M_Mod_cross 4 := ⟨by decide +kernel, ⟨by decide +kernel, by decide +kernel⟩, by decide +kernel⟩
theorem vc_Mod_cross : VC M_Mod_cross 4 := ⟨fy_Mod_cross, im_Mod_cross, se_Mod_cross, in_Mod_cross, cd_Mod_cross⟩
theorem fy_Mod_turn : FY M_Mod_turn 3 := ⟨by decide +kernel, ⟨by decide +kernel, by decide +kernel⟩, by decide +kernel⟩
theorem vc_Mod_turn : VC M_Mod_turn 3 := ⟨fy_Mod_turn, im_Mod_turn, se_Mod_turn, in_Mod_turn, cd_Mod_turn⟩
theorem fy_Mod_build : FY M_Mod_build 0 := ⟨by decide +kernel, ⟨by decide +kernel, by decide +kernel⟩, by decide +kernel⟩
theorem vc_Mod_build : VC M_Mod_build 0 := ⟨fy_Mod_build, im_Mod_build, se_Mod_build, in_Mod_build, cd_Mod_build⟩
theorem fy_Mod_triesAll : FY M_Mod_triesAll 2 := ⟨by decide +kernel, ⟨by decide +kernel, by decide +kernel⟩, by decide +kernel⟩
theorem vc_Mod_triesAll : VC M_Mod_triesAll 2 := ⟨fy_Mod_triesAll, im_Mod_triesAll, se_Mod_triesAll, in_Mod_triesAll, cd_Mod_triesAll⟩
theorem fy_Mod_looksAt : FY M_Mod_looksAt 5 := ⟨by decide +kernel, ⟨by decide +kernel, by decide +kernel⟩, by decide +kernel⟩
theorem vc_Mod_looksAt : VC M_Mod_looksAt 5 := ⟨fy_Mod_looksAt, im_Mod_looksAt, se_Mod_looksAt, in_Mod_looksAt, cd_Mod_looksAt⟩
theorem fy_Mod_better : FY M_Mod_better 1 := ⟨by decide +kernel, ⟨by decide +kernel, by decide +kernel⟩, by decide +kernel⟩
theorem vc_Mod_better : VC M_Mod_better 1 := ⟨fy_Mod_better, im_Mod_better, se_Mod_better, in_Mod_better, cd_Mod_better⟩
theorem fy_Mod_isBettered : FY M_Mod_isBettered 0 := ⟨by decide +kernel, ⟨by decide +kernel, by decide +kernel⟩, by decide +kernel⟩
theorem vc_Mod_isBettered : VC M_Mod_isBettered 0 := ⟨fy_Mod_isBettered, im_Mod_isBettered, se_Mod_isBettered, in_Mod_isBettered, cd_Mod_isBettered⟩
theorem fy_Mod_least : FY M_Mod_least 0 := ⟨by decide +kernel, ⟨by decide +kernel, by decide +kernel⟩, by decide +kernel⟩
theorem vc_Mod_least : VC M_Mod_least 0 := ⟨fy_Mod_least, im_Mod_least, se_Mod_least, in_Mod_least, cd_Mod_least⟩
theorem fy_Mod_weighs : FY M_Mod_weighs 0 := ⟨by decide +kernel, ⟨by decide +kernel, by decide +kernel⟩, by decide +kernel⟩
theorem vc_Mod_weighs : VC M_Mod_weighs 0 := ⟨fy_Mod_weighs, im_Mod_weighs, se_Mod_weighs, in_Mod_weighs, cd_Mod_weighs⟩
theorem fy_Mod_isLess : FY M_Mod_isLess 0 := ⟨by decide +kernel, ⟨by decide +kernel, by decide +kernel⟩, by decide +kernel⟩
theorem vc_Mod_isLess : VC M_Mod_isLess 0 := ⟨fy_Mod_isLess, im_Mod_isLess, se_Mod_isLess, in_Mod_isLess, cd_Mod_isLess⟩
theorem fy_Mod_power : FY M_Mod_power 2 := ⟨by decide +kernel, ⟨by decide +kernel, by decide +kernel⟩, by decide +kernel⟩
theorem sc_Mod_power : SC M_Mod_power 2 := ⟨fy_Mod_power, st_Mod_power, in_Mod_power, cd_Mod_power⟩
theorem fy_Mod_lays : FY M_Mod_lays 3 := ⟨by decide +kernel, ⟨by decide +kernel, by decide +kernel⟩, by decide +kernel⟩
theorem vc_Mod_lays : VC M_Mod_lays 3 := ⟨fy_Mod_lays, im_Mod_lays, se_Mod_lays, in_Mod_lays, cd_Mod_lays⟩
theorem fy_Mod_undo : FY M_Mod_undo 0 := ⟨by decide +kernel, ⟨by decide +kernel, by decide +kernel⟩, by decide +kernel⟩
theorem vc_Mod_undo : VC M_Mod_undo 0 := ⟨fy_Mod_undo, im_Mod_undo, se_Mod_undo, in_Mod_undo, cd_Mod_undo⟩
theorem fy_Mod_clear : FY M_Mod_clear 0 := ⟨by decide +kernel, ⟨by decide +kernel, by decide +kernel⟩, by decide +kernel⟩
theorem vc_Mod_clear : VC M_Mod_clear 0 := ⟨fy_Mod_clear, im_Mod_clear, se_Mod_clear, in_Mod_clear, cd_Mod_clear⟩
theorem fy_Mod_inRounds : FY M_Mod_inRounds 0 := ⟨by decide +kernel, ⟨by decide +kernel, by decide +kernel⟩, by decide +kernel⟩
theorem vc_Mod_inRounds : VC M_Mod_inRounds 0 := ⟨fy_Mod_inRounds, im_Mod_inRounds, se_Mod_inRounds, in_Mod_inRounds, cd_Mod_inRounds⟩
theorem fy_Mod_count : FY M_Mod_count 1 := ⟨by decide +kernel, ⟨by decide +kernel, by decide +kernel⟩, by decide +kernel⟩
theorem vc_Mod_count : VC M_Mod_count 1 := ⟨fy_Mod_count, im_Mod_count, se_Mod_count, in_Mod_count, cd_Mod_count⟩
theorem fy_Mod_minutes : FY M_Mod_minutes 1 := ⟨by decide +kernel, ⟨by decide +kernel, by decide +kernel⟩, by decide +kernel⟩
theorem vc_Mod_minutes : VC M_Mod_minutes 1 := ⟨fy_Mod_minutes, im_Mod_minutes, se_Mod_minutes, in_Mod_minutes, cd_Mod_minutes⟩
theorem fy_Mod_lay : FY M_Mod_lay 1 := ⟨by decide +kernel, ⟨by decide +kernel, by decide +kernel⟩, by decide +kernel⟩
theorem vc_Mod_lay : VC M_Mod_lay 1 := ⟨fy_Mod_lay, im_Mod_lay, se_Mod_lay, in_Mod_lay, cd_Mod_lay⟩
theorem fy_Mod_tear : FY M_Mod_tear 0 := ⟨by decide +kernel, ⟨by decide +kernel, by decide +kernel⟩, by decide +kernel⟩
theorem vc_Mod_tear : VC M_Mod_tear 0 := ⟨fy_Mod_tear, im_Mod_tear, se_Mod_tear, in_Mod_tear, cd_Mod_tear⟩
theorem fy_Mod_row : FY M_Mod_row 1 := ⟨by decide +kernel, ⟨by decide +kernel, by decide +kernel⟩, by decide +kernel⟩
theorem vc_Mod_row : VC M_Mod_row 1 := ⟨fy_Mod_row, im_Mod_row, se_Mod_row, in_Mod_row, cd_Mod_row⟩
theorem fy_Mod_copy : FY M_Mod_copy 3 := ⟨by decide +kernel, ⟨by decide +kernel, by decide +kernel⟩, by decide +kernel⟩
theorem vc_Mod_copy : VC M_Mod_copy 3 := ⟨fy_Mod_copy, im_Mod_copy, se_Mod_copy, in_Mod_copy, cd_Mod_copy⟩
theorem fy_Mod_status : FY M_Mod_status 1 := ⟨by decide +kernel, ⟨by decide +kernel, by decide +kernel⟩, by decide +kernel⟩
theorem vc_Mod_status : VC M_Mod_status 1 := ⟨fy_Mod_status, im_Mod_status, se_Mod_status, in_Mod_status, cd_Mod_status⟩
end
