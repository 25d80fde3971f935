-- ===== PART A: goes FIRST, ahead of the names: the tables' words, and 'selects' of the private methods out of them =====
/-- a private method of a class that the tables say can be made, by its rows of tables_1 -/
def lw_okq (q : MethodName × Nat) : Prop := (q.1.cls ≠ "java/lang/invoke/MethodHandle" ∧ q.1.cls ≠ "java/lang/invoke/VarHandle") ∧ Cond.instantiable q.1.cls q.2 ∈ tables_1 ∧ Cond.privateMethod q.1 ∈ tables_1 ∧ Cond.instanceMethod q.1 ∈ tables_1
theorem lw_p0 : lw_okq (⟨"BellLand", "isCell", "(I)Z"⟩, 10) := ⟨⟨by decide +kernel, by decide +kernel⟩, List.mem_of_getElem? (i := 16) (by decide +kernel), List.mem_of_getElem? (i := 325) (by decide +kernel), List.mem_of_getElem? (i := 326) (by decide +kernel)⟩
theorem lw_p1 : lw_okq (⟨"BellLand$Air", "calmUnit", "(III)J"⟩, 7) := ⟨⟨by decide +kernel, by decide +kernel⟩, List.mem_of_getElem? (i := 98) (by decide +kernel), List.mem_of_getElem? (i := 353) (by decide +kernel), List.mem_of_getElem? (i := 354) (by decide +kernel)⟩
theorem lw_p2 : lw_okq (⟨"BellLand", "isBell", "(I)Z"⟩, 10) := ⟨⟨by decide +kernel, by decide +kernel⟩, List.mem_of_getElem? (i := 16) (by decide +kernel), List.mem_of_getElem? (i := 410) (by decide +kernel), List.mem_of_getElem? (i := 411) (by decide +kernel)⟩
theorem lw_p3 : lw_okq (⟨"BellLand$Air", "blown", "(JIII)J"⟩, 7) := ⟨⟨by decide +kernel, by decide +kernel⟩, List.mem_of_getElem? (i := 98) (by decide +kernel), List.mem_of_getElem? (i := 433) (by decide +kernel), List.mem_of_getElem? (i := 434) (by decide +kernel)⟩
theorem lw_p4 : lw_okq (⟨"BellLand", "partsOfTithe", "(I)I"⟩, 10) := ⟨⟨by decide +kernel, by decide +kernel⟩, List.mem_of_getElem? (i := 16) (by decide +kernel), List.mem_of_getElem? (i := 484) (by decide +kernel), List.mem_of_getElem? (i := 485) (by decide +kernel)⟩
theorem lw_p5 : lw_okq (⟨"BellLand$Air", "bar", "([IIII)J"⟩, 7) := ⟨⟨by decide +kernel, by decide +kernel⟩, List.mem_of_getElem? (i := 98) (by decide +kernel), List.mem_of_getElem? (i := 498) (by decide +kernel), List.mem_of_getElem? (i := 499) (by decide +kernel)⟩
theorem lw_p6 : lw_okq (⟨"BellLand", "isPact", "(II)Z"⟩, 10) := ⟨⟨by decide +kernel, by decide +kernel⟩, List.mem_of_getElem? (i := 16) (by decide +kernel), List.mem_of_getElem? (i := 532) (by decide +kernel), List.mem_of_getElem? (i := 533) (by decide +kernel)⟩
theorem lw_p7 : lw_okq (⟨"BellLand$Reports", "wouldBeSo", "(III)Z"⟩, 7) := ⟨⟨by decide +kernel, by decide +kernel⟩, List.mem_of_getElem? (i := 129) (by decide +kernel), List.mem_of_getElem? (i := 565) (by decide +kernel), List.mem_of_getElem? (i := 566) (by decide +kernel)⟩
theorem lw_p8 : lw_okq (⟨"BellLand$Woods", "isKeptBy", "(I)Z"⟩, 7) := ⟨⟨by decide +kernel, by decide +kernel⟩, List.mem_of_getElem? (i := 158) (by decide +kernel), List.mem_of_getElem? (i := 595) (by decide +kernel), List.mem_of_getElem? (i := 596) (by decide +kernel)⟩
theorem lw_p9 : lw_okq (⟨"BellLand$Woods", "dimmed", "(II)J"⟩, 7) := ⟨⟨by decide +kernel, by decide +kernel⟩, List.mem_of_getElem? (i := 158) (by decide +kernel), List.mem_of_getElem? (i := 599) (by decide +kernel), List.mem_of_getElem? (i := 600) (by decide +kernel)⟩
theorem lw_p10 : lw_okq (⟨"BellLand$Ringing", "findFirstRow", "(I)Z"⟩, 4) := ⟨⟨by decide +kernel, by decide +kernel⟩, List.mem_of_getElem? (i := 186) (by decide +kernel), List.mem_of_getElem? (i := 619) (by decide +kernel), List.mem_of_getElem? (i := 620) (by decide +kernel)⟩
theorem lw_p11 : lw_okq (⟨"BellLand$Ringing", "nextWithoutClash", "(III)I"⟩, 4) := ⟨⟨by decide +kernel, by decide +kernel⟩, List.mem_of_getElem? (i := 186) (by decide +kernel), List.mem_of_getElem? (i := 624) (by decide +kernel), List.mem_of_getElem? (i := 625) (by decide +kernel)⟩
theorem lw_p12 : lw_okq (⟨"BellLand$Ringing", "clashesIn", "(II)Z"⟩, 4) := ⟨⟨by decide +kernel, by decide +kernel⟩, List.mem_of_getElem? (i := 186) (by decide +kernel), List.mem_of_getElem? (i := 628) (by decide +kernel), List.mem_of_getElem? (i := 629) (by decide +kernel)⟩
theorem lw_p13 : lw_okq (⟨"BellLand$Foundry", "begin", "()V"⟩, 6) := ⟨⟨by decide +kernel, by decide +kernel⟩, List.mem_of_getElem? (i := 206) (by decide +kernel), List.mem_of_getElem? (i := 640) (by decide +kernel), List.mem_of_getElem? (i := 641) (by decide +kernel)⟩
theorem lw_p14 : lw_okq (⟨"BellLand$Foundry", "allWeights", "()J"⟩, 6) := ⟨⟨by decide +kernel, by decide +kernel⟩, List.mem_of_getElem? (i := 206) (by decide +kernel), List.mem_of_getElem? (i := 647) (by decide +kernel), List.mem_of_getElem? (i := 648) (by decide +kernel)⟩
theorem lw_p15 : lw_okq (⟨"BellLand$Foundry", "goRound", "()V"⟩, 6) := ⟨⟨by decide +kernel, by decide +kernel⟩, List.mem_of_getElem? (i := 206) (by decide +kernel), List.mem_of_getElem? (i := 652) (by decide +kernel), List.mem_of_getElem? (i := 653) (by decide +kernel)⟩
def lw_privs_1 : List (MethodName × Nat) := [(⟨"BellLand", "isCell", "(I)Z"⟩, 10), (⟨"BellLand$Air", "calmUnit", "(III)J"⟩, 7), (⟨"BellLand", "isBell", "(I)Z"⟩, 10), (⟨"BellLand$Air", "blown", "(JIII)J"⟩, 7), (⟨"BellLand", "partsOfTithe", "(I)I"⟩, 10), (⟨"BellLand$Air", "bar", "([IIII)J"⟩, 7), (⟨"BellLand", "isPact", "(II)Z"⟩, 10), (⟨"BellLand$Reports", "wouldBeSo", "(III)Z"⟩, 7), (⟨"BellLand$Woods", "isKeptBy", "(I)Z"⟩, 7), (⟨"BellLand$Woods", "dimmed", "(II)J"⟩, 7), (⟨"BellLand$Ringing", "findFirstRow", "(I)Z"⟩, 4), (⟨"BellLand$Ringing", "nextWithoutClash", "(III)I"⟩, 4), (⟨"BellLand$Ringing", "clashesIn", "(II)Z"⟩, 4), (⟨"BellLand$Foundry", "begin", "()V"⟩, 6), (⟨"BellLand$Foundry", "allWeights", "()J"⟩, 6), (⟨"BellLand$Foundry", "goRound", "()V"⟩, 6)]
theorem lw_r1 : ∀ q ∈ lw_privs_1, lw_okq q := List.forall_mem_cons.mpr ⟨lw_p0, List.forall_mem_cons.mpr ⟨lw_p1, List.forall_mem_cons.mpr ⟨lw_p2, List.forall_mem_cons.mpr ⟨lw_p3, List.forall_mem_cons.mpr ⟨lw_p4, List.forall_mem_cons.mpr ⟨lw_p5, List.forall_mem_cons.mpr ⟨lw_p6, List.forall_mem_cons.mpr ⟨lw_p7, List.forall_mem_cons.mpr ⟨lw_p8, List.forall_mem_cons.mpr ⟨lw_p9, List.forall_mem_cons.mpr ⟨lw_p10, List.forall_mem_cons.mpr ⟨lw_p11, List.forall_mem_cons.mpr ⟨lw_p12, List.forall_mem_cons.mpr ⟨lw_p13, List.forall_mem_cons.mpr ⟨lw_p14, List.forall_mem_cons.mpr ⟨lw_p15, fun _ h => absurd h List.not_mem_nil⟩⟩⟩⟩⟩⟩⟩⟩⟩⟩⟩⟩⟩⟩⟩⟩
theorem lw_p16 : lw_okq (⟨"BellLand$Foundry", "bestWeight", "(I)I"⟩, 6) := ⟨⟨by decide +kernel, by decide +kernel⟩, List.mem_of_getElem? (i := 206) (by decide +kernel), List.mem_of_getElem? (i := 657) (by decide +kernel), List.mem_of_getElem? (i := 658) (by decide +kernel)⟩
theorem lw_p17 : lw_okq (⟨"BellLand", "faulty", "(I)I"⟩, 10) := ⟨⟨by decide +kernel, by decide +kernel⟩, List.mem_of_getElem? (i := 16) (by decide +kernel), List.mem_of_getElem? (i := 681) (by decide +kernel), List.mem_of_getElem? (i := 682) (by decide +kernel)⟩
theorem lw_p18 : lw_okq (⟨"BellLand", "greatBody", "(I)I"⟩, 10) := ⟨⟨by decide +kernel, by decide +kernel⟩, List.mem_of_getElem? (i := 16) (by decide +kernel), List.mem_of_getElem? (i := 721) (by decide +kernel), List.mem_of_getElem? (i := 722) (by decide +kernel)⟩
theorem lw_p19 : lw_okq (⟨"BellLand", "mark", "(I)V"⟩, 10) := ⟨⟨by decide +kernel, by decide +kernel⟩, List.mem_of_getElem? (i := 16) (by decide +kernel), List.mem_of_getElem? (i := 725) (by decide +kernel), List.mem_of_getElem? (i := 726) (by decide +kernel)⟩
theorem lw_p20 : lw_okq (⟨"BellLand", "tenorBody", "(I)I"⟩, 10) := ⟨⟨by decide +kernel, by decide +kernel⟩, List.mem_of_getElem? (i := 16) (by decide +kernel), List.mem_of_getElem? (i := 729) (by decide +kernel), List.mem_of_getElem? (i := 730) (by decide +kernel)⟩
theorem lw_p21 : lw_okq (⟨"BellLand", "bellBody", "(I)I"⟩, 10) := ⟨⟨by decide +kernel, by decide +kernel⟩, List.mem_of_getElem? (i := 16) (by decide +kernel), List.mem_of_getElem? (i := 733) (by decide +kernel), List.mem_of_getElem? (i := 734) (by decide +kernel)⟩
theorem lw_p22 : lw_okq (⟨"BellLand", "greatBlessing", "()I"⟩, 10) := ⟨⟨by decide +kernel, by decide +kernel⟩, List.mem_of_getElem? (i := 16) (by decide +kernel), List.mem_of_getElem? (i := 741) (by decide +kernel), List.mem_of_getElem? (i := 742) (by decide +kernel)⟩
theorem lw_p23 : lw_okq (⟨"BellLand", "lentBody", "(I)I"⟩, 10) := ⟨⟨by decide +kernel, by decide +kernel⟩, List.mem_of_getElem? (i := 16) (by decide +kernel), List.mem_of_getElem? (i := 745) (by decide +kernel), List.mem_of_getElem? (i := 746) (by decide +kernel)⟩
theorem lw_p24 : lw_okq (⟨"BellLandModel", "against", "(IIII)I"⟩, 32) := ⟨⟨by decide +kernel, by decide +kernel⟩, List.mem_of_getElem? (i := 765) (by decide +kernel), List.mem_of_getElem? (i := 882) (by decide +kernel), List.mem_of_getElem? (i := 883) (by decide +kernel)⟩
theorem lw_p25 : lw_okq (⟨"BellLandModel", "fails", "(I)I"⟩, 32) := ⟨⟨by decide +kernel, by decide +kernel⟩, List.mem_of_getElem? (i := 765) (by decide +kernel), List.mem_of_getElem? (i := 886) (by decide +kernel), List.mem_of_getElem? (i := 887) (by decide +kernel)⟩
theorem lw_p26 : lw_okq (⟨"BellLandModel", "readLand", "(I)Z"⟩, 32) := ⟨⟨by decide +kernel, by decide +kernel⟩, List.mem_of_getElem? (i := 765) (by decide +kernel), List.mem_of_getElem? (i := 890) (by decide +kernel), List.mem_of_getElem? (i := 891) (by decide +kernel)⟩
theorem lw_p27 : lw_okq (⟨"BellLandModel", "isCode", "(II)Z"⟩, 32) := ⟨⟨by decide +kernel, by decide +kernel⟩, List.mem_of_getElem? (i := 765) (by decide +kernel), List.mem_of_getElem? (i := 894) (by decide +kernel), List.mem_of_getElem? (i := 895) (by decide +kernel)⟩
theorem lw_p28 : lw_okq (⟨"BellLandModel", "digitAt", "(II)I"⟩, 32) := ⟨⟨by decide +kernel, by decide +kernel⟩, List.mem_of_getElem? (i := 765) (by decide +kernel), List.mem_of_getElem? (i := 898) (by decide +kernel), List.mem_of_getElem? (i := 899) (by decide +kernel)⟩
theorem lw_p29 : lw_okq (⟨"BellLandModel", "all", "()I"⟩, 32) := ⟨⟨by decide +kernel, by decide +kernel⟩, List.mem_of_getElem? (i := 765) (by decide +kernel), List.mem_of_getElem? (i := 902) (by decide +kernel), List.mem_of_getElem? (i := 903) (by decide +kernel)⟩
theorem lw_p30 : lw_okq (⟨"BellLandModel", "isCell", "(I)Z"⟩, 32) := ⟨⟨by decide +kernel, by decide +kernel⟩, List.mem_of_getElem? (i := 765) (by decide +kernel), List.mem_of_getElem? (i := 910) (by decide +kernel), List.mem_of_getElem? (i := 911) (by decide +kernel)⟩
theorem lw_p31 : lw_okq (⟨"BellLandModel", "tithe", "(I)I"⟩, 32) := ⟨⟨by decide +kernel, by decide +kernel⟩, List.mem_of_getElem? (i := 765) (by decide +kernel), List.mem_of_getElem? (i := 914) (by decide +kernel), List.mem_of_getElem? (i := 915) (by decide +kernel)⟩
def lw_privs_2 : List (MethodName × Nat) := [(⟨"BellLand$Foundry", "bestWeight", "(I)I"⟩, 6), (⟨"BellLand", "faulty", "(I)I"⟩, 10), (⟨"BellLand", "greatBody", "(I)I"⟩, 10), (⟨"BellLand", "mark", "(I)V"⟩, 10), (⟨"BellLand", "tenorBody", "(I)I"⟩, 10), (⟨"BellLand", "bellBody", "(I)I"⟩, 10), (⟨"BellLand", "greatBlessing", "()I"⟩, 10), (⟨"BellLand", "lentBody", "(I)I"⟩, 10), (⟨"BellLandModel", "against", "(IIII)I"⟩, 32), (⟨"BellLandModel", "fails", "(I)I"⟩, 32), (⟨"BellLandModel", "readLand", "(I)Z"⟩, 32), (⟨"BellLandModel", "isCode", "(II)Z"⟩, 32), (⟨"BellLandModel", "digitAt", "(II)I"⟩, 32), (⟨"BellLandModel", "all", "()I"⟩, 32), (⟨"BellLandModel", "isCell", "(I)Z"⟩, 32), (⟨"BellLandModel", "tithe", "(I)I"⟩, 32)]
theorem lw_r2 : ∀ q ∈ lw_privs_2, lw_okq q := List.forall_mem_cons.mpr ⟨lw_p16, List.forall_mem_cons.mpr ⟨lw_p17, List.forall_mem_cons.mpr ⟨lw_p18, List.forall_mem_cons.mpr ⟨lw_p19, List.forall_mem_cons.mpr ⟨lw_p20, List.forall_mem_cons.mpr ⟨lw_p21, List.forall_mem_cons.mpr ⟨lw_p22, List.forall_mem_cons.mpr ⟨lw_p23, List.forall_mem_cons.mpr ⟨lw_p24, List.forall_mem_cons.mpr ⟨lw_p25, List.forall_mem_cons.mpr ⟨lw_p26, List.forall_mem_cons.mpr ⟨lw_p27, List.forall_mem_cons.mpr ⟨lw_p28, List.forall_mem_cons.mpr ⟨lw_p29, List.forall_mem_cons.mpr ⟨lw_p30, List.forall_mem_cons.mpr ⟨lw_p31, fun _ h => absurd h List.not_mem_nil⟩⟩⟩⟩⟩⟩⟩⟩⟩⟩⟩⟩⟩⟩⟩⟩
theorem lw_p32 : lw_okq (⟨"BellLandModel", "hanging", "(I)I"⟩, 32) := ⟨⟨by decide +kernel, by decide +kernel⟩, List.mem_of_getElem? (i := 765) (by decide +kernel), List.mem_of_getElem? (i := 918) (by decide +kernel), List.mem_of_getElem? (i := 919) (by decide +kernel)⟩
theorem lw_p33 : lw_okq (⟨"BellLandModel", "isBell", "(I)Z"⟩, 32) := ⟨⟨by decide +kernel, by decide +kernel⟩, List.mem_of_getElem? (i := 765) (by decide +kernel), List.mem_of_getElem? (i := 941) (by decide +kernel), List.mem_of_getElem? (i := 942) (by decide +kernel)⟩
theorem lw_p34 : lw_okq (⟨"BellLandModel", "findLoud", "(III)V"⟩, 32) := ⟨⟨by decide +kernel, by decide +kernel⟩, List.mem_of_getElem? (i := 765) (by decide +kernel), List.mem_of_getElem? (i := 957) (by decide +kernel), List.mem_of_getElem? (i := 958) (by decide +kernel)⟩
theorem lw_p35 : lw_okq (⟨"BellLandModel", "layLoud", "(I)V"⟩, 32) := ⟨⟨by decide +kernel, by decide +kernel⟩, List.mem_of_getElem? (i := 765) (by decide +kernel), List.mem_of_getElem? (i := 979) (by decide +kernel), List.mem_of_getElem? (i := 980) (by decide +kernel)⟩
theorem lw_p36 : lw_okq (⟨"BellLandModel", "layOne", "(II)V"⟩, 32) := ⟨⟨by decide +kernel, by decide +kernel⟩, List.mem_of_getElem? (i := 765) (by decide +kernel), List.mem_of_getElem? (i := 983) (by decide +kernel), List.mem_of_getElem? (i := 984) (by decide +kernel)⟩
theorem lw_p37 : lw_okq (⟨"BellLandModel", "whoseBy", "(I)I"⟩, 32) := ⟨⟨by decide +kernel, by decide +kernel⟩, List.mem_of_getElem? (i := 765) (by decide +kernel), List.mem_of_getElem? (i := 987) (by decide +kernel), List.mem_of_getElem? (i := 988) (by decide +kernel)⟩
theorem lw_p38 : lw_okq (⟨"BellLandModel", "manyLoudest", "(I)I"⟩, 32) := ⟨⟨by decide +kernel, by decide +kernel⟩, List.mem_of_getElem? (i := 765) (by decide +kernel), List.mem_of_getElem? (i := 991) (by decide +kernel), List.mem_of_getElem? (i := 992) (by decide +kernel)⟩
theorem lw_p39 : lw_okq (⟨"BellLandModel", "louderBy", "(III)J"⟩, 32) := ⟨⟨by decide +kernel, by decide +kernel⟩, List.mem_of_getElem? (i := 765) (by decide +kernel), List.mem_of_getElem? (i := 995) (by decide +kernel), List.mem_of_getElem? (i := 996) (by decide +kernel)⟩
theorem lw_p40 : lw_okq (⟨"BellLandModel", "isHeard", "(II)Z"⟩, 32) := ⟨⟨by decide +kernel, by decide +kernel⟩, List.mem_of_getElem? (i := 765) (by decide +kernel), List.mem_of_getElem? (i := 999) (by decide +kernel), List.mem_of_getElem? (i := 1000) (by decide +kernel)⟩
theorem lw_p41 : lw_okq (⟨"BellLandModel", "reaches", "(II)Z"⟩, 32) := ⟨⟨by decide +kernel, by decide +kernel⟩, List.mem_of_getElem? (i := 765) (by decide +kernel), List.mem_of_getElem? (i := 1007) (by decide +kernel), List.mem_of_getElem? (i := 1008) (by decide +kernel)⟩
theorem lw_p42 : lw_okq (⟨"BellLandModel", "lost", "(I)J"⟩, 32) := ⟨⟨by decide +kernel, by decide +kernel⟩, List.mem_of_getElem? (i := 765) (by decide +kernel), List.mem_of_getElem? (i := 1015) (by decide +kernel), List.mem_of_getElem? (i := 1016) (by decide +kernel)⟩
theorem lw_p43 : lw_okq (⟨"BellLandModel", "tithesOf", "(I)J"⟩, 32) := ⟨⟨by decide +kernel, by decide +kernel⟩, List.mem_of_getElem? (i := 765) (by decide +kernel), List.mem_of_getElem? (i := 1019) (by decide +kernel), List.mem_of_getElem? (i := 1020) (by decide +kernel)⟩
theorem lw_p44 : lw_okq (⟨"BellLandModel", "winsBy", "(II)I"⟩, 32) := ⟨⟨by decide +kernel, by decide +kernel⟩, List.mem_of_getElem? (i := 765) (by decide +kernel), List.mem_of_getElem? (i := 1028) (by decide +kernel), List.mem_of_getElem? (i := 1029) (by decide +kernel)⟩
theorem lw_p45 : lw_okq (⟨"BellLandModel", "ownCells", "(I)I"⟩, 32) := ⟨⟨by decide +kernel, by decide +kernel⟩, List.mem_of_getElem? (i := 765) (by decide +kernel), List.mem_of_getElem? (i := 1040) (by decide +kernel), List.mem_of_getElem? (i := 1041) (by decide +kernel)⟩
theorem lw_p46 : lw_okq (⟨"BellLandModel", "isTheirs", "(III)Z"⟩, 32) := ⟨⟨by decide +kernel, by decide +kernel⟩, List.mem_of_getElem? (i := 765) (by decide +kernel), List.mem_of_getElem? (i := 1048) (by decide +kernel), List.mem_of_getElem? (i := 1049) (by decide +kernel)⟩
theorem lw_p47 : lw_okq (⟨"BellLandModel", "isPact", "(II)Z"⟩, 32) := ⟨⟨by decide +kernel, by decide +kernel⟩, List.mem_of_getElem? (i := 765) (by decide +kernel), List.mem_of_getElem? (i := 1056) (by decide +kernel), List.mem_of_getElem? (i := 1057) (by decide +kernel)⟩
def lw_privs_3 : List (MethodName × Nat) := [(⟨"BellLandModel", "hanging", "(I)I"⟩, 32), (⟨"BellLandModel", "isBell", "(I)Z"⟩, 32), (⟨"BellLandModel", "findLoud", "(III)V"⟩, 32), (⟨"BellLandModel", "layLoud", "(I)V"⟩, 32), (⟨"BellLandModel", "layOne", "(II)V"⟩, 32), (⟨"BellLandModel", "whoseBy", "(I)I"⟩, 32), (⟨"BellLandModel", "manyLoudest", "(I)I"⟩, 32), (⟨"BellLandModel", "louderBy", "(III)J"⟩, 32), (⟨"BellLandModel", "isHeard", "(II)Z"⟩, 32), (⟨"BellLandModel", "reaches", "(II)Z"⟩, 32), (⟨"BellLandModel", "lost", "(I)J"⟩, 32), (⟨"BellLandModel", "tithesOf", "(I)J"⟩, 32), (⟨"BellLandModel", "winsBy", "(II)I"⟩, 32), (⟨"BellLandModel", "ownCells", "(I)I"⟩, 32), (⟨"BellLandModel", "isTheirs", "(III)Z"⟩, 32), (⟨"BellLandModel", "isPact", "(II)Z"⟩, 32)]
theorem lw_r3 : ∀ q ∈ lw_privs_3, lw_okq q := List.forall_mem_cons.mpr ⟨lw_p32, List.forall_mem_cons.mpr ⟨lw_p33, List.forall_mem_cons.mpr ⟨lw_p34, List.forall_mem_cons.mpr ⟨lw_p35, List.forall_mem_cons.mpr ⟨lw_p36, List.forall_mem_cons.mpr ⟨lw_p37, List.forall_mem_cons.mpr ⟨lw_p38, List.forall_mem_cons.mpr ⟨lw_p39, List.forall_mem_cons.mpr ⟨lw_p40, List.forall_mem_cons.mpr ⟨lw_p41, List.forall_mem_cons.mpr ⟨lw_p42, List.forall_mem_cons.mpr ⟨lw_p43, List.forall_mem_cons.mpr ⟨lw_p44, List.forall_mem_cons.mpr ⟨lw_p45, List.forall_mem_cons.mpr ⟨lw_p46, List.forall_mem_cons.mpr ⟨lw_p47, fun _ h => absurd h List.not_mem_nil⟩⟩⟩⟩⟩⟩⟩⟩⟩⟩⟩⟩⟩⟩⟩⟩
theorem lw_p48 : lw_okq (⟨"BellLandModel", "ownTithes", "(I)I"⟩, 32) := ⟨⟨by decide +kernel, by decide +kernel⟩, List.mem_of_getElem? (i := 765) (by decide +kernel), List.mem_of_getElem? (i := 1060) (by decide +kernel), List.mem_of_getElem? (i := 1061) (by decide +kernel)⟩
theorem lw_p49 : lw_okq (⟨"BellLandModel", "isSo", "(I)Z"⟩, 32) := ⟨⟨by decide +kernel, by decide +kernel⟩, List.mem_of_getElem? (i := 765) (by decide +kernel), List.mem_of_getElem? (i := 1076) (by decide +kernel), List.mem_of_getElem? (i := 1077) (by decide +kernel)⟩
theorem lw_p50 : lw_okq (⟨"BellLandModel", "areSoOf", "(I)Z"⟩, 32) := ⟨⟨by decide +kernel, by decide +kernel⟩, List.mem_of_getElem? (i := 765) (by decide +kernel), List.mem_of_getElem? (i := 1084) (by decide +kernel), List.mem_of_getElem? (i := 1085) (by decide +kernel)⟩
theorem lw_p51 : lw_okq (⟨"BellLandModel", "keepsBy", "(IIII)Z"⟩, 32) := ⟨⟨by decide +kernel, by decide +kernel⟩, List.mem_of_getElem? (i := 765) (by decide +kernel), List.mem_of_getElem? (i := 1092) (by decide +kernel), List.mem_of_getElem? (i := 1093) (by decide +kernel)⟩
theorem lw_p52 : lw_okq (⟨"BellLandModel", "keepsSo", "(IIIIII)Z"⟩, 32) := ⟨⟨by decide +kernel, by decide +kernel⟩, List.mem_of_getElem? (i := 765) (by decide +kernel), List.mem_of_getElem? (i := 1096) (by decide +kernel), List.mem_of_getElem? (i := 1097) (by decide +kernel)⟩
theorem lw_p53 : lw_okq (⟨"BellLandModel", "mayPlant", "(II)Z"⟩, 32) := ⟨⟨by decide +kernel, by decide +kernel⟩, List.mem_of_getElem? (i := 765) (by decide +kernel), List.mem_of_getElem? (i := 1100) (by decide +kernel), List.mem_of_getElem? (i := 1101) (by decide +kernel)⟩
theorem lw_p54 : lw_okq (⟨"BellLandModel", "plantTried", "(Z)V"⟩, 32) := ⟨⟨by decide +kernel, by decide +kernel⟩, List.mem_of_getElem? (i := 765) (by decide +kernel), List.mem_of_getElem? (i := 1104) (by decide +kernel), List.mem_of_getElem? (i := 1105) (by decide +kernel)⟩
theorem lw_p55 : lw_okq (⟨"BellLandModel", "isOwn", "(III)Z"⟩, 32) := ⟨⟨by decide +kernel, by decide +kernel⟩, List.mem_of_getElem? (i := 765) (by decide +kernel), List.mem_of_getElem? (i := 1108) (by decide +kernel), List.mem_of_getElem? (i := 1109) (by decide +kernel)⟩
theorem lw_p56 : lw_okq (⟨"BellLandModel", "layClashes", "()V"⟩, 32) := ⟨⟨by decide +kernel, by decide +kernel⟩, List.mem_of_getElem? (i := 765) (by decide +kernel), List.mem_of_getElem? (i := 1119) (by decide +kernel), List.mem_of_getElem? (i := 1120) (by decide +kernel)⟩
theorem lw_p57 : lw_okq (⟨"BellLandModel", "areTurns", "(I)Z"⟩, 32) := ⟨⟨by decide +kernel, by decide +kernel⟩, List.mem_of_getElem? (i := 765) (by decide +kernel), List.mem_of_getElem? (i := 1123) (by decide +kernel), List.mem_of_getElem? (i := 1124) (by decide +kernel)⟩
theorem lw_p58 : lw_okq (⟨"BellLandModel", "mayRing", "(II)Z"⟩, 32) := ⟨⟨by decide +kernel, by decide +kernel⟩, List.mem_of_getElem? (i := 765) (by decide +kernel), List.mem_of_getElem? (i := 1127) (by decide +kernel), List.mem_of_getElem? (i := 1128) (by decide +kernel)⟩
theorem lw_p59 : lw_okq (⟨"BellLandModel", "layRounds", "(II)V"⟩, 32) := ⟨⟨by decide +kernel, by decide +kernel⟩, List.mem_of_getElem? (i := 765) (by decide +kernel), List.mem_of_getElem? (i := 1135) (by decide +kernel), List.mem_of_getElem? (i := 1136) (by decide +kernel)⟩
theorem lw_p60 : lw_okq (⟨"BellLandModel", "takesBest", "(I)V"⟩, 32) := ⟨⟨by decide +kernel, by decide +kernel⟩, List.mem_of_getElem? (i := 765) (by decide +kernel), List.mem_of_getElem? (i := 1139) (by decide +kernel), List.mem_of_getElem? (i := 1140) (by decide +kernel)⟩
theorem lw_p61 : lw_okq (⟨"BellLandModel", "areAlike", "(II)Z"⟩, 32) := ⟨⟨by decide +kernel, by decide +kernel⟩, List.mem_of_getElem? (i := 765) (by decide +kernel), List.mem_of_getElem? (i := 1143) (by decide +kernel), List.mem_of_getElem? (i := 1144) (by decide +kernel)⟩
theorem lw_p62 : lw_okq (⟨"BellLandModel", "begins", "(I)V"⟩, 32) := ⟨⟨by decide +kernel, by decide +kernel⟩, List.mem_of_getElem? (i := 765) (by decide +kernel), List.mem_of_getElem? (i := 1175) (by decide +kernel), List.mem_of_getElem? (i := 1176) (by decide +kernel)⟩
def lw_privs_4 : List (MethodName × Nat) := [(⟨"BellLandModel", "ownTithes", "(I)I"⟩, 32), (⟨"BellLandModel", "isSo", "(I)Z"⟩, 32), (⟨"BellLandModel", "areSoOf", "(I)Z"⟩, 32), (⟨"BellLandModel", "keepsBy", "(IIII)Z"⟩, 32), (⟨"BellLandModel", "keepsSo", "(IIIIII)Z"⟩, 32), (⟨"BellLandModel", "mayPlant", "(II)Z"⟩, 32), (⟨"BellLandModel", "plantTried", "(Z)V"⟩, 32), (⟨"BellLandModel", "isOwn", "(III)Z"⟩, 32), (⟨"BellLandModel", "layClashes", "()V"⟩, 32), (⟨"BellLandModel", "areTurns", "(I)Z"⟩, 32), (⟨"BellLandModel", "mayRing", "(II)Z"⟩, 32), (⟨"BellLandModel", "layRounds", "(II)V"⟩, 32), (⟨"BellLandModel", "takesBest", "(I)V"⟩, 32), (⟨"BellLandModel", "areAlike", "(II)Z"⟩, 32), (⟨"BellLandModel", "begins", "(I)V"⟩, 32)]
theorem lw_r4 : ∀ q ∈ lw_privs_4, lw_okq q := List.forall_mem_cons.mpr ⟨lw_p48, List.forall_mem_cons.mpr ⟨lw_p49, List.forall_mem_cons.mpr ⟨lw_p50, List.forall_mem_cons.mpr ⟨lw_p51, List.forall_mem_cons.mpr ⟨lw_p52, List.forall_mem_cons.mpr ⟨lw_p53, List.forall_mem_cons.mpr ⟨lw_p54, List.forall_mem_cons.mpr ⟨lw_p55, List.forall_mem_cons.mpr ⟨lw_p56, List.forall_mem_cons.mpr ⟨lw_p57, List.forall_mem_cons.mpr ⟨lw_p58, List.forall_mem_cons.mpr ⟨lw_p59, List.forall_mem_cons.mpr ⟨lw_p60, List.forall_mem_cons.mpr ⟨lw_p61, List.forall_mem_cons.mpr ⟨lw_p62, fun _ h => absurd h List.not_mem_nil⟩⟩⟩⟩⟩⟩⟩⟩⟩⟩⟩⟩⟩⟩⟩
def lw_privs : List (MethodName × Nat) := lw_privs_1 ++ (lw_privs_2 ++ (lw_privs_3 ++ (lw_privs_4)))
def lw_tbl : List Cond := k2_sels lw_privs ++ tables_1
theorem lw_privs_ok : ∀ q ∈ lw_privs, lw_okq q := by
  show ∀ q ∈ lw_privs_1 ++ (lw_privs_2 ++ (lw_privs_3 ++ (lw_privs_4))), lw_okq q
  exact List.forall_mem_append.mpr ⟨lw_r1, List.forall_mem_append.mpr ⟨lw_r2, List.forall_mem_append.mpr ⟨lw_r3, lw_r4⟩⟩⟩
-- ===== end of PART A; then your names; then what follows =====
/-! ===== BEGIN words of one list among another's, by their places ===== -/
theorem goodIn_r {big : List Cond} (ws : List Cond) (ps : List Nat) (hp : ws = ps.filterMap (fun i => big[i]?)) (h : ws.all goodWord = true) : GoodIn big ws := by
  intro w hw
  have h1 := List.all_eq_true.mp h w hw
  rw [hp] at hw
  obtain ⟨i, -, hi⟩ := List.mem_filterMap.mp hw
  have hm : w ∈ big := by first | exact List.mem_of_getElem? hi | exact List.getElem?_mem hi
  exact ⟨hm, good_of_word h1⟩
theorem goodIn_app {big a b : List Cond} (ha : GoodIn big a) (hb : GoodIn big b) : GoodIn big (a ++ b) := fun w h => (List.mem_append.mp h).elim (ha w) (hb w)
theorem goodIn_ca {big a b : List Cond} {c : Cond} (ha : GoodIn big (c :: a)) (hb : GoodIn big b) : GoodIn big (c :: (a ++ b)) := fun w h => (List.mem_cons.mp h).elim (fun e => ha w (List.mem_cons.mpr (Or.inl e))) (fun h => (List.mem_append.mp h).elim (fun h => ha w (List.mem_cons.mpr (Or.inr h))) (hb w))
theorem goodIn_sub {big ws : List Cond} (hm : ∀ w ∈ ws, w ∈ big) (h : ws.all goodWord = true) : GoodIn big ws := fun w hw => ⟨hm w hw, good_of_word (List.all_eq_true.mp h w hw)⟩
/-! ===== END ===== -/

/-! ===== BEGIN printed: names, fields, word lists, decode rows ===== -/
def RX0 : String := "BellLand$Air"
def TX0 : u_T := fun k => match k with
  | 0 => ("BellLand$Air", "ground", "LBellLand$Ground;", true)
  | 1 => ("BellLand$Air", "bells", "LBellLand$Bells;", true)
  | 2 => ("BellLand$Air", "ear", "I", false)
  | 3 => ("BellLand$Air", "calm", "[J", true)
  | 4 => ("BellLand$Air", "unit", "[J", true)
  | 5 => ("BellLand$Air", "faint", "J", false)
  | _ => ("BellLand$Air", "bars", "[J", true)
def tyX0 : Nat → FieldType := fun k => match k with
  | 0 => .object "BellLand$Ground"
  | 1 => .object "BellLand$Bells"
  | 2 => .int
  | 3 => .array .long
  | 4 => .array .long
  | 5 => .long
  | _ => .array .long
abbrev wsX00 : List Cond := u_ws RX0 TX0 7
theorem nmX0 : ∀ a, a < 7 → ∀ b, b < 7 → a ≠ b → (TX0 a).2.1 ≠ (TX0 b).2.1 := by decide +kernel
theorem tyX0_ok : ∀ k, k < 7 → parseFieldDescriptor (TX0 k).2.2.1 = some (tyX0 k) := by decide +kernel
abbrev cX0_init : ByteArray := prog_2_method_1_code
def yX0_init : MethodName := ⟨RX0, "<init>", "(LBellLand$Ground;LBellLand$Bells;)V"⟩
abbrev cX0_grainsOfOne : ByteArray := prog_2_method_2_code
def yX0_grainsOfOne : MethodName := ⟨RX0, "grainsOfOne", "(I)J"⟩
abbrev cX0_strength : ByteArray := prog_2_method_3_code
def yX0_strength : MethodName := ⟨RX0, "strength", "(I)I"⟩
abbrev cX0_carry : ByteArray := prog_2_method_4_code
def yX0_carry : MethodName := ⟨RX0, "carry", "(I)V"⟩
abbrev cX0_carryAll : ByteArray := prog_2_method_5_code
def yX0_carryAll : MethodName := ⟨RX0, "carryAll", "()V"⟩
abbrev cX0_calmUnit : ByteArray := prog_2_method_6_code
def yX0_calmUnit : MethodName := ⟨RX0, "calmUnit", "(III)J"⟩
abbrev cX0_blown : ByteArray := prog_2_method_7_code
def yX0_blown : MethodName := ⟨RX0, "blown", "(JIII)J"⟩
abbrev cX0_unitBy : ByteArray := prog_2_method_8_code
def yX0_unitBy : MethodName := ⟨RX0, "unitBy", "(III)J"⟩
abbrev cX0_blow : ByteArray := prog_2_method_9_code
def yX0_blow : MethodName := ⟨RX0, "blow", "(I)V"⟩
abbrev cX0_loudness : ByteArray := prog_2_method_10_code
def yX0_loudness : MethodName := ⟨RX0, "loudness", "(II)J"⟩
abbrev cX0_loudestIn : ByteArray := prog_2_method_11_code
def yX0_loudestIn : MethodName := ⟨RX0, "loudestIn", "(I)I"⟩
abbrev cX0_bar : ByteArray := prog_2_method_12_code
def yX0_bar : MethodName := ⟨RX0, "bar", "([IIII)J"⟩
abbrev cX0_setBars : ByteArray := prog_2_method_13_code
def yX0_setBars : MethodName := ⟨RX0, "setBars", "([II)V"⟩
abbrev cX0_howManyAboveBars : ByteArray := prog_2_method_14_code
def yX0_howManyAboveBars : MethodName := ⟨RX0, "howManyAboveBars", "(II)I"⟩
abbrev cX0_ownOfNewIn : ByteArray := prog_2_method_15_code
def yX0_ownOfNewIn : MethodName := ⟨RX0, "ownOfNewIn", "(IIII)I"⟩
abbrev cX0_ownOf : ByteArray := prog_2_method_16_code
def yX0_ownOf : MethodName := ⟨RX0, "ownOf", "(I)I"⟩
abbrev cX0_ownOfBoth : ByteArray := prog_2_method_17_code
def yX0_ownOfBoth : MethodName := ⟨RX0, "ownOfBoth", "(II)I"⟩
abbrev cX0_leastToOwn : ByteArray := prog_2_method_18_code
def yX0_leastToOwn : MethodName := ⟨RX0, "leastToOwn", "(II)I"⟩
abbrev cX0_heardIn : ByteArray := prog_2_method_19_code
def yX0_heardIn : MethodName := ⟨RX0, "heardIn", "(I)I"⟩
def RX1 : String := "BellLand$Bells"
def TX1 : u_T := fun k => match k with
  | 0 => ("BellLand$Bells", "count", "I", false)
  | 1 => ("BellLand$Bells", "kind", "[I", true)
  | 2 => ("BellLand$Bells", "cell", "[I", true)
  | _ => ("BellLand$Bells", "weight", "[I", true)
def tyX1 : Nat → FieldType := fun k => match k with
  | 0 => .int
  | 1 => .array .int
  | 2 => .array .int
  | _ => .array .int
abbrev wsX10 : List Cond := u_ws RX1 TX1 4
theorem nmX1 : ∀ a, a < 4 → ∀ b, b < 4 → a ≠ b → (TX1 a).2.1 ≠ (TX1 b).2.1 := by decide +kernel
theorem tyX1_ok : ∀ k, k < 4 → parseFieldDescriptor (TX1 k).2.2.1 = some (tyX1 k) := by decide +kernel
abbrev cX1_init : ByteArray := prog_3_method_1_code
def yX1_init : MethodName := ⟨RX1, "<init>", "()V"⟩
abbrev cX1_add : ByteArray := prog_3_method_2_code
def yX1_add : MethodName := ⟨RX1, "add", "(III)I"⟩
abbrev cX1_howManyIn : ByteArray := prog_3_method_3_code
def yX1_howManyIn : MethodName := ⟨RX1, "howManyIn", "(I)I"⟩
abbrev cX1_cellsWithBells : ByteArray := prog_3_method_4_code
def yX1_cellsWithBells : MethodName := ⟨RX1, "cellsWithBells", "()I"⟩
def RX2 : String := "BellLand$Foundry"
def TX2 : u_T := fun k => match k with
  | 0 => ("BellLand$Foundry", "bells", "LBellLand$Bells;", true)
  | 1 => ("BellLand$Foundry", "air", "LBellLand$Air;", true)
  | 2 => ("BellLand$Foundry", "weight", "[I", true)
  | 3 => ("BellLand$Foundry", "story", "[J", true)
  | 4 => ("BellLand$Foundry", "rounds", "I", false)
  | _ => ("BellLand$Foundry", "ring", "I", false)
def tyX2 : Nat → FieldType := fun k => match k with
  | 0 => .object "BellLand$Bells"
  | 1 => .object "BellLand$Air"
  | 2 => .array .int
  | 3 => .array .long
  | 4 => .int
  | _ => .int
abbrev wsX20 : List Cond := u_ws RX2 TX2 6
theorem nmX2 : ∀ a, a < 6 → ∀ b, b < 6 → a ≠ b → (TX2 a).2.1 ≠ (TX2 b).2.1 := by decide +kernel
theorem tyX2_ok : ∀ k, k < 6 → parseFieldDescriptor (TX2 k).2.2.1 = some (tyX2 k) := by decide +kernel
abbrev cX2_init : ByteArray := prog_4_method_1_code
def yX2_init : MethodName := ⟨RX2, "<init>", "(LBellLand$Bells;LBellLand$Air;)V"⟩
abbrev cX2_go : ByteArray := prog_4_method_2_code
def yX2_go : MethodName := ⟨RX2, "go", "(I)V"⟩
abbrev cX2_goUntilRepeated : ByteArray := prog_4_method_3_code
def yX2_goUntilRepeated : MethodName := ⟨RX2, "goUntilRepeated", "()V"⟩
abbrev cX2_begin : ByteArray := prog_4_method_4_code
def yX2_begin : MethodName := ⟨RX2, "begin", "()V"⟩
abbrev cX2_allWeights : ByteArray := prog_4_method_5_code
def yX2_allWeights : MethodName := ⟨RX2, "allWeights", "()J"⟩
abbrev cX2_goRound : ByteArray := prog_4_method_6_code
def yX2_goRound : MethodName := ⟨RX2, "goRound", "()V"⟩
abbrev cX2_bestWeight : ByteArray := prog_4_method_7_code
def yX2_bestWeight : MethodName := ⟨RX2, "bestWeight", "(I)I"⟩
def RX3 : String := "BellLand$Ground"
def TX3 : u_T := fun k => match k with
  | 0 => ("BellLand$Ground", "high", "I", false)
  | 1 => ("BellLand$Ground", "wide", "I", false)
  | 2 => ("BellLand$Ground", "cells", "I", false)
  | 3 => ("BellLand$Ground", "planted", "I", false)
  | 4 => ("BellLand$Ground", "height", "[I", true)
  | 5 => ("BellLand$Ground", "row", "[I", true)
  | 6 => ("BellLand$Ground", "column", "[I", true)
  | _ => ("BellLand$Ground", "higher", "[I", true)
def tyX3 : Nat → FieldType := fun k => match k with
  | 0 => .int
  | 1 => .int
  | 2 => .int
  | 3 => .int
  | 4 => .array .int
  | 5 => .array .int
  | 6 => .array .int
  | _ => .array .int
abbrev wsX30 : List Cond := u_ws RX3 TX3 8
theorem nmX3 : ∀ a, a < 8 → ∀ b, b < 8 → a ≠ b → (TX3 a).2.1 ≠ (TX3 b).2.1 := by decide +kernel
theorem tyX3_ok : ∀ k, k < 8 → parseFieldDescriptor (TX3 k).2.2.1 = some (tyX3 k) := by decide +kernel
abbrev cX3_init : ByteArray := prog_5_method_1_code
def yX3_init : MethodName := ⟨RX3, "<init>", "()V"⟩
abbrev cX3_firstFault : ByteArray := prog_5_method_2_code
def yX3_firstFault : MethodName := ⟨RX3, "firstFault", "([III)I"⟩
abbrev cX3_take : ByteArray := prog_5_method_3_code
def yX3_take : MethodName := ⟨RX3, "take", "([II)V"⟩
abbrev cX3_isPlanted : ByteArray := prog_5_method_4_code
def yX3_isPlanted : MethodName := ⟨RX3, "isPlanted", "(I)Z"⟩
abbrev cX3_titheOf : ByteArray := prog_5_method_5_code
def yX3_titheOf : MethodName := ⟨RX3, "titheOf", "(I)I"⟩
abbrev cX3_titheOfSet : ByteArray := prog_5_method_6_code
def yX3_titheOfSet : MethodName := ⟨RX3, "titheOfSet", "(I)I"⟩
abbrev cX3_apart : ByteArray := prog_5_method_7_code
def yX3_apart : MethodName := ⟨RX3, "apart", "(II)I"⟩
abbrev cX3_between : ByteArray := prog_5_method_8_code
def yX3_between : MethodName := ⟨RX3, "between", "(II)I"⟩
abbrev cX3_stepsOn : ByteArray := prog_5_method_9_code
def yX3_stepsOn : MethodName := ⟨RX3, "stepsOn", "(III)I"⟩
abbrev cX3_hillsOn : ByteArray := prog_5_method_10_code
def yX3_hillsOn : MethodName := ⟨RX3, "hillsOn", "(III)I"⟩
abbrev cX3_downwind : ByteArray := prog_5_method_11_code
def yX3_downwind : MethodName := ⟨RX3, "downwind", "(III)I"⟩
def RX4 : String := "BellLand$Reports"
def TX4 : u_T := fun k => match k with
  | 0 => ("BellLand$Reports", "bells", "LBellLand$Bells;", true)
  | 1 => ("BellLand$Reports", "air", "LBellLand$Air;", true)
  | 2 => ("BellLand$Reports", "count", "I", false)
  | 3 => ("BellLand$Reports", "cell", "[I", true)
  | 4 => ("BellLand$Reports", "wind", "[I", true)
  | 5 => ("BellLand$Reports", "louder", "[I", true)
  | _ => ("BellLand$Reports", "than", "[I", true)
def tyX4 : Nat → FieldType := fun k => match k with
  | 0 => .object "BellLand$Bells"
  | 1 => .object "BellLand$Air"
  | 2 => .int
  | 3 => .array .int
  | 4 => .array .int
  | 5 => .array .int
  | _ => .array .int
abbrev wsX40 : List Cond := u_ws RX4 TX4 7
theorem nmX4 : ∀ a, a < 7 → ∀ b, b < 7 → a ≠ b → (TX4 a).2.1 ≠ (TX4 b).2.1 := by decide +kernel
theorem tyX4_ok : ∀ k, k < 7 → parseFieldDescriptor (TX4 k).2.2.1 = some (tyX4 k) := by decide +kernel
abbrev cX4_init : ByteArray := prog_6_method_1_code
def yX4_init : MethodName := ⟨RX4, "<init>", "(LBellLand$Bells;LBellLand$Air;)V"⟩
abbrev cX4_add : ByteArray := prog_6_method_2_code
def yX4_add : MethodName := ⟨RX4, "add", "(IIII)I"⟩
abbrev cX4_isSo : ByteArray := prog_6_method_3_code
def yX4_isSo : MethodName := ⟨RX4, "isSo", "(I)Z"⟩
abbrev cX4_wouldBeSo : ByteArray := prog_6_method_4_code
def yX4_wouldBeSo : MethodName := ⟨RX4, "wouldBeSo", "(III)Z"⟩
abbrev cX4_allowWeight : ByteArray := prog_6_method_5_code
def yX4_allowWeight : MethodName := ⟨RX4, "allowWeight", "(II)Z"⟩
def RX5 : String := "BellLand$Ringing"
def TX5 : u_T := fun k => match k with
  | 0 => ("BellLand$Ringing", "bells", "LBellLand$Bells;", true)
  | 1 => ("BellLand$Ringing", "air", "LBellLand$Air;", true)
  | 2 => ("BellLand$Ringing", "heard", "[I", true)
  | _ => ("BellLand$Ringing", "turn", "[I", true)
def tyX5 : Nat → FieldType := fun k => match k with
  | 0 => .object "BellLand$Bells"
  | 1 => .object "BellLand$Air"
  | 2 => .array .int
  | _ => .array .int
abbrev wsX50 : List Cond := u_ws RX5 TX5 4
theorem nmX5 : ∀ a, a < 4 → ∀ b, b < 4 → a ≠ b → (TX5 a).2.1 ≠ (TX5 b).2.1 := by decide +kernel
theorem tyX5_ok : ∀ k, k < 4 → parseFieldDescriptor (TX5 k).2.2.1 = some (tyX5 k) := by decide +kernel
abbrev cX5_init : ByteArray := prog_7_method_1_code
def yX5_init : MethodName := ⟨RX5, "<init>", "(LBellLand$Bells;LBellLand$Air;)V"⟩
abbrev cX5_fewest : ByteArray := prog_7_method_2_code
def yX5_fewest : MethodName := ⟨RX5, "fewest", "()I"⟩
abbrev cX5_findFirstRow : ByteArray := prog_7_method_3_code
def yX5_findFirstRow : MethodName := ⟨RX5, "findFirstRow", "(I)Z"⟩
abbrev cX5_nextWithoutClash : ByteArray := prog_7_method_4_code
def yX5_nextWithoutClash : MethodName := ⟨RX5, "nextWithoutClash", "(III)I"⟩
abbrev cX5_clashesIn : ByteArray := prog_7_method_5_code
def yX5_clashesIn : MethodName := ⟨RX5, "clashesIn", "(II)Z"⟩
def RX6 : String := "BellLand$Sheet"
def TX6 : u_T := fun k => match k with
  | 0 => ("BellLand$Sheet", "numbers", "[I", true)
  | 1 => ("BellLand$Sheet", "isThere", "Z", false)
  | 2 => ("BellLand$Sheet", "sort", "I", false)
  | _ => ("BellLand$Sheet", "size", "I", false)
def tyX6 : Nat → FieldType := fun k => match k with
  | 0 => .array .int
  | 1 => .boolean
  | 2 => .int
  | _ => .int
abbrev wsX60 : List Cond := u_ws RX6 TX6 4
theorem nmX6 : ∀ a, a < 4 → ∀ b, b < 4 → a ≠ b → (TX6 a).2.1 ≠ (TX6 b).2.1 := by decide +kernel
theorem tyX6_ok : ∀ k, k < 4 → parseFieldDescriptor (TX6 k).2.2.1 = some (tyX6 k) := by decide +kernel
abbrev cX6_init : ByteArray := prog_8_method_1_code
def yX6_init : MethodName := ⟨RX6, "<init>", "()V"⟩
abbrev cX6_renew : ByteArray := prog_8_method_2_code
def yX6_renew : MethodName := ⟨RX6, "renew", "(II)V"⟩
abbrev cX6_cut : ByteArray := prog_8_method_3_code
def yX6_cut : MethodName := ⟨RX6, "cut", "(I)I"⟩
abbrev cX6_hasNumber : ByteArray := prog_8_method_4_code
def yX6_hasNumber : MethodName := ⟨RX6, "hasNumber", "(I)Z"⟩
abbrev cX6_hasNumbers : ByteArray := prog_8_method_5_code
def yX6_hasNumbers : MethodName := ⟨RX6, "hasNumbers", "(II)Z"⟩
abbrev cX6_faultOfSort : ByteArray := prog_8_method_6_code
def yX6_faultOfSort : MethodName := ⟨RX6, "faultOfSort", "(I)I"⟩
abbrev cX6_faultOfRow : ByteArray := prog_8_method_7_code
def yX6_faultOfRow : MethodName := ⟨RX6, "faultOfRow", "(III)I"⟩
def RX7 : String := "BellLand$Woods"
def TX7 : u_T := fun k => match k with
  | 0 => ("BellLand$Woods", "ground", "LBellLand$Ground;", true)
  | 1 => ("BellLand$Woods", "bells", "LBellLand$Bells;", true)
  | 2 => ("BellLand$Woods", "air", "LBellLand$Air;", true)
  | 3 => ("BellLand$Woods", "grains", "[J", true)
  | 4 => ("BellLand$Woods", "way", "[I", true)
  | 5 => ("BellLand$Woods", "owner", "I", false)
  | _ => ("BellLand$Woods", "plantable", "I", false)
def tyX7 : Nat → FieldType := fun k => match k with
  | 0 => .object "BellLand$Ground"
  | 1 => .object "BellLand$Bells"
  | 2 => .object "BellLand$Air"
  | 3 => .array .long
  | 4 => .array .int
  | 5 => .int
  | _ => .int
abbrev wsX70 : List Cond := u_ws RX7 TX7 7
theorem nmX7 : ∀ a, a < 7 → ∀ b, b < 7 → a ≠ b → (TX7 a).2.1 ≠ (TX7 b).2.1 := by decide +kernel
theorem tyX7_ok : ∀ k, k < 7 → parseFieldDescriptor (TX7 k).2.2.1 = some (tyX7 k) := by decide +kernel
abbrev cX7_init : ByteArray := prog_9_method_1_code
def yX7_init : MethodName := ⟨RX7, "<init>", "(LBellLand$Ground;LBellLand$Bells;LBellLand$Air;)V"⟩
abbrev cX7_fewestToKeep : ByteArray := prog_9_method_2_code
def yX7_fewestToKeep : MethodName := ⟨RX7, "fewestToKeep", "(II)I"⟩
abbrev cX7_firstSet : ByteArray := prog_9_method_3_code
def yX7_firstSet : MethodName := ⟨RX7, "firstSet", "(LBellLand$Woods;III)I"⟩
abbrev cX7_isKeptBy : ByteArray := prog_9_method_4_code
def yX7_isKeptBy : MethodName := ⟨RX7, "isKeptBy", "(I)Z"⟩
abbrev cX7_dimmed : ByteArray := prog_9_method_5_code
def yX7_dimmed : MethodName := ⟨RX7, "dimmed", "(II)J"⟩
def RX8 : String := "BellLand"
def TX8 : u_T := fun k => match k with
  | 0 => ("BellLand", "ground", "LBellLand$Ground;", true)
  | 1 => ("BellLand", "bells", "LBellLand$Bells;", true)
  | 2 => ("BellLand", "air", "LBellLand$Air;", true)
  | 3 => ("BellLand", "reports", "LBellLand$Reports;", true)
  | 4 => ("BellLand", "woods", "LBellLand$Woods;", true)
  | 5 => ("BellLand", "ringing", "LBellLand$Ringing;", true)
  | 6 => ("BellLand", "foundry", "LBellLand$Foundry;", true)
  | 7 => ("BellLand", "sheets", "[LBellLand$Sheet;", true)
  | 8 => ("BellLand", "fault", "I", false)
  | _ => ("BellLand", "trace", "I", false)
def tyX8 : Nat → FieldType := fun k => match k with
  | 0 => .object "BellLand$Ground"
  | 1 => .object "BellLand$Bells"
  | 2 => .object "BellLand$Air"
  | 3 => .object "BellLand$Reports"
  | 4 => .object "BellLand$Woods"
  | 5 => .object "BellLand$Ringing"
  | 6 => .object "BellLand$Foundry"
  | 7 => .array (.object "BellLand$Sheet")
  | 8 => .int
  | _ => .int
abbrev wsX80 : List Cond := u_ws RX8 TX8 10
theorem nmX8 : ∀ a, a < 10 → ∀ b, b < 10 → a ≠ b → (TX8 a).2.1 ≠ (TX8 b).2.1 := by decide +kernel
theorem tyX8_ok : ∀ k, k < 10 → parseFieldDescriptor (TX8 k).2.2.1 = some (tyX8 k) := by decide +kernel
abbrev cX8_init : ByteArray := prog_1_method_1_code
def yX8_init : MethodName := ⟨RX8, "<init>", "()V"⟩
abbrev cX8_land : ByteArray := prog_1_method_2_code
def yX8_land : MethodName := ⟨RX8, "land", "(IIII)I"⟩
abbrev cX8_ofCell : ByteArray := prog_1_method_3_code
def yX8_ofCell : MethodName := ⟨RX8, "ofCell", "(II)I"⟩
abbrev cX8_plant : ByteArray := prog_1_method_4_code
def yX8_plant : MethodName := ⟨RX8, "plant", "(IZ)I"⟩
abbrev cX8_ear : ByteArray := prog_1_method_5_code
def yX8_ear : MethodName := ⟨RX8, "ear", "(I)I"⟩
abbrev cX8_bell : ByteArray := prog_1_method_6_code
def yX8_bell : MethodName := ⟨RX8, "bell", "(III)I"⟩
abbrev cX8_ofBell : ByteArray := prog_1_method_7_code
def yX8_ofBell : MethodName := ⟨RX8, "ofBell", "(II)I"⟩
abbrev cX8_recast : ByteArray := prog_1_method_8_code
def yX8_recast : MethodName := ⟨RX8, "recast", "(II)I"⟩
abbrev cX8_loud : ByteArray := prog_1_method_9_code
def yX8_loud : MethodName := ⟨RX8, "loud", "(IIII)J"⟩
abbrev cX8_whose : ByteArray := prog_1_method_10_code
def yX8_whose : MethodName := ⟨RX8, "whose", "(II)I"⟩
abbrev cX8_reach : ByteArray := prog_1_method_11_code
def yX8_reach : MethodName := ⟨RX8, "reach", "(II)I"⟩
abbrev cX8_tithes : ByteArray := prog_1_method_12_code
def yX8_tithes : MethodName := ⟨RX8, "tithes", "(IIIIII)J"⟩
abbrev cX8_wins : ByteArray := prog_1_method_13_code
def yX8_wins : MethodName := ⟨RX8, "wins", "(III)I"⟩
abbrev cX8_cheapest : ByteArray := prog_1_method_14_code
def yX8_cheapest : MethodName := ⟨RX8, "cheapest", "(III)I"⟩
abbrev cX8_hang : ByteArray := prog_1_method_15_code
def yX8_hang : MethodName := ⟨RX8, "hang", "(IIII)I"⟩
abbrev cX8_together : ByteArray := prog_1_method_16_code
def yX8_together : MethodName := ⟨RX8, "together", "(III)I"⟩
abbrev cX8_pacts : ByteArray := prog_1_method_17_code
def yX8_pacts : MethodName := ⟨RX8, "pacts", "(II)I"⟩
abbrev cX8_report : ByteArray := prog_1_method_18_code
def yX8_report : MethodName := ⟨RX8, "report", "(IIII)I"⟩
abbrev cX8_back : ByteArray := prog_1_method_19_code
def yX8_back : MethodName := ⟨RX8, "back", "(I)I"⟩
abbrev cX8_untrue : ByteArray := prog_1_method_20_code
def yX8_untrue : MethodName := ⟨RX8, "untrue", "()I"⟩
abbrev cX8_leaves : ByteArray := prog_1_method_21_code
def yX8_leaves : MethodName := ⟨RX8, "leaves", "(II)I"⟩
abbrev cX8_keep : ByteArray := prog_1_method_22_code
def yX8_keep : MethodName := ⟨RX8, "keep", "(IIII)I"⟩
abbrev cX8_turns : ByteArray := prog_1_method_23_code
def yX8_turns : MethodName := ⟨RX8, "turns", "(II)I"⟩
abbrev cX8_settles : ByteArray := prog_1_method_24_code
def yX8_settles : MethodName := ⟨RX8, "settles", "(II)I"⟩
abbrev cX8_after : ByteArray := prog_1_method_25_code
def yX8_after : MethodName := ⟨RX8, "after", "(III)I"⟩
abbrev cX8_sheet : ByteArray := prog_1_method_26_code
def yX8_sheet : MethodName := ⟨RX8, "sheet", "(III)I"⟩
abbrev cX8_lose : ByteArray := prog_1_method_27_code
def yX8_lose : MethodName := ⟨RX8, "lose", "(I)I"⟩
abbrev cX8_put : ByteArray := prog_1_method_28_code
def yX8_put : MethodName := ⟨RX8, "put", "(III)I"⟩
abbrev cX8_cell : ByteArray := prog_1_method_29_code
def yX8_cell : MethodName := ⟨RX8, "cell", "(III)J"⟩
abbrev cX8_copy : ByteArray := prog_1_method_30_code
def yX8_copy : MethodName := ⟨RX8, "copy", "(IIIII)I"⟩
abbrev cX8_tell : ByteArray := prog_1_method_31_code
def yX8_tell : MethodName := ⟨RX8, "tell", "(I)I"⟩
abbrev cX8_bless : ByteArray := prog_1_method_32_code
def yX8_bless : MethodName := ⟨RX8, "bless", "(I)I"⟩
abbrev cX8_as : ByteArray := prog_1_method_33_code
def yX8_as : MethodName := ⟨RX8, "as", "(II)I"⟩
abbrev cX8_trace : ByteArray := prog_1_method_34_code
def yX8_trace : MethodName := ⟨RX8, "trace", "()I"⟩
abbrev cX8_fault : ByteArray := prog_1_method_35_code
def yX8_fault : MethodName := ⟨RX8, "fault", "()I"⟩
abbrev cX8_many : ByteArray := prog_1_method_36_code
def yX8_many : MethodName := ⟨RX8, "many", "(I)I"⟩
abbrev cX8_isCell : ByteArray := prog_1_method_37_code
def yX8_isCell : MethodName := ⟨RX8, "isCell", "(I)Z"⟩
abbrev cX8_isBell : ByteArray := prog_1_method_38_code
def yX8_isBell : MethodName := ⟨RX8, "isBell", "(I)Z"⟩
abbrev cX8_isSheet : ByteArray := prog_1_method_39_code
def yX8_isSheet : MethodName := ⟨RX8, "isSheet", "(I)Z"⟩
abbrev cX8_isSort : ByteArray := prog_1_method_40_code
def yX8_isSort : MethodName := ⟨RX8, "isSort", "(I)Z"⟩
abbrev cX8_isKind : ByteArray := prog_1_method_41_code
def yX8_isKind : MethodName := ⟨RX8, "isKind", "(I)Z"⟩
abbrev cX8_isWeight : ByteArray := prog_1_method_42_code
def yX8_isWeight : MethodName := ⟨RX8, "isWeight", "(I)Z"⟩
abbrev cX8_isWind : ByteArray := prog_1_method_43_code
def yX8_isWind : MethodName := ⟨RX8, "isWind", "(I)Z"⟩
abbrev cX8_isOneOfTwo : ByteArray := prog_1_method_44_code
def yX8_isOneOfTwo : MethodName := ⟨RX8, "isOneOfTwo", "(I)Z"⟩
abbrev cX8_faulty : ByteArray := prog_1_method_45_code
def yX8_faulty : MethodName := ⟨RX8, "faulty", "(I)I"⟩
abbrev cX8_share : ByteArray := prog_1_method_46_code
def yX8_share : MethodName := ⟨RX8, "share", "(JJI)J"⟩
abbrev cX8_greatestCommon : ByteArray := prog_1_method_47_code
def yX8_greatestCommon : MethodName := ⟨RX8, "greatestCommon", "(JJ)J"⟩
abbrev cX8_memberOf : ByteArray := prog_1_method_48_code
def yX8_memberOf : MethodName := ⟨RX8, "memberOf", "(II)I"⟩
abbrev cX8_partsOfTithe : ByteArray := prog_1_method_49_code
def yX8_partsOfTithe : MethodName := ⟨RX8, "partsOfTithe", "(I)I"⟩
abbrev cX8_isPact : ByteArray := prog_1_method_50_code
def yX8_isPact : MethodName := ⟨RX8, "isPact", "(II)Z"⟩
abbrev cX8_mark : ByteArray := prog_1_method_51_code
def yX8_mark : MethodName := ⟨RX8, "mark", "(I)V"⟩
abbrev cX8_bellBody : ByteArray := prog_1_method_52_code
def yX8_bellBody : MethodName := ⟨RX8, "bellBody", "(I)I"⟩
abbrev cX8_tenorBody : ByteArray := prog_1_method_53_code
def yX8_tenorBody : MethodName := ⟨RX8, "tenorBody", "(I)I"⟩
abbrev cX8_greatBody : ByteArray := prog_1_method_54_code
def yX8_greatBody : MethodName := ⟨RX8, "greatBody", "(I)I"⟩
abbrev cX8_lentBody : ByteArray := prog_1_method_55_code
def yX8_lentBody : MethodName := ⟨RX8, "lentBody", "(I)I"⟩
abbrev cX8_greatBlessing : ByteArray := prog_1_method_56_code
def yX8_greatBlessing : MethodName := ⟨RX8, "greatBlessing", "()I"⟩
def RX9 : String := "BellLandModel"
def TX9 : u_T := fun k => match k with
  | 0 => ("BellLandModel", "fault", "I", false)
  | 1 => ("BellLandModel", "trace", "I", false)
  | 2 => ("BellLandModel", "sorts", "[I", true)
  | 3 => ("BellLandModel", "sheetLong", "[I", true)
  | 4 => ("BellLandModel", "cells", "[I", true)
  | 5 => ("BellLandModel", "high", "I", false)
  | 6 => ("BellLandModel", "wide", "I", false)
  | 7 => ("BellLandModel", "ear", "I", false)
  | 8 => ("BellLandModel", "height", "[I", true)
  | 9 => ("BellLandModel", "planted", "[Z", true)
  | 10 => ("BellLandModel", "at", "I", false)
  | 11 => ("BellLandModel", "readHigh", "I", false)
  | 12 => ("BellLandModel", "readWide", "I", false)
  | 13 => ("BellLandModel", "readHeight", "[I", true)
  | 14 => ("BellLandModel", "bells", "I", false)
  | 15 => ("BellLandModel", "kind", "[I", true)
  | 16 => ("BellLandModel", "place", "[I", true)
  | 17 => ("BellLandModel", "weight", "[I", true)
  | 18 => ("BellLandModel", "up", "J", false)
  | 19 => ("BellLandModel", "down", "J", false)
  | 20 => ("BellLandModel", "ups", "[J", true)
  | 21 => ("BellLandModel", "downs", "[J", true)
  | 22 => ("BellLandModel", "loudest", "I", false)
  | 23 => ("BellLandModel", "reports", "I", false)
  | 24 => ("BellLandModel", "reportCell", "[I", true)
  | 25 => ("BellLandModel", "reportWind", "[I", true)
  | 26 => ("BellLandModel", "reportLouder", "[I", true)
  | 27 => ("BellLandModel", "reportThan", "[I", true)
  | 28 => ("BellLandModel", "tried", "[I", true)
  | 29 => ("BellLandModel", "clashes", "[Z", true)
  | 30 => ("BellLandModel", "turn", "[I", true)
  | _ => ("BellLandModel", "behind", "[I", true)
def tyX9 : Nat → FieldType := fun k => match k with
  | 0 => .int
  | 1 => .int
  | 2 => .array .int
  | 3 => .array .int
  | 4 => .array .int
  | 5 => .int
  | 6 => .int
  | 7 => .int
  | 8 => .array .int
  | 9 => .array .boolean
  | 10 => .int
  | 11 => .int
  | 12 => .int
  | 13 => .array .int
  | 14 => .int
  | 15 => .array .int
  | 16 => .array .int
  | 17 => .array .int
  | 18 => .long
  | 19 => .long
  | 20 => .array .long
  | 21 => .array .long
  | 22 => .int
  | 23 => .int
  | 24 => .array .int
  | 25 => .array .int
  | 26 => .array .int
  | 27 => .array .int
  | 28 => .array .int
  | 29 => .array .boolean
  | 30 => .array .int
  | _ => .array .int
abbrev wsX90 : List Cond := u_ws RX9 TX9 32
theorem nmX9 : ∀ a, a < 32 → ∀ b, b < 32 → a ≠ b → (TX9 a).2.1 ≠ (TX9 b).2.1 := by decide +kernel
theorem tyX9_ok : ∀ k, k < 32 → parseFieldDescriptor (TX9 k).2.2.1 = some (tyX9 k) := by decide +kernel
abbrev cX9_init : ByteArray := prog_11_method_1_code
def yX9_init : MethodName := ⟨RX9, "<init>", "()V"⟩
abbrev cX9_fails : ByteArray := prog_11_method_3_code
def yX9_fails : MethodName := ⟨RX9, "fails", "(I)I"⟩
abbrev cX9_lost : ByteArray := prog_11_method_4_code
def yX9_lost : MethodName := ⟨RX9, "lost", "(I)J"⟩
abbrev cX9_within : ByteArray := prog_11_method_5_code
def yX9_within : MethodName := ⟨RX9, "within", "(III)Z"⟩
abbrev cX9_share : ByteArray := prog_11_method_6_code
def yX9_share : MethodName := ⟨RX9, "share", "(JJI)J"⟩
abbrev cX9_isSheet : ByteArray := prog_11_method_7_code
def yX9_isSheet : MethodName := ⟨RX9, "isSheet", "(I)Z"⟩
abbrev cX9_isSort : ByteArray := prog_11_method_8_code
def yX9_isSort : MethodName := ⟨RX9, "isSort", "(I)Z"⟩
abbrev cX9_against : ByteArray := prog_11_method_9_code
def yX9_against : MethodName := ⟨RX9, "against", "(IIII)I"⟩
abbrev cX9_all : ByteArray := prog_11_method_10_code
def yX9_all : MethodName := ⟨RX9, "all", "()I"⟩
abbrev cX9_isCell : ByteArray := prog_11_method_11_code
def yX9_isCell : MethodName := ⟨RX9, "isCell", "(I)Z"⟩
abbrev cX9_digitAt : ByteArray := prog_11_method_12_code
def yX9_digitAt : MethodName := ⟨RX9, "digitAt", "(II)I"⟩
abbrev cX9_isCode : ByteArray := prog_11_method_13_code
def yX9_isCode : MethodName := ⟨RX9, "isCode", "(II)Z"⟩
abbrev cX9_land : ByteArray := prog_11_method_14_code
def yX9_land : MethodName := ⟨RX9, "land", "(IIII)I"⟩
abbrev cX9_readLand : ByteArray := prog_11_method_15_code
def yX9_readLand : MethodName := ⟨RX9, "readLand", "(I)Z"⟩
abbrev cX9_tithe : ByteArray := prog_11_method_16_code
def yX9_tithe : MethodName := ⟨RX9, "tithe", "(I)I"⟩
abbrev cX9_ofCell : ByteArray := prog_11_method_17_code
def yX9_ofCell : MethodName := ⟨RX9, "ofCell", "(II)I"⟩
abbrev cX9_hanging : ByteArray := prog_11_method_18_code
def yX9_hanging : MethodName := ⟨RX9, "hanging", "(I)I"⟩
abbrev cX9_plant : ByteArray := prog_11_method_19_code
def yX9_plant : MethodName := ⟨RX9, "plant", "(IZ)I"⟩
abbrev cX9_ear : ByteArray := prog_11_method_20_code
def yX9_ear : MethodName := ⟨RX9, "ear", "(I)I"⟩
abbrev cX9_isBell : ByteArray := prog_11_method_21_code
def yX9_isBell : MethodName := ⟨RX9, "isBell", "(I)Z"⟩
abbrev cX9_isWeight : ByteArray := prog_11_method_22_code
def yX9_isWeight : MethodName := ⟨RX9, "isWeight", "(I)Z"⟩
abbrev cX9_isWind : ByteArray := prog_11_method_23_code
def yX9_isWind : MethodName := ⟨RX9, "isWind", "(I)Z"⟩
abbrev cX9_bell : ByteArray := prog_11_method_24_code
def yX9_bell : MethodName := ⟨RX9, "bell", "(III)I"⟩
abbrev cX9_ofBell : ByteArray := prog_11_method_25_code
def yX9_ofBell : MethodName := ⟨RX9, "ofBell", "(II)I"⟩
abbrev cX9_recast : ByteArray := prog_11_method_26_code
def yX9_recast : MethodName := ⟨RX9, "recast", "(II)I"⟩
abbrev cX9_size : ByteArray := prog_11_method_27_code
def yX9_size : MethodName := ⟨RX9, "size", "(I)I"⟩
abbrev cX9_onTo : ByteArray := prog_11_method_28_code
def yX9_onTo : MethodName := ⟨RX9, "onTo", "(III)I"⟩
abbrev cX9_findLoud : ByteArray := prog_11_method_29_code
def yX9_findLoud : MethodName := ⟨RX9, "findLoud", "(III)V"⟩
abbrev cX9_alongWind : ByteArray := prog_11_method_30_code
def yX9_alongWind : MethodName := ⟨RX9, "alongWind", "(III)I"⟩
abbrev cX9_loud : ByteArray := prog_11_method_31_code
def yX9_loud : MethodName := ⟨RX9, "loud", "(IIII)J"⟩
abbrev cX9_layLoud : ByteArray := prog_11_method_32_code
def yX9_layLoud : MethodName := ⟨RX9, "layLoud", "(I)V"⟩
abbrev cX9_layOne : ByteArray := prog_11_method_33_code
def yX9_layOne : MethodName := ⟨RX9, "layOne", "(II)V"⟩
abbrev cX9_isHeard : ByteArray := prog_11_method_34_code
def yX9_isHeard : MethodName := ⟨RX9, "isHeard", "(II)Z"⟩
abbrev cX9_louderBy : ByteArray := prog_11_method_35_code
def yX9_louderBy : MethodName := ⟨RX9, "louderBy", "(III)J"⟩
abbrev cX9_manyLoudest : ByteArray := prog_11_method_36_code
def yX9_manyLoudest : MethodName := ⟨RX9, "manyLoudest", "(I)I"⟩
abbrev cX9_whoseBy : ByteArray := prog_11_method_37_code
def yX9_whoseBy : MethodName := ⟨RX9, "whoseBy", "(I)I"⟩
abbrev cX9_whose : ByteArray := prog_11_method_38_code
def yX9_whose : MethodName := ⟨RX9, "whose", "(II)I"⟩
abbrev cX9_reaches : ByteArray := prog_11_method_39_code
def yX9_reaches : MethodName := ⟨RX9, "reaches", "(II)Z"⟩
abbrev cX9_reach : ByteArray := prog_11_method_40_code
def yX9_reach : MethodName := ⟨RX9, "reach", "(II)I"⟩
abbrev cX9_tithesOf : ByteArray := prog_11_method_41_code
def yX9_tithesOf : MethodName := ⟨RX9, "tithesOf", "(I)J"⟩
abbrev cX9_tithes : ByteArray := prog_11_method_42_code
def yX9_tithes : MethodName := ⟨RX9, "tithes", "(IIIIII)J"⟩
abbrev cX9_winsBy : ByteArray := prog_11_method_43_code
def yX9_winsBy : MethodName := ⟨RX9, "winsBy", "(II)I"⟩
abbrev cX9_wins : ByteArray := prog_11_method_44_code
def yX9_wins : MethodName := ⟨RX9, "wins", "(III)I"⟩
abbrev cX9_cheapest : ByteArray := prog_11_method_45_code
def yX9_cheapest : MethodName := ⟨RX9, "cheapest", "(III)I"⟩
abbrev cX9_ownCells : ByteArray := prog_11_method_46_code
def yX9_ownCells : MethodName := ⟨RX9, "ownCells", "(I)I"⟩
abbrev cX9_hang : ByteArray := prog_11_method_47_code
def yX9_hang : MethodName := ⟨RX9, "hang", "(IIII)I"⟩
abbrev cX9_isTheirs : ByteArray := prog_11_method_48_code
def yX9_isTheirs : MethodName := ⟨RX9, "isTheirs", "(III)Z"⟩
abbrev cX9_together : ByteArray := prog_11_method_49_code
def yX9_together : MethodName := ⟨RX9, "together", "(III)I"⟩
abbrev cX9_ownTithes : ByteArray := prog_11_method_50_code
def yX9_ownTithes : MethodName := ⟨RX9, "ownTithes", "(I)I"⟩
abbrev cX9_isPact : ByteArray := prog_11_method_51_code
def yX9_isPact : MethodName := ⟨RX9, "isPact", "(II)Z"⟩
abbrev cX9_pacts : ByteArray := prog_11_method_52_code
def yX9_pacts : MethodName := ⟨RX9, "pacts", "(II)I"⟩
abbrev cX9_report : ByteArray := prog_11_method_53_code
def yX9_report : MethodName := ⟨RX9, "report", "(IIII)I"⟩
abbrev cX9_back : ByteArray := prog_11_method_54_code
def yX9_back : MethodName := ⟨RX9, "back", "(I)I"⟩
abbrev cX9_isSo : ByteArray := prog_11_method_55_code
def yX9_isSo : MethodName := ⟨RX9, "isSo", "(I)Z"⟩
abbrev cX9_untrue : ByteArray := prog_11_method_56_code
def yX9_untrue : MethodName := ⟨RX9, "untrue", "()I"⟩
abbrev cX9_areSoOf : ByteArray := prog_11_method_57_code
def yX9_areSoOf : MethodName := ⟨RX9, "areSoOf", "(I)Z"⟩
abbrev cX9_leaves : ByteArray := prog_11_method_58_code
def yX9_leaves : MethodName := ⟨RX9, "leaves", "(II)I"⟩
abbrev cX9_isOwn : ByteArray := prog_11_method_59_code
def yX9_isOwn : MethodName := ⟨RX9, "isOwn", "(III)Z"⟩
abbrev cX9_mayPlant : ByteArray := prog_11_method_60_code
def yX9_mayPlant : MethodName := ⟨RX9, "mayPlant", "(II)Z"⟩
abbrev cX9_keepsBy : ByteArray := prog_11_method_61_code
def yX9_keepsBy : MethodName := ⟨RX9, "keepsBy", "(IIII)Z"⟩
abbrev cX9_nextOf : ByteArray := prog_11_method_62_code
def yX9_nextOf : MethodName := ⟨RX9, "nextOf", "(II)I"⟩
abbrev cX9_keepsSo : ByteArray := prog_11_method_63_code
def yX9_keepsSo : MethodName := ⟨RX9, "keepsSo", "(IIIIII)Z"⟩
abbrev cX9_plantTried : ByteArray := prog_11_method_64_code
def yX9_plantTried : MethodName := ⟨RX9, "plantTried", "(Z)V"⟩
abbrev cX9_keep : ByteArray := prog_11_method_65_code
def yX9_keep : MethodName := ⟨RX9, "keep", "(IIII)I"⟩
abbrev cX9_layClashes : ByteArray := prog_11_method_66_code
def yX9_layClashes : MethodName := ⟨RX9, "layClashes", "()V"⟩
abbrev cX9_mayRing : ByteArray := prog_11_method_67_code
def yX9_mayRing : MethodName := ⟨RX9, "mayRing", "(II)Z"⟩
abbrev cX9_areTurns : ByteArray := prog_11_method_68_code
def yX9_areTurns : MethodName := ⟨RX9, "areTurns", "(I)Z"⟩
abbrev cX9_turns : ByteArray := prog_11_method_69_code
def yX9_turns : MethodName := ⟨RX9, "turns", "(II)I"⟩
abbrev cX9_takesBest : ByteArray := prog_11_method_70_code
def yX9_takesBest : MethodName := ⟨RX9, "takesBest", "(I)V"⟩
abbrev cX9_layRounds : ByteArray := prog_11_method_71_code
def yX9_layRounds : MethodName := ⟨RX9, "layRounds", "(II)V"⟩
abbrev cX9_areAlike : ByteArray := prog_11_method_72_code
def yX9_areAlike : MethodName := ⟨RX9, "areAlike", "(II)Z"⟩
abbrev cX9_settles : ByteArray := prog_11_method_73_code
def yX9_settles : MethodName := ⟨RX9, "settles", "(II)I"⟩
abbrev cX9_after : ByteArray := prog_11_method_74_code
def yX9_after : MethodName := ⟨RX9, "after", "(III)I"⟩
abbrev cX9_sheet : ByteArray := prog_11_method_75_code
def yX9_sheet : MethodName := ⟨RX9, "sheet", "(III)I"⟩
abbrev cX9_lose : ByteArray := prog_11_method_76_code
def yX9_lose : MethodName := ⟨RX9, "lose", "(I)I"⟩
abbrev cX9_put : ByteArray := prog_11_method_77_code
def yX9_put : MethodName := ⟨RX9, "put", "(III)I"⟩
abbrev cX9_cell : ByteArray := prog_11_method_78_code
def yX9_cell : MethodName := ⟨RX9, "cell", "(III)J"⟩
abbrev cX9_copy : ByteArray := prog_11_method_79_code
def yX9_copy : MethodName := ⟨RX9, "copy", "(IIIII)I"⟩
abbrev cX9_begins : ByteArray := prog_11_method_80_code
def yX9_begins : MethodName := ⟨RX9, "begins", "(I)V"⟩
abbrev cX9_tell : ByteArray := prog_11_method_81_code
def yX9_tell : MethodName := ⟨RX9, "tell", "(I)I"⟩
abbrev cX9_bless : ByteArray := prog_11_method_82_code
def yX9_bless : MethodName := ⟨RX9, "bless", "(I)I"⟩
abbrev cX9_as : ByteArray := prog_11_method_83_code
def yX9_as : MethodName := ⟨RX9, "as", "(II)I"⟩
abbrev cX9_trace : ByteArray := prog_11_method_84_code
def yX9_trace : MethodName := ⟨RX9, "trace", "()I"⟩
abbrev cX9_fault : ByteArray := prog_11_method_85_code
def yX9_fault : MethodName := ⟨RX9, "fault", "()I"⟩
abbrev cX9_many : ByteArray := prog_11_method_86_code
def yX9_many : MethodName := ⟨RX9, "many", "(I)I"⟩
def RJ6 : String := "java/lang/Integer"
def TJ6 : u_T := fun k => match k with
  | _ => ("", "", "", false)
def tyJ6 : Nat → FieldType := fun k => match k with
  | _ => .int
abbrev wsJ60 : List Cond := u_ws RJ6 TJ6 0
theorem nmJ6 : ∀ a, a < 0 → ∀ b, b < 0 → a ≠ b → (TJ6 a).2.1 ≠ (TJ6 b).2.1 := by decide +kernel
theorem tyJ6_ok : ∀ k, k < 0 → parseFieldDescriptor (TJ6 k).2.2.1 = some (tyJ6 k) := by decide +kernel
abbrev cJ6_bitCount_0f7a4 : ByteArray := prog_12_method_49_code
def yJ6_bitCount_0f7a4 : MethodName := ⟨RJ6, "bitCount", "(I)I"⟩
def RJ9 : String := "java/lang/Math"
def TJ9 : u_T := fun k => match k with
  | _ => ("", "", "", false)
def tyJ9 : Nat → FieldType := fun k => match k with
  | _ => .int
abbrev wsJ90 : List Cond := u_ws RJ9 TJ9 0
theorem nmJ9 : ∀ a, a < 0 → ∀ b, b < 0 → a ≠ b → (TJ9 a).2.1 ≠ (TJ9 b).2.1 := by decide +kernel
theorem tyJ9_ok : ∀ k, k < 0 → parseFieldDescriptor (TJ9 k).2.2.1 = some (tyJ9 k) := by decide +kernel
abbrev cJ9_abs_0f7a4 : ByteArray := prog_13_method_59_code
def yJ9_abs_0f7a4 : MethodName := ⟨RJ9, "abs", "(I)I"⟩
abbrev cJ9_max_7cf53 : ByteArray := prog_13_method_65_code
def yJ9_max_7cf53 : MethodName := ⟨RJ9, "max", "(II)I"⟩
abbrev cJ9_max_f86c9 : ByteArray := prog_13_method_66_code
def yJ9_max_f86c9 : MethodName := ⟨RJ9, "max", "(JJ)J"⟩
abbrev cJ9_min_7cf53 : ByteArray := prog_13_method_69_code
def yJ9_min_7cf53 : MethodName := ⟨RJ9, "min", "(II)I"⟩
def RJ10 : String := "java/lang/System"
def TJ10 : u_T := fun k => match k with
  | _ => ("", "", "", false)
def tyJ10 : Nat → FieldType := fun k => match k with
  | _ => .int
abbrev wsJ100 : List Cond := u_ws RJ10 TJ10 0
theorem nmJ10 : ∀ a, a < 0 → ∀ b, b < 0 → a ≠ b → (TJ10 a).2.1 ≠ (TJ10 b).2.1 := by decide +kernel
theorem tyJ10_ok : ∀ k, k < 0 → parseFieldDescriptor (TJ10 k).2.2.1 = some (tyJ10 k) := by decide +kernel
def RJ7 : String := "java/util/Arrays"
def TJ7 : u_T := fun k => match k with
  | _ => ("", "", "", false)
def tyJ7 : Nat → FieldType := fun k => match k with
  | _ => .int
abbrev wsJ70 : List Cond := u_ws RJ7 TJ7 0
theorem nmJ7 : ∀ a, a < 0 → ∀ b, b < 0 → a ≠ b → (TJ7 a).2.1 ≠ (TJ7 b).2.1 := by decide +kernel
theorem tyJ7_ok : ∀ k, k < 0 → parseFieldDescriptor (TJ7 k).2.2.1 = some (tyJ7 k) := by decide +kernel
abbrev cJ7_fill_53178 : ByteArray := prog_15_method_103_code
def yJ7_fill_53178 : MethodName := ⟨RJ7, "fill", "([II)V"⟩
def RL : String := "BellLandLaw"
abbrev cL_law : ByteArray := code
def yL_law : MethodName := ⟨RL, "law", "([I)Z"⟩
abbrev vwCl : List vw_C := [(RX0, TX0, 7), (RX1, TX1, 4), (RX2, TX2, 6), (RX3, TX3, 8), (RX4, TX4, 7), (RX5, TX5, 4), (RX6, TX6, 4), (RX7, TX7, 7), (RX8, TX8, 10), (RX9, TX9, 32)]
