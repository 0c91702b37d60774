-- PART A of the skeleton, and the printed names of the claim (starting texts)
-- ===== PART A: goes FIRST, ahead of the names: the tables' words, and 'selects' of the private methods out of them =====
/-- a private method of a class that the tables say can be made, by its rows of tables_1 -/
def lw_okq (q : MethodName × Nat) : Prop := (q.1.cls ≠ "java/lang/invoke/MethodHandle" ∧ q.1.cls ≠ "java/lang/invoke/VarHandle") ∧ Cond.instantiable q.1.cls q.2 ∈ tables_1 ∧ Cond.privateMethod q.1 ∈ tables_1 ∧ Cond.instanceMethod q.1 ∈ tables_1
theorem lw_p0 : lw_okq (⟨"VotedHill", "refuse", "(I)I"⟩, 15) := ⟨⟨by decide +kernel, by decide +kernel⟩, List.mem_of_getElem? (i := 16) (by decide +kernel), List.mem_of_getElem? (i := 292) (by decide +kernel), List.mem_of_getElem? (i := 293) (by decide +kernel)⟩
theorem lw_p1 : lw_okq (⟨"VotedHill", "placeRefusal", "(LVotedHill$Strip;I)I"⟩, 15) := ⟨⟨by decide +kernel, by decide +kernel⟩, List.mem_of_getElem? (i := 16) (by decide +kernel), List.mem_of_getElem? (i := 307) (by decide +kernel), List.mem_of_getElem? (i := 308) (by decide +kernel)⟩
theorem lw_p2 : lw_okq (⟨"VotedHill$Reader", "readGround", "(LVotedHill$Land;)Z"⟩, 2) := ⟨⟨by decide +kernel, by decide +kernel⟩, List.mem_of_getElem? (i := 101) (by decide +kernel), List.mem_of_getElem? (i := 365) (by decide +kernel), List.mem_of_getElem? (i := 366) (by decide +kernel)⟩
theorem lw_p3 : lw_okq (⟨"VotedHill$Reader", "skipBlanks", "()V"⟩, 2) := ⟨⟨by decide +kernel, by decide +kernel⟩, List.mem_of_getElem? (i := 101) (by decide +kernel), List.mem_of_getElem? (i := 369) (by decide +kernel), List.mem_of_getElem? (i := 370) (by decide +kernel)⟩
theorem lw_p4 : lw_okq (⟨"VotedHill$Reader", "atEnd", "()Z"⟩, 2) := ⟨⟨by decide +kernel, by decide +kernel⟩, List.mem_of_getElem? (i := 101) (by decide +kernel), List.mem_of_getElem? (i := 373) (by decide +kernel), List.mem_of_getElem? (i := 374) (by decide +kernel)⟩
theorem lw_p5 : lw_okq (⟨"VotedHill$Reader", "sign", "()I"⟩, 2) := ⟨⟨by decide +kernel, by decide +kernel⟩, List.mem_of_getElem? (i := 101) (by decide +kernel), List.mem_of_getElem? (i := 377) (by decide +kernel), List.mem_of_getElem? (i := 378) (by decide +kernel)⟩
theorem lw_p6 : lw_okq (⟨"VotedHill$Reader", "figure", "(II)I"⟩, 2) := ⟨⟨by decide +kernel, by decide +kernel⟩, List.mem_of_getElem? (i := 101) (by decide +kernel), List.mem_of_getElem? (i := 381) (by decide +kernel), List.mem_of_getElem? (i := 382) (by decide +kernel)⟩
theorem lw_p7 : lw_okq (⟨"VotedHill$Reader", "readOne", "(LVotedHill$Land;)Z"⟩, 2) := ⟨⟨by decide +kernel, by decide +kernel⟩, List.mem_of_getElem? (i := 101) (by decide +kernel), List.mem_of_getElem? (i := 385) (by decide +kernel), List.mem_of_getElem? (i := 386) (by decide +kernel)⟩
theorem lw_p8 : lw_okq (⟨"VotedHill", "aboutOne", "(II)I"⟩, 15) := ⟨⟨by decide +kernel, by decide +kernel⟩, List.mem_of_getElem? (i := 16) (by decide +kernel), List.mem_of_getElem? (i := 416) (by decide +kernel), List.mem_of_getElem? (i := 417) (by decide +kernel)⟩
theorem lw_p9 : lw_okq (⟨"VotedHill", "abstainersBeside", "(I)I"⟩, 15) := ⟨⟨by decide +kernel, by decide +kernel⟩, List.mem_of_getElem? (i := 16) (by decide +kernel), List.mem_of_getElem? (i := 464) (by decide +kernel), List.mem_of_getElem? (i := 465) (by decide +kernel)⟩
theorem lw_p10 : lw_okq (⟨"VotedHill", "passYear", "()I"⟩, 15) := ⟨⟨by decide +kernel, by decide +kernel⟩, List.mem_of_getElem? (i := 16) (by decide +kernel), List.mem_of_getElem? (i := 498) (by decide +kernel), List.mem_of_getElem? (i := 499) (by decide +kernel)⟩
theorem lw_p11 : lw_okq (⟨"VotedHill$Land", "remember", "(I)Z"⟩, 15) := ⟨⟨by decide +kernel, by decide +kernel⟩, List.mem_of_getElem? (i := 26) (by decide +kernel), List.mem_of_getElem? (i := 519) (by decide +kernel), List.mem_of_getElem? (i := 520) (by decide +kernel)⟩
theorem lw_p12 : lw_okq (⟨"VotedHill$Plans", "weighCells", "(LVotedHill$Land;)V"⟩, 3) := ⟨⟨by decide +kernel, by decide +kernel⟩, List.mem_of_getElem? (i := 150) (by decide +kernel), List.mem_of_getElem? (i := 644) (by decide +kernel), List.mem_of_getElem? (i := 645) (by decide +kernel)⟩
theorem lw_p13 : lw_okq (⟨"VotedHill$Plans", "bestWay", "(LVotedHill$Land;III)I"⟩, 3) := ⟨⟨by decide +kernel, by decide +kernel⟩, List.mem_of_getElem? (i := 150) (by decide +kernel), List.mem_of_getElem? (i := 650) (by decide +kernel), List.mem_of_getElem? (i := 651) (by decide +kernel)⟩
theorem lw_p14 : lw_okq (⟨"VotedHill$Plans", "gainedBy", "(LVotedHill$Land;III)I"⟩, 3) := ⟨⟨by decide +kernel, by decide +kernel⟩, List.mem_of_getElem? (i := 150) (by decide +kernel), List.mem_of_getElem? (i := 654) (by decide +kernel), List.mem_of_getElem? (i := 655) (by decide +kernel)⟩
theorem lw_p15 : lw_okq (⟨"VotedHill", "cellPairsRefusal", "(I)I"⟩, 15) := ⟨⟨by decide +kernel, by decide +kernel⟩, List.mem_of_getElem? (i := 16) (by decide +kernel), List.mem_of_getElem? (i := 665) (by decide +kernel), List.mem_of_getElem? (i := 666) (by decide +kernel)⟩
def lw_privs_1 : List (MethodName × Nat) := [(⟨"VotedHill", "refuse", "(I)I"⟩, 15), (⟨"VotedHill", "placeRefusal", "(LVotedHill$Strip;I)I"⟩, 15), (⟨"VotedHill$Reader", "readGround", "(LVotedHill$Land;)Z"⟩, 2), (⟨"VotedHill$Reader", "skipBlanks", "()V"⟩, 2), (⟨"VotedHill$Reader", "atEnd", "()Z"⟩, 2), (⟨"VotedHill$Reader", "sign", "()I"⟩, 2), (⟨"VotedHill$Reader", "figure", "(II)I"⟩, 2), (⟨"VotedHill$Reader", "readOne", "(LVotedHill$Land;)Z"⟩, 2), (⟨"VotedHill", "aboutOne", "(II)I"⟩, 15), (⟨"VotedHill", "abstainersBeside", "(I)I"⟩, 15), (⟨"VotedHill", "passYear", "()I"⟩, 15), (⟨"VotedHill$Land", "remember", "(I)Z"⟩, 15), (⟨"VotedHill$Plans", "weighCells", "(LVotedHill$Land;)V"⟩, 3), (⟨"VotedHill$Plans", "bestWay", "(LVotedHill$Land;III)I"⟩, 3), (⟨"VotedHill$Plans", "gainedBy", "(LVotedHill$Land;III)I"⟩, 3), (⟨"VotedHill", "cellPairsRefusal", "(I)I"⟩, 15)]
theorem lw_r1 : ∀ q ∈ lw_privs_1, lw_okq q := List.forall_mem_cons.mpr ⟨lw_p0, List.forall_mem_cons.mpr ⟨lw_p1, List.forall_mem_cons.mpr ⟨lw_p2, List.forall_mem_cons.mpr ⟨lw_p3, List.forall_mem_cons.mpr ⟨lw_p4, List.forall_mem_cons.mpr ⟨lw_p5, List.forall_mem_cons.mpr ⟨lw_p6, List.forall_mem_cons.mpr ⟨lw_p7, List.forall_mem_cons.mpr ⟨lw_p8, List.forall_mem_cons.mpr ⟨lw_p9, List.forall_mem_cons.mpr ⟨lw_p10, List.forall_mem_cons.mpr ⟨lw_p11, List.forall_mem_cons.mpr ⟨lw_p12, List.forall_mem_cons.mpr ⟨lw_p13, List.forall_mem_cons.mpr ⟨lw_p14, List.forall_mem_cons.mpr ⟨lw_p15, fun _ h => absurd h List.not_mem_nil⟩⟩⟩⟩⟩⟩⟩⟩⟩⟩⟩⟩⟩⟩⟩⟩
theorem lw_p16 : lw_okq (⟨"VotedHill", "pairsRefusal", "(LVotedHill$Strip;I)I"⟩, 15) := ⟨⟨by decide +kernel, by decide +kernel⟩, List.mem_of_getElem? (i := 16) (by decide +kernel), List.mem_of_getElem? (i := 669) (by decide +kernel), List.mem_of_getElem? (i := 670) (by decide +kernel)⟩
theorem lw_p17 : lw_okq (⟨"VotedHill$Clues", "startTally", "()V"⟩, 2) := ⟨⟨by decide +kernel, by decide +kernel⟩, List.mem_of_getElem? (i := 168) (by decide +kernel), List.mem_of_getElem? (i := 693) (by decide +kernel), List.mem_of_getElem? (i := 694) (by decide +kernel)⟩
theorem lw_p18 : lw_okq (⟨"VotedHill$Clues", "addToTally", "(I)V"⟩, 2) := ⟨⟨by decide +kernel, by decide +kernel⟩, List.mem_of_getElem? (i := 168) (by decide +kernel), List.mem_of_getElem? (i := 697) (by decide +kernel), List.mem_of_getElem? (i := 698) (by decide +kernel)⟩
theorem lw_p19 : lw_okq (⟨"VotedHill$Clues", "takeIfLess", "(II)I"⟩, 2) := ⟨⟨by decide +kernel, by decide +kernel⟩, List.mem_of_getElem? (i := 168) (by decide +kernel), List.mem_of_getElem? (i := 701) (by decide +kernel), List.mem_of_getElem? (i := 702) (by decide +kernel)⟩
theorem lw_p20 : lw_okq (⟨"VotedHill", "kindPairsRefusal", "(II)I"⟩, 15) := ⟨⟨by decide +kernel, by decide +kernel⟩, List.mem_of_getElem? (i := 16) (by decide +kernel), List.mem_of_getElem? (i := 710) (by decide +kernel), List.mem_of_getElem? (i := 711) (by decide +kernel)⟩
theorem lw_p21 : lw_okq (⟨"VotedHill$Paths", "reachBeside", "(LVotedHill$Land;III)I"⟩, 2) := ⟨⟨by decide +kernel, by decide +kernel⟩, List.mem_of_getElem? (i := 182) (by decide +kernel), List.mem_of_getElem? (i := 737) (by decide +kernel), List.mem_of_getElem? (i := 738) (by decide +kernel)⟩
theorem lw_p22 : lw_okq (⟨"VotedHill$Plans", "wanted", "(LVotedHill$Land;II)I"⟩, 3) := ⟨⟨by decide +kernel, by decide +kernel⟩, List.mem_of_getElem? (i := 150) (by decide +kernel), List.mem_of_getElem? (i := 758) (by decide +kernel), List.mem_of_getElem? (i := 759) (by decide +kernel)⟩
theorem lw_p23 : lw_okq (⟨"VotedHill", "keptLands", "()I"⟩, 15) := ⟨⟨by decide +kernel, by decide +kernel⟩, List.mem_of_getElem? (i := 16) (by decide +kernel), List.mem_of_getElem? (i := 820) (by decide +kernel), List.mem_of_getElem? (i := 821) (by decide +kernel)⟩
theorem lw_p24 : lw_okq (⟨"VotedHillModel", "meets", "(I)I"⟩, 38) := ⟨⟨by decide +kernel, by decide +kernel⟩, List.mem_of_getElem? (i := 844) (by decide +kernel), List.mem_of_getElem? (i := 997) (by decide +kernel), List.mem_of_getElem? (i := 998) (by decide +kernel)⟩
theorem lw_p25 : lw_okq (⟨"VotedHillModel", "rowAt", "(II)I"⟩, 38) := ⟨⟨by decide +kernel, by decide +kernel⟩, List.mem_of_getElem? (i := 844) (by decide +kernel), List.mem_of_getElem? (i := 1005) (by decide +kernel), List.mem_of_getElem? (i := 1006) (by decide +kernel)⟩
theorem lw_p26 : lw_okq (⟨"VotedHillModel", "tells", "(II)I"⟩, 38) := ⟨⟨by decide +kernel, by decide +kernel⟩, List.mem_of_getElem? (i := 844) (by decide +kernel), List.mem_of_getElem? (i := 1009) (by decide +kernel), List.mem_of_getElem? (i := 1010) (by decide +kernel)⟩
theorem lw_p27 : lw_okq (⟨"VotedHillModel", "faultOf", "(I)I"⟩, 38) := ⟨⟨by decide +kernel, by decide +kernel⟩, List.mem_of_getElem? (i := 844) (by decide +kernel), List.mem_of_getElem? (i := 1044) (by decide +kernel), List.mem_of_getElem? (i := 1045) (by decide +kernel)⟩
theorem lw_p28 : lw_okq (⟨"VotedHillModel", "byteAt", "(II)I"⟩, 38) := ⟨⟨by decide +kernel, by decide +kernel⟩, List.mem_of_getElem? (i := 844) (by decide +kernel), List.mem_of_getElem? (i := 1048) (by decide +kernel), List.mem_of_getElem? (i := 1049) (by decide +kernel)⟩
theorem lw_p29 : lw_okq (⟨"VotedHillModel", "readsOne", "(I)Z"⟩, 38) := ⟨⟨by decide +kernel, by decide +kernel⟩, List.mem_of_getElem? (i := 844) (by decide +kernel), List.mem_of_getElem? (i := 1052) (by decide +kernel), List.mem_of_getElem? (i := 1053) (by decide +kernel)⟩
theorem lw_p30 : lw_okq (⟨"VotedHillModel", "figure", "(III)I"⟩, 38) := ⟨⟨by decide +kernel, by decide +kernel⟩, List.mem_of_getElem? (i := 844) (by decide +kernel), List.mem_of_getElem? (i := 1059) (by decide +kernel), List.mem_of_getElem? (i := 1060) (by decide +kernel)⟩
theorem lw_p31 : lw_okq (⟨"VotedHillModel", "readsHead", "(I)Z"⟩, 38) := ⟨⟨by decide +kernel, by decide +kernel⟩, List.mem_of_getElem? (i := 844) (by decide +kernel), List.mem_of_getElem? (i := 1063) (by decide +kernel), List.mem_of_getElem? (i := 1064) (by decide +kernel)⟩
def lw_privs_2 : List (MethodName × Nat) := [(⟨"VotedHill", "pairsRefusal", "(LVotedHill$Strip;I)I"⟩, 15), (⟨"VotedHill$Clues", "startTally", "()V"⟩, 2), (⟨"VotedHill$Clues", "addToTally", "(I)V"⟩, 2), (⟨"VotedHill$Clues", "takeIfLess", "(II)I"⟩, 2), (⟨"VotedHill", "kindPairsRefusal", "(II)I"⟩, 15), (⟨"VotedHill$Paths", "reachBeside", "(LVotedHill$Land;III)I"⟩, 2), (⟨"VotedHill$Plans", "wanted", "(LVotedHill$Land;II)I"⟩, 3), (⟨"VotedHill", "keptLands", "()I"⟩, 15), (⟨"VotedHillModel", "meets", "(I)I"⟩, 38), (⟨"VotedHillModel", "rowAt", "(II)I"⟩, 38), (⟨"VotedHillModel", "tells", "(II)I"⟩, 38), (⟨"VotedHillModel", "faultOf", "(I)I"⟩, 38), (⟨"VotedHillModel", "byteAt", "(II)I"⟩, 38), (⟨"VotedHillModel", "readsOne", "(I)Z"⟩, 38), (⟨"VotedHillModel", "figure", "(III)I"⟩, 38), (⟨"VotedHillModel", "readsHead", "(I)Z"⟩, 38)]
theorem lw_r2 : ∀ q ∈ lw_privs_2, lw_okq q := List.forall_mem_cons.mpr ⟨lw_p16, List.forall_mem_cons.mpr ⟨lw_p17, List.forall_mem_cons.mpr ⟨lw_p18, List.forall_mem_cons.mpr ⟨lw_p19, List.forall_mem_cons.mpr ⟨lw_p20, List.forall_mem_cons.mpr ⟨lw_p21, List.forall_mem_cons.mpr ⟨lw_p22, List.forall_mem_cons.mpr ⟨lw_p23, List.forall_mem_cons.mpr ⟨lw_p24, List.forall_mem_cons.mpr ⟨lw_p25, List.forall_mem_cons.mpr ⟨lw_p26, List.forall_mem_cons.mpr ⟨lw_p27, List.forall_mem_cons.mpr ⟨lw_p28, List.forall_mem_cons.mpr ⟨lw_p29, List.forall_mem_cons.mpr ⟨lw_p30, List.forall_mem_cons.mpr ⟨lw_p31, fun _ h => absurd h List.not_mem_nil⟩⟩⟩⟩⟩⟩⟩⟩⟩⟩⟩⟩⟩⟩⟩⟩
theorem lw_p32 : lw_okq (⟨"VotedHillModel", "isOne", "(I)Z"⟩, 38) := ⟨⟨by decide +kernel, by decide +kernel⟩, List.mem_of_getElem? (i := 844) (by decide +kernel), List.mem_of_getElem? (i := 1075) (by decide +kernel), List.mem_of_getElem? (i := 1076) (by decide +kernel)⟩
theorem lw_p33 : lw_okq (⟨"VotedHillModel", "oneTells", "(II)I"⟩, 38) := ⟨⟨by decide +kernel, by decide +kernel⟩, List.mem_of_getElem? (i := 844) (by decide +kernel), List.mem_of_getElem? (i := 1079) (by decide +kernel), List.mem_of_getElem? (i := 1080) (by decide +kernel)⟩
theorem lw_p34 : lw_okq (⟨"VotedHillModel", "gainOn", "(II)I"⟩, 38) := ⟨⟨by decide +kernel, by decide +kernel⟩, List.mem_of_getElem? (i := 844) (by decide +kernel), List.mem_of_getElem? (i := 1083) (by decide +kernel), List.mem_of_getElem? (i := 1084) (by decide +kernel)⟩
theorem lw_p35 : lw_okq (⟨"VotedHillModel", "gainBy", "(III)I"⟩, 38) := ⟨⟨by decide +kernel, by decide +kernel⟩, List.mem_of_getElem? (i := 844) (by decide +kernel), List.mem_of_getElem? (i := 1087) (by decide +kernel), List.mem_of_getElem? (i := 1088) (by decide +kernel)⟩
theorem lw_p36 : lw_okq (⟨"VotedHillModel", "far", "(II)I"⟩, 38) := ⟨⟨by decide +kernel, by decide +kernel⟩, List.mem_of_getElem? (i := 844) (by decide +kernel), List.mem_of_getElem? (i := 1091) (by decide +kernel), List.mem_of_getElem? (i := 1092) (by decide +kernel)⟩
theorem lw_p37 : lw_okq (⟨"VotedHillModel", "voteOn", "(III)I"⟩, 38) := ⟨⟨by decide +kernel, by decide +kernel⟩, List.mem_of_getElem? (i := 844) (by decide +kernel), List.mem_of_getElem? (i := 1098) (by decide +kernel), List.mem_of_getElem? (i := 1099) (by decide +kernel)⟩
theorem lw_p38 : lw_okq (⟨"VotedHillModel", "canBe", "(III)Z"⟩, 38) := ⟨⟨by decide +kernel, by decide +kernel⟩, List.mem_of_getElem? (i := 844) (by decide +kernel), List.mem_of_getElem? (i := 1102) (by decide +kernel), List.mem_of_getElem? (i := 1103) (by decide +kernel)⟩
theorem lw_p39 : lw_okq (⟨"VotedHillModel", "beside", "(II)I"⟩, 38) := ⟨⟨by decide +kernel, by decide +kernel⟩, List.mem_of_getElem? (i := 844) (by decide +kernel), List.mem_of_getElem? (i := 1106) (by decide +kernel), List.mem_of_getElem? (i := 1107) (by decide +kernel)⟩
theorem lw_p40 : lw_okq (⟨"VotedHillModel", "silent", "(I)I"⟩, 38) := ⟨⟨by decide +kernel, by decide +kernel⟩, List.mem_of_getElem? (i := 844) (by decide +kernel), List.mem_of_getElem? (i := 1114) (by decide +kernel), List.mem_of_getElem? (i := 1115) (by decide +kernel)⟩
theorem lw_p41 : lw_okq (⟨"VotedHillModel", "cellsOf", "(I)I"⟩, 38) := ⟨⟨by decide +kernel, by decide +kernel⟩, List.mem_of_getElem? (i := 844) (by decide +kernel), List.mem_of_getElem? (i := 1118) (by decide +kernel), List.mem_of_getElem? (i := 1119) (by decide +kernel)⟩
theorem lw_p42 : lw_okq (⟨"VotedHillModel", "isCell", "(I)Z"⟩, 38) := ⟨⟨by decide +kernel, by decide +kernel⟩, List.mem_of_getElem? (i := 844) (by decide +kernel), List.mem_of_getElem? (i := 1126) (by decide +kernel), List.mem_of_getElem? (i := 1127) (by decide +kernel)⟩
theorem lw_p43 : lw_okq (⟨"VotedHillModel", "remember", "()V"⟩, 38) := ⟨⟨by decide +kernel, by decide +kernel⟩, List.mem_of_getElem? (i := 844) (by decide +kernel), List.mem_of_getElem? (i := 1134) (by decide +kernel), List.mem_of_getElem? (i := 1135) (by decide +kernel)⟩
theorem lw_p44 : lw_okq (⟨"VotedHillModel", "carriedFrom", "(II)I"⟩, 38) := ⟨⟨by decide +kernel, by decide +kernel⟩, List.mem_of_getElem? (i := 844) (by decide +kernel), List.mem_of_getElem? (i := 1138) (by decide +kernel), List.mem_of_getElem? (i := 1139) (by decide +kernel)⟩
theorem lw_p45 : lw_okq (⟨"VotedHillModel", "everybody", "()I"⟩, 38) := ⟨⟨by decide +kernel, by decide +kernel⟩, List.mem_of_getElem? (i := 844) (by decide +kernel), List.mem_of_getElem? (i := 1142) (by decide +kernel), List.mem_of_getElem? (i := 1143) (by decide +kernel)⟩
theorem lw_p46 : lw_okq (⟨"VotedHillModel", "layCounts", "(IIIII)V"⟩, 38) := ⟨⟨by decide +kernel, by decide +kernel⟩, List.mem_of_getElem? (i := 844) (by decide +kernel), List.mem_of_getElem? (i := 1146) (by decide +kernel), List.mem_of_getElem? (i := 1147) (by decide +kernel)⟩
theorem lw_p47 : lw_okq (⟨"VotedHillModel", "carried", "()I"⟩, 38) := ⟨⟨by decide +kernel, by decide +kernel⟩, List.mem_of_getElem? (i := 844) (by decide +kernel), List.mem_of_getElem? (i := 1153) (by decide +kernel), List.mem_of_getElem? (i := 1154) (by decide +kernel)⟩
def lw_privs_3 : List (MethodName × Nat) := [(⟨"VotedHillModel", "isOne", "(I)Z"⟩, 38), (⟨"VotedHillModel", "oneTells", "(II)I"⟩, 38), (⟨"VotedHillModel", "gainOn", "(II)I"⟩, 38), (⟨"VotedHillModel", "gainBy", "(III)I"⟩, 38), (⟨"VotedHillModel", "far", "(II)I"⟩, 38), (⟨"VotedHillModel", "voteOn", "(III)I"⟩, 38), (⟨"VotedHillModel", "canBe", "(III)Z"⟩, 38), (⟨"VotedHillModel", "beside", "(II)I"⟩, 38), (⟨"VotedHillModel", "silent", "(I)I"⟩, 38), (⟨"VotedHillModel", "cellsOf", "(I)I"⟩, 38), (⟨"VotedHillModel", "isCell", "(I)Z"⟩, 38), (⟨"VotedHillModel", "remember", "()V"⟩, 38), (⟨"VotedHillModel", "carriedFrom", "(II)I"⟩, 38), (⟨"VotedHillModel", "everybody", "()I"⟩, 38), (⟨"VotedHillModel", "layCounts", "(IIIII)V"⟩, 38), (⟨"VotedHillModel", "carried", "()I"⟩, 38)]
theorem lw_r3 : ∀ q ∈ lw_privs_3, lw_okq q := List.forall_mem_cons.mpr ⟨lw_p32, List.forall_mem_cons.mpr ⟨lw_p33, List.forall_mem_cons.mpr ⟨lw_p34, List.forall_mem_cons.mpr ⟨lw_p35, List.forall_mem_cons.mpr ⟨lw_p36, List.forall_mem_cons.mpr ⟨lw_p37, List.forall_mem_cons.mpr ⟨lw_p38, List.forall_mem_cons.mpr ⟨lw_p39, List.forall_mem_cons.mpr ⟨lw_p40, List.forall_mem_cons.mpr ⟨lw_p41, List.forall_mem_cons.mpr ⟨lw_p42, List.forall_mem_cons.mpr ⟨lw_p43, List.forall_mem_cons.mpr ⟨lw_p44, List.forall_mem_cons.mpr ⟨lw_p45, List.forall_mem_cons.mpr ⟨lw_p46, List.forall_mem_cons.mpr ⟨lw_p47, fun _ h => absurd h List.not_mem_nil⟩⟩⟩⟩⟩⟩⟩⟩⟩⟩⟩⟩⟩⟩⟩⟩
theorem lw_p48 : lw_okq (⟨"VotedHillModel", "passes", "([I)V"⟩, 38) := ⟨⟨by decide +kernel, by decide +kernel⟩, List.mem_of_getElem? (i := 844) (by decide +kernel), List.mem_of_getElem? (i := 1157) (by decide +kernel), List.mem_of_getElem? (i := 1158) (by decide +kernel)⟩
theorem lw_p49 : lw_okq (⟨"VotedHillModel", "need", "(Z)I"⟩, 38) := ⟨⟨by decide +kernel, by decide +kernel⟩, List.mem_of_getElem? (i := 844) (by decide +kernel), List.mem_of_getElem? (i := 1188) (by decide +kernel), List.mem_of_getElem? (i := 1189) (by decide +kernel)⟩
theorem lw_p50 : lw_okq (⟨"VotedHillModel", "hearthsOf", "(I)I"⟩, 38) := ⟨⟨by decide +kernel, by decide +kernel⟩, List.mem_of_getElem? (i := 844) (by decide +kernel), List.mem_of_getElem? (i := 1200) (by decide +kernel), List.mem_of_getElem? (i := 1201) (by decide +kernel)⟩
theorem lw_p51 : lw_okq (⟨"VotedHillModel", "copyNow", "()V"⟩, 38) := ⟨⟨by decide +kernel, by decide +kernel⟩, List.mem_of_getElem? (i := 844) (by decide +kernel), List.mem_of_getElem? (i := 1208) (by decide +kernel), List.mem_of_getElem? (i := 1209) (by decide +kernel)⟩
theorem lw_p52 : lw_okq (⟨"VotedHillModel", "all", "(I)I"⟩, 38) := ⟨⟨by decide +kernel, by decide +kernel⟩, List.mem_of_getElem? (i := 844) (by decide +kernel), List.mem_of_getElem? (i := 1212) (by decide +kernel), List.mem_of_getElem? (i := 1213) (by decide +kernel)⟩
theorem lw_p53 : lw_okq (⟨"VotedHillModel", "gainedBy", "(II)I"⟩, 38) := ⟨⟨by decide +kernel, by decide +kernel⟩, List.mem_of_getElem? (i := 844) (by decide +kernel), List.mem_of_getElem? (i := 1228) (by decide +kernel), List.mem_of_getElem? (i := 1229) (by decide +kernel)⟩
theorem lw_p54 : lw_okq (⟨"VotedHillModel", "needPairs", "(IZZ)I"⟩, 38) := ⟨⟨by decide +kernel, by decide +kernel⟩, List.mem_of_getElem? (i := 844) (by decide +kernel), List.mem_of_getElem? (i := 1236) (by decide +kernel), List.mem_of_getElem? (i := 1237) (by decide +kernel)⟩
theorem lw_p55 : lw_okq (⟨"VotedHillModel", "fitSet", "(I)I"⟩, 38) := ⟨⟨by decide +kernel, by decide +kernel⟩, List.mem_of_getElem? (i := 844) (by decide +kernel), List.mem_of_getElem? (i := 1240) (by decide +kernel), List.mem_of_getElem? (i := 1241) (by decide +kernel)⟩
theorem lw_p56 : lw_okq (⟨"VotedHillModel", "alike", "(II)I"⟩, 38) := ⟨⟨by decide +kernel, by decide +kernel⟩, List.mem_of_getElem? (i := 844) (by decide +kernel), List.mem_of_getElem? (i := 1252) (by decide +kernel), List.mem_of_getElem? (i := 1253) (by decide +kernel)⟩
theorem lw_p57 : lw_okq (⟨"VotedHillModel", "kindSet", "(II)I"⟩, 38) := ⟨⟨by decide +kernel, by decide +kernel⟩, List.mem_of_getElem? (i := 844) (by decide +kernel), List.mem_of_getElem? (i := 1260) (by decide +kernel), List.mem_of_getElem? (i := 1261) (by decide +kernel)⟩
theorem lw_p58 : lw_okq (⟨"VotedHillModel", "alikeKinds", "(III)I"⟩, 38) := ⟨⟨by decide +kernel, by decide +kernel⟩, List.mem_of_getElem? (i := 844) (by decide +kernel), List.mem_of_getElem? (i := 1268) (by decide +kernel), List.mem_of_getElem? (i := 1269) (by decide +kernel)⟩
theorem lw_p59 : lw_okq (⟨"VotedHillModel", "laySteps", "(II)V"⟩, 38) := ⟨⟨by decide +kernel, by decide +kernel⟩, List.mem_of_getElem? (i := 844) (by decide +kernel), List.mem_of_getElem? (i := 1276) (by decide +kernel), List.mem_of_getElem? (i := 1277) (by decide +kernel)⟩
theorem lw_p60 : lw_okq (⟨"VotedHillModel", "layParts", "(II)V"⟩, 38) := ⟨⟨by decide +kernel, by decide +kernel⟩, List.mem_of_getElem? (i := 844) (by decide +kernel), List.mem_of_getElem? (i := 1292) (by decide +kernel), List.mem_of_getElem? (i := 1293) (by decide +kernel)⟩
theorem lw_p61 : lw_okq (⟨"VotedHillModel", "fraction", "(JJ)I"⟩, 38) := ⟨⟨by decide +kernel, by decide +kernel⟩, List.mem_of_getElem? (i := 844) (by decide +kernel), List.mem_of_getElem? (i := 1297) (by decide +kernel), List.mem_of_getElem? (i := 1298) (by decide +kernel)⟩
theorem lw_p62 : lw_okq (⟨"VotedHillModel", "counted", "(I)I"⟩, 38) := ⟨⟨by decide +kernel, by decide +kernel⟩, List.mem_of_getElem? (i := 844) (by decide +kernel), List.mem_of_getElem? (i := 1319) (by decide +kernel), List.mem_of_getElem? (i := 1320) (by decide +kernel)⟩
theorem lw_p63 : lw_okq (⟨"VotedHillModel", "mix", "(J)V"⟩, 38) := ⟨⟨by decide +kernel, by decide +kernel⟩, List.mem_of_getElem? (i := 844) (by decide +kernel), List.mem_of_getElem? (i := 1328) (by decide +kernel), List.mem_of_getElem? (i := 1329) (by decide +kernel)⟩
def lw_privs_4 : List (MethodName × Nat) := [(⟨"VotedHillModel", "passes", "([I)V"⟩, 38), (⟨"VotedHillModel", "need", "(Z)I"⟩, 38), (⟨"VotedHillModel", "hearthsOf", "(I)I"⟩, 38), (⟨"VotedHillModel", "copyNow", "()V"⟩, 38), (⟨"VotedHillModel", "all", "(I)I"⟩, 38), (⟨"VotedHillModel", "gainedBy", "(II)I"⟩, 38), (⟨"VotedHillModel", "needPairs", "(IZZ)I"⟩, 38), (⟨"VotedHillModel", "fitSet", "(I)I"⟩, 38), (⟨"VotedHillModel", "alike", "(II)I"⟩, 38), (⟨"VotedHillModel", "kindSet", "(II)I"⟩, 38), (⟨"VotedHillModel", "alikeKinds", "(III)I"⟩, 38), (⟨"VotedHillModel", "laySteps", "(II)V"⟩, 38), (⟨"VotedHillModel", "layParts", "(II)V"⟩, 38), (⟨"VotedHillModel", "fraction", "(JJ)I"⟩, 38), (⟨"VotedHillModel", "counted", "(I)I"⟩, 38), (⟨"VotedHillModel", "mix", "(J)V"⟩, 38)]
theorem lw_r4 : ∀ q ∈ lw_privs_4, lw_okq q := List.forall_mem_cons.mpr ⟨lw_p48, List.forall_mem_cons.mpr ⟨lw_p49, List.forall_mem_cons.mpr ⟨lw_p50, List.forall_mem_cons.mpr ⟨lw_p51, List.forall_mem_cons.mpr ⟨lw_p52, List.forall_mem_cons.mpr ⟨lw_p53, List.forall_mem_cons.mpr ⟨lw_p54, List.forall_mem_cons.mpr ⟨lw_p55, List.forall_mem_cons.mpr ⟨lw_p56, List.forall_mem_cons.mpr ⟨lw_p57, List.forall_mem_cons.mpr ⟨lw_p58, List.forall_mem_cons.mpr ⟨lw_p59, List.forall_mem_cons.mpr ⟨lw_p60, List.forall_mem_cons.mpr ⟨lw_p61, List.forall_mem_cons.mpr ⟨lw_p62, List.forall_mem_cons.mpr ⟨lw_p63, fun _ h => absurd h List.not_mem_nil⟩⟩⟩⟩⟩⟩⟩⟩⟩⟩⟩⟩⟩⟩⟩⟩
theorem lw_p64 : lw_okq (⟨"VotedHillModel", "mixLand", "()V"⟩, 38) := ⟨⟨by decide +kernel, by decide +kernel⟩, List.mem_of_getElem? (i := 844) (by decide +kernel), List.mem_of_getElem? (i := 1333) (by decide +kernel), List.mem_of_getElem? (i := 1334) (by decide +kernel)⟩
def lw_privs_5 : List (MethodName × Nat) := [(⟨"VotedHillModel", "mixLand", "()V"⟩, 38)]
theorem lw_r5 : ∀ q ∈ lw_privs_5, lw_okq q := List.forall_mem_cons.mpr ⟨lw_p64, fun _ h => absurd h List.not_mem_nil⟩
def lw_privs : List (MethodName × Nat) := lw_privs_1 ++ (lw_privs_2 ++ (lw_privs_3 ++ (lw_privs_4 ++ (lw_privs_5))))
def lw_tbl : List Cond := k2_sels lw_privs ++ tables_1
theorem lw_privs_ok : ∀ q ∈ lw_privs, lw_okq q := by
  show ∀ q ∈ lw_privs_1 ++ (lw_privs_2 ++ (lw_privs_3 ++ (lw_privs_4 ++ (lw_privs_5)))), lw_okq q
  exact List.forall_mem_append.mpr ⟨lw_r1, List.forall_mem_append.mpr ⟨lw_r2, List.forall_mem_append.mpr ⟨lw_r3, List.forall_mem_append.mpr ⟨lw_r4, lw_r5⟩⟩⟩⟩
def va_AOA (ty : FieldType) (U : State) : Prop := (Cond.arrayOver (.array ty)).before #[] U = true
theorem va_AOA.use {ty : FieldType} {A : Array Value} {U : State} (h : va_AOA ty U) : (Cond.arrayOver (.array ty)).before A U = true := h
/-! ===== BEGIN new T[n][m]: the outer array a place, the inner ones among the pooled ===== -/
/-- f, but v at every address of l -/
def vr_up {α : Type} (f : Nat → α) (l : List Nat) (v : α) : Nat → α := fun a => if a ∈ l then v else f a
theorem vr_up_in {α : Type} {f : Nat → α} {l : List Nat} {v : α} {a : Nat} (h : a ∈ l) : vr_up f l v a = v := if_pos h
theorem vr_up_ne {α : Type} {f : Nat → α} {l : List Nat} {v : α} {a : Nat} (h : a ∉ l) : vr_up f l v a = f a := if_neg h
theorem vr_rows {L l : List Nat} {f : Nat → va_E} {e : va_E} (h : ∀ a, a ∈ l → a ∉ L) : va_pl L f ++ l.map (fun a => (a, e)) = va_pl (L ++ l) (vr_up f l e) := by
  unfold va_pl
  rw [List.map_append]
  congr 1
  · apply List.map_congr_left
    intro a ha
    rw [vr_up_ne (fun q => h a q ha)]
  · apply List.map_congr_left
    intro a ha
    rw [vr_up_in ha]
theorem vr_lay {X rows : va_W} {x : Nat × va_E} {pl : va_W} {D : va_G} {cl : List vw_C} {H : Heap} (hP : va_P D cl (((X ++ pl) ++ [x]) ++ rows) H) : va_P D cl ((X ++ [x]) ++ (pl ++ rows)) H := by
  rw [List.append_assoc (X ++ pl)] at hP
  have h := va_P.swap hP
  rw [← List.append_assoc X] at h
  have h2 := va_P.swap h
  rw [List.append_assoc (X ++ [x])] at h2
  exact h2
theorem vr_layD {X rows : va_W} {x : Nat × va_E} {pl : va_W} {A : Nat → Prop} (hD : va_D A (((X ++ pl) ++ [x]) ++ rows)) : va_D A ((X ++ [x]) ++ (pl ++ rows)) := by
  rw [List.append_assoc (X ++ pl)] at hD
  have h := va_D.swap hD
  rw [← List.append_assoc X] at h
  have h2 := va_D.swap h
  rw [List.append_assoc (X ++ [x])] at h2
  exact h2
theorem vr_outer (c : ClassId) (N h0 : Nat) : ∀ i : Nat, Jvm.Free.Multi.outerC c N h0 i = arrV c N (fun j => va_rf (if j < i then some (h0 + 1 + j) else none))
  | 0 => by
    show ({ cls := c, slots := Array.replicate N .null, vm := .none } : Cell) = _
    rw [arrV_new]
    refine congrArg (arrV c N) (funext fun j => ?_)
    simp [va_rf]
  | i + 1 => by
    show (Jvm.Free.Multi.outerC c N h0 i).setSlot i (.ref (h0 + 1 + i)) = _
    rw [vr_outer c N h0 i, arrV_store]
    refine congrArg (arrV c N) (funext fun j => ?_)
    by_cases e : j = i
    · subst e
      simp [updV, va_rf]
    · by_cases h : j < i
      · simp [updV, e, h, Nat.lt_succ_of_lt h]
      · simp [updV, e, h, show ¬ j < i + 1 by omega]
section VGM
variable {p : Program} {l : Launch} {e : Env} {R : Room} {s : State} {m : MethodId} {args : Array Value} {below : List Frame} {meth : Method} {c : Code} {H : Heap} {locs : List Loc} {cells slots : Nat} {Q : State → Prop}
variable {cc : ByteArray} {pc : Nat} {ls : Array Slot} {rest : List Value} {D : va_G} {cl : List vw_C} {A : Nat → Prop} {a : Nat} {tys : List (ClassId × FieldType)} {ws : va_W} {H0 : Heap}
theorem va_mna {X : va_W} {L : List Nat} {f : Nat → va_E} {cc : ByteArray} (hexec : p.tables.exec = Jvm.exec) (hb : c.code = cc) {own : String} {index : Nat} {ty : FieldType} {cy : ClassId} (hown : s.vm.findClass own = some m.cls) (hclink : (Cond.classLink own index ("[" ++ (FieldType.array ty).toString)).before args s = true) (hover : va_AOA ty s) (harr : (Cond.arrayClass ty).before args s = true) (hcy : s.vm.findClass (FieldType.array ty).toString = some cy)
    (hK : va_K D cl tys s) (hP : va_P D cl (X ++ va_pl L f) H) (hD : va_D A (X ++ va_pl L f)) (hS : va_S A H0 H locs) (hA : ∀ q, H0.size ≤ q → A q) {n k : Int32} {N' K' : Nat} {z : vp_A} (hn : ¬ n < 0) (hk : ¬ k < 0) (hN : n.toNatClampNeg = N') (hM : k.toNatClampNeg = K')
    (hb1 : N' * 4 ≤ 536870912) (hb2 : K' * componentBytes ty ≤ 536870912) (hb3 : K' ≤ 536870912) (hdf : fits ty (defaultValue ty) = true) (hdd : (defaultValue ty).isDefault = true) (hcells : cells + (1 + N') ≤ R.cells) (hslots : slots + (N' + N' * K') ≤ R.slots) (hz : ∀ c : ClassId, Jvm.Free.Multi.innerC c K' (defaultValue ty) = vp_cell c z) (hdg : decode cc pc = .ok (.multianewarray index 2, 4))
    (kk : ∀ (q : Nat) (r : Nat → Nat) (cA : ClassId) (H1 : Heap), (∀ i j : Nat, i < N' → j < N' → r i = r j → i = j) → (∀ i : Nat, i < N' → r i ∉ L) → va_K D cl (tys ++ [(cA, .array ty)]) s →
      va_P D cl ((X ++ [(q, .inl (cA, N', .inr (.inr (.inr (.inr (fun i => if i < N' then some (r i) else none))))))]) ++ va_pl (L ++ (List.range N').map r) (vr_up f ((List.range N').map r) (.inl (cy, z)))) H1 → va_D A ((X ++ [(q, .inl (cA, N', .inr (.inr (.inr (.inr (fun i => if i < N' then some (r i) else none))))))]) ++ va_pl (L ++ (List.range N').map r) (vr_up f ((List.range N').map r) (.inl (cy, z)))) → va_S A H0 H1 locs →
      W p l e R s m args below meth c H1 locs (cells + 1 + N') (slots + N' + N' * K') Q (F0 m (pc + 4) ls (.ref q :: rest))) : W p l e R s m args below meth c H locs cells slots Q (F0 m pc ls (.int k :: .int n :: rest)) := by
  subst hN
  subst hM
  intro T hT Xs
  obtain ⟨vm₁, cA, comp, -, fA, fC, hO, -, X', step⟩ := Xs.multianewarray2F hexec hown hclink (va_AOA.use hover) harr (g := F0 m pc ls (.int k :: .int n :: rest)) rfl (by rw [hb]; exact hdg) rfl hn hk hb1 hb2 hb3 hdf hdd hcells hslots
  have ec : some cy = some comp := hcy.symm.trans fC
  cases ec
  generalize hF : Jvm.Free.Multi.fill (T.setVm vm₁) cA cy n.toNatClampNeg k.toNatClampNeg (defaultValue ty) n.toNatClampNeg = F at X' step
  have hTh : (T.setVm vm₁).heap = H := hT
  obtain ⟨f1, f2, -, -⟩ := Jvm.Free.Multi.fill_facts (T.setVm vm₁) cA cy n.toNatClampNeg k.toNatClampNeg (defaultValue ty) n.toNatClampNeg
  rw [hF, hTh] at f1 f2
  have hold : ∀ x : Nat, x < H.size → F.heap[x]? = H[x]? := fun x hx => by
    have := Jvm.Free.Multi.fill_old (T.setVm vm₁) cA cy n.toNatClampNeg k.toNatClampNeg (defaultValue ty) (a := x) (by rw [hTh]; exact hx) n.toNatClampNeg
    rw [hF, hTh] at this
    exact this
  have hrow : ∀ j : Nat, j < n.toNatClampNeg → F.heap[H.size + 1 + j]? = some (vp_cell cy z) := fun j hj => by
    have := Jvm.Free.Multi.fill_inner (T.setVm vm₁) cA cy n.toNatClampNeg k.toNatClampNeg (defaultValue ty) n.toNatClampNeg j hj
    rw [hF, hTh, hz] at this
    exact this
  have hout : Jvm.Free.Multi.outerC cA n.toNatClampNeg H.size n.toNatClampNeg = vp_cell cA (n.toNatClampNeg, .inr (.inr (.inr (.inr (fun i => if i < n.toNatClampNeg then some (H.size + 1 + i) else none))))) := by
    rw [vp_cell_q]
    exact vr_outer cA n.toNatClampNeg H.size n.toNatClampNeg
  rw [hout] at f2
  have hlt : ∀ a, a ∈ L → a < H.size := fun a ha => by
    obtain ⟨k9, hk9⟩ := va_pl_get (X := X) (f := f) ha
    exact (hP k9 _ hk9).lt
  have hnl : ∀ i : Nat, i < n.toNatClampNeg → H.size + 1 + i ∉ L := fun i _ h => by
    have := hlt _ h
    omega
  have hnm : ∀ a, a ∈ (List.range n.toNatClampNeg).map (fun i => H.size + 1 + i) → a ∉ L := fun a ha h => by
    obtain ⟨i, -, rfl⟩ := List.mem_map.mp ha
    have := hlt _ h
    omega
  have hP0 : va_P D cl (X ++ va_pl L f) F.heap := hP.kept (fun k9 x hx => hold x.1 ((hP k9 x hx).lt))
  have hP1 : va_P D cl ((X ++ va_pl L f) ++ [(H.size, .inl (cA, n.toNatClampNeg, .inr (.inr (.inr (.inr (fun i => if i < n.toNatClampNeg then some (H.size + 1 + i) else none))))))]) F.heap := hP0.app (fun k9 x hx => by
    have h0 : k9 < 1 := (List.getElem?_eq_some_iff.mp hx).1
    rw [show k9 = 0 by omega] at hx
    cases hx
    exact f2)
  have hP2 : va_P D cl (((X ++ va_pl L f) ++ [(H.size, .inl (cA, n.toNatClampNeg, .inr (.inr (.inr (.inr (fun i => if i < n.toNatClampNeg then some (H.size + 1 + i) else none))))))]) ++ ((List.range n.toNatClampNeg).map (fun i => H.size + 1 + i)).map (fun a => (a, .inl (cy, z)))) F.heap := hP1.app (fun k9 x hx => by
    obtain ⟨a, ha, rfl⟩ := List.mem_map.mp (List.mem_of_getElem? hx)
    obtain ⟨i, hi, rfl⟩ := List.mem_map.mp ha
    exact hrow i (List.mem_range.mp hi))
  have hD2 : va_D A (((X ++ va_pl L f) ++ [(H.size, .inl (cA, n.toNatClampNeg, .inr (.inr (.inr (.inr (fun i => if i < n.toNatClampNeg then some (H.size + 1 + i) else none))))))]) ++ ((List.range n.toNatClampNeg).map (fun i => H.size + 1 + i)).map (fun a => (a, .inl (cy, z)))) := by
    have hD1 := hD.push (e := .inl (cA, n.toNatClampNeg, .inr (.inr (.inr (.inr (fun i => if i < n.toNatClampNeg then some (H.size + 1 + i) else none)))))) hP rfl (hA _ hS.1)
    generalize hW1 : (X ++ va_pl L f) ++ [(H.size, .inl (cA, n.toNatClampNeg, .inr (.inr (.inr (.inr (fun i => if i < n.toNatClampNeg then some (H.size + 1 + i) else none))))))] = W1 at hD1 hP1 ⊢
    have hle : ∀ (k9 : Nat) (x : Nat × va_E), W1[k9]? = some x → x.1 ≤ H.size := fun k9 x hx => by
      rw [← hW1] at hx
      by_cases hl : k9 < (X ++ va_pl L f).length
      · rw [List.getElem?_append_left hl] at hx
        exact Nat.le_of_lt ((hP k9 x hx).lt)
      · rw [List.getElem?_append_right (by omega)] at hx
        have h0 : k9 - (X ++ va_pl L f).length < 1 := (List.getElem?_eq_some_iff.mp hx).1
        rw [show k9 - (X ++ va_pl L f).length = 0 by omega] at hx
        cases hx
        exact Nat.le_refl _
    have hr : ∀ (k9 : Nat) (x : Nat × va_E), (((List.range n.toNatClampNeg).map (fun i => H.size + 1 + i)).map (fun a => ((a, .inl (cy, z)) : Nat × va_E)))[k9]? = some x → x.1 = H.size + 1 + k9 := fun k9 x hx => by
      rw [List.getElem?_map, List.getElem?_map] at hx
      by_cases h9 : k9 < n.toNatClampNeg
      · rw [List.getElem?_range h9] at hx
        cases hx
        rfl
      · have hn0 : (List.range n.toNatClampNeg)[k9]? = none := List.getElem?_eq_none (by rw [List.length_range]; omega)
        rw [hn0] at hx
        cases hx
    refine ⟨fun i j x y hi hj hxy => ?_, fun k9 x hx => ?_⟩
    · by_cases h1 : i < W1.length <;> by_cases h2 : j < W1.length
      · rw [List.getElem?_append_left h1] at hi
        rw [List.getElem?_append_left h2] at hj
        exact hD1.1 i j x y hi hj hxy
      · rw [List.getElem?_append_left h1] at hi
        rw [List.getElem?_append_right (by omega)] at hj
        have := hle _ _ hi
        have := hr _ _ hj
        omega
      · rw [List.getElem?_append_right (by omega)] at hi
        rw [List.getElem?_append_left h2] at hj
        have := hle _ _ hj
        have := hr _ _ hi
        omega
      · rw [List.getElem?_append_right (by omega)] at hi hj
        have := hr _ _ hi
        have := hr _ _ hj
        omega
    · by_cases h1 : k9 < W1.length
      · rw [List.getElem?_append_left h1] at hx
        exact hD1.2 k9 x hx
      · rw [List.getElem?_append_right (by omega)] at hx
        have := hr _ _ hx
        exact hA _ (by have := hS.1; omega)
  have hAr : ArrOfT s cA (.array ty) := fun N9 z9 => by
    obtain ⟨-, k9, hk9, cm9, hkk9⟩ := (hO 0 0 0).1
    exact ⟨(fun q hq => by cases hq), k9, hk9, cm9, hkk9⟩
  have hK2 : va_K D cl (tys ++ [(cA, .array ty)]) s := ⟨hK.1, fun k9 x hx => by
    by_cases hl : k9 < tys.length
    · rw [List.getElem?_append_left hl] at hx
      exact hK.2 k9 x hx
    · rw [List.getElem?_append_right (by omega)] at hx
      have h0 : k9 - tys.length < 1 := (List.getElem?_eq_some_iff.mp hx).1
      rw [show k9 - tys.length = 0 by omega] at hx
      cases hx
      exact ⟨hAr, fA⟩⟩
  obtain ⟨t, a1, b1⟩ := kk H.size (fun i => H.size + 1 + i) cA F.heap (fun i j _ _ h => by have h9 : H.size + 1 + i = H.size + 1 + j := h; omega) hnl hK2 (by rw [← vr_rows hnm]; exact vr_lay hP2) (by rw [← vr_rows hnm]; exact vr_layD hD2) ⟨by rw [f1]; have := hS.1; omega, fun x h1 h2 => (hold x (Nat.lt_of_lt_of_le h1 hS.1)).trans (hS.2.1 x h1 h2), hS.2.2⟩ F rfl X'
  refine ⟨t, step t ?_, b1⟩
  have e : T.heap.size = H.size := by rw [hT]
  rw [e]
  exact a1
end VGM
/-! ===== END ===== -/

/-! ===== BEGIN printed: names, fields, word lists, decode rows ===== -/
def RX0 : String := "VotedHill$Ballot"
def TX0 : u_T := fun k => match k with
  | 0 => ("VotedHill$Ballot", "choices", "[I", true)
  | _ => ("VotedHill$Ballot", "heaps", "[I", true)
def tyX0 : Nat → FieldType := fun k => match k with
  | 0 => .array .int
  | _ => .array .int
abbrev wsX00 : List Cond := u_ws RX0 TX0 2
theorem nmX0 : ∀ a, a < 2 → ∀ b, b < 2 → a ≠ b → (TX0 a).2.1 ≠ (TX0 b).2.1 := by decide +kernel
theorem tyX0_ok : ∀ k, k < 2 → parseFieldDescriptor (TX0 k).2.2.1 = some (tyX0 k) := by decide +kernel
abbrev cX0_init : ByteArray := prog_2_method_1_code
def yX0_init : MethodName := ⟨RX0, "<init>", "()V"⟩
abbrev cX0_hold : ByteArray := prog_2_method_2_code
def yX0_hold : MethodName := ⟨RX0, "hold", "(LVotedHill$Land;II)V"⟩
abbrev cX0_choiceOf : ByteArray := prog_2_method_3_code
def yX0_choiceOf : MethodName := ⟨RX0, "choiceOf", "(LVotedHill$Land;III)I"⟩
abbrev cX0_heap : ByteArray := prog_2_method_4_code
def yX0_heap : MethodName := ⟨RX0, "heap", "(LVotedHill$Land;II)V"⟩
abbrev cX0_winner : ByteArray := prog_2_method_5_code
def yX0_winner : MethodName := ⟨RX0, "winner", "()I"⟩
abbrev cX0_lead : ByteArray := prog_2_method_6_code
def yX0_lead : MethodName := ⟨RX0, "lead", "()I"⟩
abbrev cX0_votersFor : ByteArray := prog_2_method_7_code
def yX0_votersFor : MethodName := ⟨RX0, "votersFor", "(LVotedHill$Land;I)I"⟩
abbrev cX0_cheapestBought : ByteArray := prog_2_method_8_code
def yX0_cheapestBought : MethodName := ⟨RX0, "cheapestBought", "(LVotedHill$Land;I)I"⟩
def RX1 : String := "VotedHill$Chance"
def TX1 : u_T := fun k => match k with
  | 0 => ("VotedHill$Chance", "upperNumber", "J", false)
  | 1 => ("VotedHill$Chance", "lowerNumber", "J", false)
  | 2 => ("VotedHill$Chance", "weights", "[J", true)
  | _ => ("VotedHill$Chance", "allWeight", "J", false)
def tyX1 : Nat → FieldType := fun k => match k with
  | 0 => .long
  | 1 => .long
  | 2 => .array .long
  | _ => .long
abbrev wsX10 : List Cond := u_ws RX1 TX1 4
theorem nmX1 : ∀ a, a < 4 → ∀ b, b < 4 → a ≠ b → (TX1 a).2.1 ≠ (TX1 b).2.1 := by decide +kernel
theorem tyX1_ok : ∀ k, k < 4 → parseFieldDescriptor (TX1 k).2.2.1 = some (tyX1 k) := by decide +kernel
abbrev cX1_init : ByteArray := prog_3_method_1_code
def yX1_init : MethodName := ⟨RX1, "<init>", "()V"⟩
abbrev cX1_weigh : ByteArray := prog_3_method_2_code
def yX1_weigh : MethodName := ⟨RX1, "weigh", "(LVotedHill$Land;LVotedHill$Ballot;I)V"⟩
abbrev cX1_weightOf : ByteArray := prog_3_method_3_code
def yX1_weightOf : MethodName := ⟨RX1, "weightOf", "(LVotedHill$Land;LVotedHill$Ballot;II)J"⟩
abbrev cX1_tell : ByteArray := prog_3_method_4_code
def yX1_tell : MethodName := ⟨RX1, "tell", "(J)V"⟩
abbrev cX1_commonDivisor : ByteArray := prog_3_method_5_code
def yX1_commonDivisor : MethodName := ⟨RX1, "commonDivisor", "(JJ)J"⟩
def RX2 : String := "VotedHill$Clues"
def TX2 : u_T := fun k => match k with
  | 0 => ("VotedHill$Clues", "leastPart", "I", false)
  | _ => ("VotedHill$Clues", "tally", "[I", true)
def tyX2 : Nat → FieldType := fun k => match k with
  | 0 => .int
  | _ => .array .int
abbrev wsX20 : List Cond := u_ws RX2 TX2 2
theorem nmX2 : ∀ a, a < 2 → ∀ b, b < 2 → a ≠ b → (TX2 a).2.1 ≠ (TX2 b).2.1 := by decide +kernel
theorem tyX2_ok : ∀ k, k < 2 → parseFieldDescriptor (TX2 k).2.2.1 = some (tyX2 k) := by decide +kernel
abbrev cX2_init : ByteArray := prog_4_method_1_code
def yX2_init : MethodName := ⟨RX2, "<init>", "()V"⟩
abbrev cX2_fittingCells : ByteArray := prog_4_method_2_code
def yX2_fittingCells : MethodName := ⟨RX2, "fittingCells", "(LVotedHill$Land;LVotedHill$Strip;)I"⟩
abbrev cX2_fittingKinds : ByteArray := prog_4_method_3_code
def yX2_fittingKinds : MethodName := ⟨RX2, "fittingKinds", "(LVotedHill$Land;ILVotedHill$Strip;)I"⟩
abbrev cX2_bestTeller : ByteArray := prog_4_method_4_code
def yX2_bestTeller : MethodName := ⟨RX2, "bestTeller", "(LVotedHill$Land;I)I"⟩
abbrev cX2_bestCell : ByteArray := prog_4_method_5_code
def yX2_bestCell : MethodName := ⟨RX2, "bestCell", "(LVotedHill$Land;II)I"⟩
abbrev cX2_startTally : ByteArray := prog_4_method_6_code
def yX2_startTally : MethodName := ⟨RX2, "startTally", "()V"⟩
abbrev cX2_addToTally : ByteArray := prog_4_method_7_code
def yX2_addToTally : MethodName := ⟨RX2, "addToTally", "(I)V"⟩
abbrev cX2_takeIfLess : ByteArray := prog_4_method_8_code
def yX2_takeIfLess : MethodName := ⟨RX2, "takeIfLess", "(II)I"⟩
def RX3 : String := "VotedHill$Land"
def TX3 : u_T := fun k => match k with
  | 0 => ("VotedHill$Land", "columns", "I", false)
  | 1 => ("VotedHill$Land", "lines", "I", false)
  | 2 => ("VotedHill$Land", "people", "I", false)
  | 3 => ("VotedHill$Land", "mountain", "I", false)
  | 4 => ("VotedHill$Land", "back", "I", false)
  | 5 => ("VotedHill$Land", "years", "I", false)
  | 6 => ("VotedHill$Land", "deeds", "I", false)
  | 7 => ("VotedHill$Land", "kind", "[I", true)
  | 8 => ("VotedHill$Land", "house", "[I", true)
  | 9 => ("VotedHill$Land", "hearths", "[I", true)
  | 10 => ("VotedHill$Land", "oldMountain", "[I", true)
  | 11 => ("VotedHill$Land", "oldBack", "[I", true)
  | 12 => ("VotedHill$Land", "oldYears", "[I", true)
  | 13 => ("VotedHill$Land", "movedOne", "[I", true)
  | _ => ("VotedHill$Land", "oldHouse", "[I", true)
def tyX3 : Nat → FieldType := fun k => match k with
  | 0 => .int
  | 1 => .int
  | 2 => .int
  | 3 => .int
  | 4 => .int
  | 5 => .int
  | 6 => .int
  | 7 => .array .int
  | 8 => .array .int
  | 9 => .array .int
  | 10 => .array .int
  | 11 => .array .int
  | 12 => .array .int
  | 13 => .array .int
  | _ => .array .int
abbrev wsX30 : List Cond := u_ws RX3 TX3 15
theorem nmX3 : ∀ a, a < 15 → ∀ b, b < 15 → a ≠ b → (TX3 a).2.1 ≠ (TX3 b).2.1 := by decide +kernel
theorem tyX3_ok : ∀ k, k < 15 → parseFieldDescriptor (TX3 k).2.2.1 = some (tyX3 k) := by decide +kernel
abbrev cX3_init : ByteArray := prog_5_method_1_code
def yX3_init : MethodName := ⟨RX3, "<init>", "()V"⟩
abbrev cX3_clear : ByteArray := prog_5_method_2_code
def yX3_clear : MethodName := ⟨RX3, "clear", "()V"⟩
abbrev cX3_become : ByteArray := prog_5_method_3_code
def yX3_become : MethodName := ⟨RX3, "become", "(LVotedHill$Land;)V"⟩
abbrev cX3_settle : ByteArray := prog_5_method_4_code
def yX3_settle : MethodName := ⟨RX3, "settle", "(III)V"⟩
abbrev cX3_isEmpty : ByteArray := prog_5_method_5_code
def yX3_isEmpty : MethodName := ⟨RX3, "isEmpty", "()Z"⟩
abbrev cX3_cells : ByteArray := prog_5_method_6_code
def yX3_cells : MethodName := ⟨RX3, "cells", "()I"⟩
abbrev cX3_hasCell : ByteArray := prog_5_method_7_code
def yX3_hasCell : MethodName := ⟨RX3, "hasCell", "(I)Z"⟩
abbrev cX3_hasOne : ByteArray := prog_5_method_8_code
def yX3_hasOne : MethodName := ⟨RX3, "hasOne", "(I)Z"⟩
abbrev cX3_far : ByteArray := prog_5_method_9_code
def yX3_far : MethodName := ⟨RX3, "far", "(II)I"⟩
abbrev cX3_beside : ByteArray := prog_5_method_10_code
def yX3_beside : MethodName := ⟨RX3, "beside", "(II)I"⟩
abbrev cX3_canGo : ByteArray := prog_5_method_11_code
def yX3_canGo : MethodName := ⟨RX3, "canGo", "(III)Z"⟩
abbrev cX3_against : ByteArray := prog_5_method_12_code
def yX3_against : MethodName := ⟨RX3, "against", "(I)I"⟩
abbrev cX3_isOf : ByteArray := prog_5_method_13_code
def yX3_isOf : MethodName := ⟨RX3, "isOf", "(II)Z"⟩
abbrev cX3_liesNorth : ByteArray := prog_5_method_14_code
def yX3_liesNorth : MethodName := ⟨RX3, "liesNorth", "(II)Z"⟩
abbrev cX3_gains : ByteArray := prog_5_method_15_code
def yX3_gains : MethodName := ⟨RX3, "gains", "(II)I"⟩
abbrev cX3_gainsAs : ByteArray := prog_5_method_16_code
def yX3_gainsAs : MethodName := ⟨RX3, "gainsAs", "(III)I"⟩
abbrev cX3_gainOf : ByteArray := prog_5_method_17_code
def yX3_gainOf : MethodName := ⟨RX3, "gainOf", "(IIZ)I"⟩
abbrev cX3_gainfulCells : ByteArray := prog_5_method_18_code
def yX3_gainfulCells : MethodName := ⟨RX3, "gainfulCells", "(I)I"⟩
abbrev cX3_worth : ByteArray := prog_5_method_19_code
def yX3_worth : MethodName := ⟨RX3, "worth", "(I)I"⟩
abbrev cX3_hearthsOf : ByteArray := prog_5_method_20_code
def yX3_hearthsOf : MethodName := ⟨RX3, "hearthsOf", "(I)I"⟩
abbrev cX3_allHearths : ByteArray := prog_5_method_21_code
def yX3_allHearths : MethodName := ⟨RX3, "allHearths", "()I"⟩
abbrev cX3_widows : ByteArray := prog_5_method_22_code
def yX3_widows : MethodName := ⟨RX3, "widows", "()I"⟩
abbrev cX3_goInYear : ByteArray := prog_5_method_23_code
def yX3_goInYear : MethodName := ⟨RX3, "goInYear", "(I)V"⟩
abbrev cX3_bePushed : ByteArray := prog_5_method_24_code
def yX3_bePushed : MethodName := ⟨RX3, "bePushed", "(I)V"⟩
abbrev cX3_moveHouse : ByteArray := prog_5_method_25_code
def yX3_moveHouse : MethodName := ⟨RX3, "moveHouse", "(II)V"⟩
abbrev cX3_remember : ByteArray := prog_5_method_26_code
def yX3_remember : MethodName := ⟨RX3, "remember", "(I)Z"⟩
abbrev cX3_undoFrom : ByteArray := prog_5_method_27_code
def yX3_undoFrom : MethodName := ⟨RX3, "undoFrom", "(I)V"⟩
def RX4 : String := "VotedHill$Paths"
def TX4 : u_T := fun k => match k with
  | 0 => ("VotedHill$Paths", "steps", "[I", true)
  | _ => ("VotedHill$Paths", "queue", "[I", true)
def tyX4 : Nat → FieldType := fun k => match k with
  | 0 => .array .int
  | _ => .array .int
abbrev wsX40 : List Cond := u_ws RX4 TX4 2
theorem nmX4 : ∀ a, a < 2 → ∀ b, b < 2 → a ≠ b → (TX4 a).2.1 ≠ (TX4 b).2.1 := by decide +kernel
theorem tyX4_ok : ∀ k, k < 2 → parseFieldDescriptor (TX4 k).2.2.1 = some (tyX4 k) := by decide +kernel
abbrev cX4_init : ByteArray := prog_6_method_1_code
def yX4_init : MethodName := ⟨RX4, "<init>", "()V"⟩
abbrev cX4_steps : ByteArray := prog_6_method_2_code
def yX4_steps : MethodName := ⟨RX4, "steps", "(LVotedHill$Land;III)I"⟩
abbrev cX4_reachBeside : ByteArray := prog_6_method_3_code
def yX4_reachBeside : MethodName := ⟨RX4, "reachBeside", "(LVotedHill$Land;III)I"⟩
abbrev cX4_firstWay : ByteArray := prog_6_method_4_code
def yX4_firstWay : MethodName := ⟨RX4, "firstWay", "(LVotedHill$Land;I)I"⟩
def RX5 : String := "VotedHill$Plans"
def TX5 : u_T := fun k => match k with
  | 0 => ("VotedHill$Plans", "worths", "[I", true)
  | 1 => ("VotedHill$Plans", "bests", "[[I", true)
  | _ => ("VotedHill$Plans", "duels", "[[I", true)
def tyX5 : Nat → FieldType := fun k => match k with
  | 0 => .array .int
  | 1 => .array (.array .int)
  | _ => .array (.array .int)
abbrev wsX50 : List Cond := u_ws RX5 TX5 3
theorem nmX5 : ∀ a, a < 3 → ∀ b, b < 3 → a ≠ b → (TX5 a).2.1 ≠ (TX5 b).2.1 := by decide +kernel
theorem tyX5_ok : ∀ k, k < 3 → parseFieldDescriptor (TX5 k).2.2.1 = some (tyX5 k) := by decide +kernel
abbrev cX5_init : ByteArray := prog_7_method_1_code
def yX5_init : MethodName := ⟨RX5, "<init>", "()V"⟩
abbrev cX5_bestCourse : ByteArray := prog_7_method_2_code
def yX5_bestCourse : MethodName := ⟨RX5, "bestCourse", "(LVotedHill$Land;I[I)I"⟩
abbrev cX5_weighCells : ByteArray := prog_7_method_3_code
def yX5_weighCells : MethodName := ⟨RX5, "weighCells", "(LVotedHill$Land;)V"⟩
abbrev cX5_bestWay : ByteArray := prog_7_method_4_code
def yX5_bestWay : MethodName := ⟨RX5, "bestWay", "(LVotedHill$Land;III)I"⟩
abbrev cX5_gainedBy : ByteArray := prog_7_method_5_code
def yX5_gainedBy : MethodName := ⟨RX5, "gainedBy", "(LVotedHill$Land;III)I"⟩
abbrev cX5_duelWorth : ByteArray := prog_7_method_6_code
def yX5_duelWorth : MethodName := ⟨RX5, "duelWorth", "(LVotedHill$Land;I)I"⟩
abbrev cX5_wanted : ByteArray := prog_7_method_7_code
def yX5_wanted : MethodName := ⟨RX5, "wanted", "(LVotedHill$Land;II)I"⟩
def RX6 : String := "VotedHill$Reader"
def TX6 : u_T := fun k => match k with
  | 0 => ("VotedHill$Reader", "source", "LVotedHill$Strip;", false)
  | _ => ("VotedHill$Reader", "place", "I", false)
def tyX6 : Nat → FieldType := fun k => match k with
  | 0 => .object "VotedHill$Strip"
  | _ => .int
abbrev wsX60 : List Cond := u_ws RX6 TX6 2
theorem nmX6 : ∀ a, a < 2 → ∀ b, b < 2 → a ≠ b → (TX6 a).2.1 ≠ (TX6 b).2.1 := by decide +kernel
theorem tyX6_ok : ∀ k, k < 2 → parseFieldDescriptor (TX6 k).2.2.1 = some (tyX6 k) := by decide +kernel
abbrev cX6_init : ByteArray := prog_8_method_1_code
def yX6_init : MethodName := ⟨RX6, "<init>", "()V"⟩
abbrev cX6_readLand : ByteArray := prog_8_method_2_code
def yX6_readLand : MethodName := ⟨RX6, "readLand", "(LVotedHill$Strip;LVotedHill$Land;)I"⟩
abbrev cX6_readGround : ByteArray := prog_8_method_3_code
def yX6_readGround : MethodName := ⟨RX6, "readGround", "(LVotedHill$Land;)Z"⟩
abbrev cX6_readOne : ByteArray := prog_8_method_4_code
def yX6_readOne : MethodName := ⟨RX6, "readOne", "(LVotedHill$Land;)Z"⟩
abbrev cX6_kindOf : ByteArray := prog_8_method_5_code
def yX6_kindOf : MethodName := ⟨RX6, "kindOf", "(I)I"⟩
abbrev cX6_figure : ByteArray := prog_8_method_6_code
def yX6_figure : MethodName := ⟨RX6, "figure", "(II)I"⟩
abbrev cX6_atEnd : ByteArray := prog_8_method_7_code
def yX6_atEnd : MethodName := ⟨RX6, "atEnd", "()Z"⟩
abbrev cX6_sign : ByteArray := prog_8_method_8_code
def yX6_sign : MethodName := ⟨RX6, "sign", "()I"⟩
abbrev cX6_skipBlanks : ByteArray := prog_8_method_9_code
def yX6_skipBlanks : MethodName := ⟨RX6, "skipBlanks", "()V"⟩
def RX7 : String := "VotedHill$Strip"
def TX7 : u_T := fun k => match k with
  | 0 => ("VotedHill$Strip", "places", "[I", true)
  | _ => ("VotedHill$Strip", "size", "I", false)
def tyX7 : Nat → FieldType := fun k => match k with
  | 0 => .array .int
  | _ => .int
abbrev wsX70 : List Cond := u_ws RX7 TX7 2
theorem nmX7 : ∀ a, a < 2 → ∀ b, b < 2 → a ≠ b → (TX7 a).2.1 ≠ (TX7 b).2.1 := by decide +kernel
theorem tyX7_ok : ∀ k, k < 2 → parseFieldDescriptor (TX7 k).2.2.1 = some (tyX7 k) := by decide +kernel
abbrev cX7_init : ByteArray := prog_9_method_1_code
def yX7_init : MethodName := ⟨RX7, "<init>", "(I)V"⟩
abbrev cX7_isMissing : ByteArray := prog_9_method_2_code
def yX7_isMissing : MethodName := ⟨RX7, "isMissing", "()Z"⟩
abbrev cX7_remove : ByteArray := prog_9_method_3_code
def yX7_remove : MethodName := ⟨RX7, "remove", "()V"⟩
abbrev cX7_renew : ByteArray := prog_9_method_4_code
def yX7_renew : MethodName := ⟨RX7, "renew", "(II)V"⟩
abbrev cX7_holds : ByteArray := prog_9_method_5_code
def yX7_holds : MethodName := ⟨RX7, "holds", "(II)Z"⟩
abbrev cX7_mixInto : ByteArray := prog_9_method_6_code
def yX7_mixInto : MethodName := ⟨RX7, "mixInto", "(J)J"⟩
def RX8 : String := "VotedHill$Years"
def TX8 : u_T := fun k => match k with
  | 0 => ("VotedHill$Years", "cell", "I", false)
  | 1 => ("VotedHill$Years", "period", "I", false)
  | 2 => ("VotedHill$Years", "back", "I", false)
  | _ => ("VotedHill$Years", "seenIn", "[I", true)
def tyX8 : Nat → FieldType := fun k => match k with
  | 0 => .int
  | 1 => .int
  | 2 => .int
  | _ => .array .int
abbrev wsX80 : List Cond := u_ws RX8 TX8 4
theorem nmX8 : ∀ a, a < 4 → ∀ b, b < 4 → a ≠ b → (TX8 a).2.1 ≠ (TX8 b).2.1 := by decide +kernel
theorem tyX8_ok : ∀ k, k < 4 → parseFieldDescriptor (TX8 k).2.2.1 = some (tyX8 k) := by decide +kernel
abbrev cX8_init : ByteArray := prog_10_method_1_code
def yX8_init : MethodName := ⟨RX8, "<init>", "()V"⟩
abbrev cX8_begin : ByteArray := prog_10_method_2_code
def yX8_begin : MethodName := ⟨RX8, "begin", "(LVotedHill$Land;)V"⟩
abbrev cX8_pass : ByteArray := prog_10_method_3_code
def yX8_pass : MethodName := ⟨RX8, "pass", "(LVotedHill$Land;LVotedHill$Ballot;)V"⟩
abbrev cX8_untilRepeat : ByteArray := prog_10_method_4_code
def yX8_untilRepeat : MethodName := ⟨RX8, "untilRepeat", "(LVotedHill$Land;LVotedHill$Ballot;)I"⟩
def RX9 : String := "VotedHill"
def TX9 : u_T := fun k => match k with
  | 0 => ("VotedHill", "rows", "[LVotedHill$Strip;", true)
  | 1 => ("VotedHill", "texts", "[LVotedHill$Strip;", true)
  | 2 => ("VotedHill", "land", "LVotedHill$Land;", true)
  | 3 => ("VotedHill", "draft", "LVotedHill$Land;", true)
  | 4 => ("VotedHill", "kept", "[LVotedHill$Land;", true)
  | 5 => ("VotedHill", "reader", "LVotedHill$Reader;", true)
  | 6 => ("VotedHill", "ballot", "LVotedHill$Ballot;", true)
  | 7 => ("VotedHill", "years", "LVotedHill$Years;", true)
  | 8 => ("VotedHill", "plans", "LVotedHill$Plans;", true)
  | 9 => ("VotedHill", "clues", "LVotedHill$Clues;", true)
  | 10 => ("VotedHill", "paths", "LVotedHill$Paths;", true)
  | 11 => ("VotedHill", "chance", "LVotedHill$Chance;", true)
  | 12 => ("VotedHill", "found", "[I", true)
  | 13 => ("VotedHill", "latestFinding", "I", false)
  | _ => ("VotedHill", "told", "I", false)
def tyX9 : Nat → FieldType := fun k => match k with
  | 0 => .array (.object "VotedHill$Strip")
  | 1 => .array (.object "VotedHill$Strip")
  | 2 => .object "VotedHill$Land"
  | 3 => .object "VotedHill$Land"
  | 4 => .array (.object "VotedHill$Land")
  | 5 => .object "VotedHill$Reader"
  | 6 => .object "VotedHill$Ballot"
  | 7 => .object "VotedHill$Years"
  | 8 => .object "VotedHill$Plans"
  | 9 => .object "VotedHill$Clues"
  | 10 => .object "VotedHill$Paths"
  | 11 => .object "VotedHill$Chance"
  | 12 => .array .int
  | 13 => .int
  | _ => .int
abbrev wsX90 : List Cond := u_ws RX9 TX9 15
theorem nmX9 : ∀ a, a < 15 → ∀ b, b < 15 → a ≠ b → (TX9 a).2.1 ≠ (TX9 b).2.1 := by decide +kernel
theorem tyX9_ok : ∀ k, k < 15 → parseFieldDescriptor (TX9 k).2.2.1 = some (tyX9 k) := by decide +kernel
abbrev cX9_init : ByteArray := prog_1_method_1_code
def yX9_init : MethodName := ⟨RX9, "<init>", "()V"⟩
abbrev cX9_row : ByteArray := prog_1_method_2_code
def yX9_row : MethodName := ⟨RX9, "row", "(II)I"⟩
abbrev cX9_lay : ByteArray := prog_1_method_3_code
def yX9_lay : MethodName := ⟨RX9, "lay", "(III)I"⟩
abbrev cX9_at : ByteArray := prog_1_method_4_code
def yX9_at : MethodName := ⟨RX9, "at", "(II)I"⟩
abbrev cX9_tear : ByteArray := prog_1_method_5_code
def yX9_tear : MethodName := ⟨RX9, "tear", "(I)I"⟩
abbrev cX9_copy : ByteArray := prog_1_method_6_code
def yX9_copy : MethodName := ⟨RX9, "copy", "(IIIII)I"⟩
abbrev cX9_mean : ByteArray := prog_1_method_7_code
def yX9_mean : MethodName := ⟨RX9, "mean", "(I)I"⟩
abbrev cX9_text : ByteArray := prog_1_method_8_code
def yX9_text : MethodName := ⟨RX9, "text", "(II)I"⟩
abbrev cX9_put : ByteArray := prog_1_method_9_code
def yX9_put : MethodName := ⟨RX9, "put", "(III)I"⟩
abbrev cX9_fault : ByteArray := prog_1_method_10_code
def yX9_fault : MethodName := ⟨RX9, "fault", "(I)I"⟩
abbrev cX9_land : ByteArray := prog_1_method_11_code
def yX9_land : MethodName := ⟨RX9, "land", "(I)I"⟩
abbrev cX9_one : ByteArray := prog_1_method_12_code
def yX9_one : MethodName := ⟨RX9, "one", "(II)I"⟩
abbrev cX9_mark : ByteArray := prog_1_method_13_code
def yX9_mark : MethodName := ⟨RX9, "mark", "(II)I"⟩
abbrev cX9_gain : ByteArray := prog_1_method_14_code
def yX9_gain : MethodName := ⟨RX9, "gain", "(II)I"⟩
abbrev cX9_year : ByteArray := prog_1_method_15_code
def yX9_year : MethodName := ⟨RX9, "year", "()I"⟩
abbrev cX9_push : ByteArray := prog_1_method_16_code
def yX9_push : MethodName := ⟨RX9, "push", "(I)I"⟩
abbrev cX9_house : ByteArray := prog_1_method_17_code
def yX9_house : MethodName := ⟨RX9, "house", "(II)I"⟩
abbrev cX9_undo : ByteArray := prog_1_method_18_code
def yX9_undo : MethodName := ⟨RX9, "undo", "(I)I"⟩
abbrev cX9_keep : ByteArray := prog_1_method_19_code
def yX9_keep : MethodName := ⟨RX9, "keep", "(I)I"⟩
abbrev cX9_on : ByteArray := prog_1_method_20_code
def yX9_on : MethodName := ⟨RX9, "on", "(I)I"⟩
abbrev cX9_votes : ByteArray := prog_1_method_21_code
def yX9_votes : MethodName := ⟨RX9, "votes", "(I)I"⟩
abbrev cX9_carries : ByteArray := prog_1_method_22_code
def yX9_carries : MethodName := ⟨RX9, "carries", "()I"⟩
abbrev cX9_buy : ByteArray := prog_1_method_23_code
def yX9_buy : MethodName := ⟨RX9, "buy", "(I)I"⟩
abbrev cX9_then : ByteArray := prog_1_method_24_code
def yX9_then : MethodName := ⟨RX9, "then", "(I)I"⟩
abbrev cX9_when : ByteArray := prog_1_method_25_code
def yX9_when : MethodName := ⟨RX9, "when", "(I)I"⟩
abbrev cX9_round : ByteArray := prog_1_method_26_code
def yX9_round : MethodName := ⟨RX9, "round", "()I"⟩
abbrev cX9_course : ByteArray := prog_1_method_27_code
def yX9_course : MethodName := ⟨RX9, "course", "(II)I"⟩
abbrev cX9_fits : ByteArray := prog_1_method_28_code
def yX9_fits : MethodName := ⟨RX9, "fits", "(I)I"⟩
abbrev cX9_next : ByteArray := prog_1_method_29_code
def yX9_next : MethodName := ⟨RX9, "next", "(I)I"⟩
abbrev cX9_kinds : ByteArray := prog_1_method_30_code
def yX9_kinds : MethodName := ⟨RX9, "kinds", "(II)I"⟩
abbrev cX9_test : ByteArray := prog_1_method_31_code
def yX9_test : MethodName := ⟨RX9, "test", "(II)I"⟩
abbrev cX9_way : ByteArray := prog_1_method_32_code
def yX9_way : MethodName := ⟨RX9, "way", "(II)I"⟩
abbrev cX9_parts : ByteArray := prog_1_method_33_code
def yX9_parts : MethodName := ⟨RX9, "parts", "(II)I"⟩
abbrev cX9_duel : ByteArray := prog_1_method_34_code
def yX9_duel : MethodName := ⟨RX9, "duel", "(I)I"⟩
abbrev cX9_odds : ByteArray := prog_1_method_35_code
def yX9_odds : MethodName := ⟨RX9, "odds", "(II)I"⟩
abbrev cX9_mid : ByteArray := prog_1_method_36_code
def yX9_mid : MethodName := ⟨RX9, "mid", "(I)I"⟩
abbrev cX9_lots : ByteArray := prog_1_method_37_code
def yX9_lots : MethodName := ⟨RX9, "lots", "(II)I"⟩
abbrev cX9_asked : ByteArray := prog_1_method_38_code
def yX9_asked : MethodName := ⟨RX9, "asked", "()I"⟩
abbrev cX9_upper : ByteArray := prog_1_method_39_code
def yX9_upper : MethodName := ⟨RX9, "upper", "()J"⟩
abbrev cX9_lower : ByteArray := prog_1_method_40_code
def yX9_lower : MethodName := ⟨RX9, "lower", "()J"⟩
abbrev cX9_count : ByteArray := prog_1_method_41_code
def yX9_count : MethodName := ⟨RX9, "count", "(I)I"⟩
abbrev cX9_finding : ByteArray := prog_1_method_42_code
def yX9_finding : MethodName := ⟨RX9, "finding", "()I"⟩
abbrev cX9_findings : ByteArray := prog_1_method_43_code
def yX9_findings : MethodName := ⟨RX9, "findings", "(I)I"⟩
abbrev cX9_digest : ByteArray := prog_1_method_44_code
def yX9_digest : MethodName := ⟨RX9, "digest", "()J"⟩
abbrev cX9_isRow : ByteArray := prog_1_method_45_code
def yX9_isRow : MethodName := ⟨RX9, "isRow", "(I)Z"⟩
abbrev cX9_isText : ByteArray := prog_1_method_46_code
def yX9_isText : MethodName := ⟨RX9, "isText", "(I)Z"⟩
abbrev cX9_isWay : ByteArray := prog_1_method_47_code
def yX9_isWay : MethodName := ⟨RX9, "isWay", "(I)Z"⟩
abbrev cX9_refuse : ByteArray := prog_1_method_48_code
def yX9_refuse : MethodName := ⟨RX9, "refuse", "(I)I"⟩
abbrev cX9_placeRefusal : ByteArray := prog_1_method_49_code
def yX9_placeRefusal : MethodName := ⟨RX9, "placeRefusal", "(LVotedHill$Strip;I)I"⟩
abbrev cX9_cellPairsRefusal : ByteArray := prog_1_method_50_code
def yX9_cellPairsRefusal : MethodName := ⟨RX9, "cellPairsRefusal", "(I)I"⟩
abbrev cX9_kindPairsRefusal : ByteArray := prog_1_method_51_code
def yX9_kindPairsRefusal : MethodName := ⟨RX9, "kindPairsRefusal", "(II)I"⟩
abbrev cX9_pairsRefusal : ByteArray := prog_1_method_52_code
def yX9_pairsRefusal : MethodName := ⟨RX9, "pairsRefusal", "(LVotedHill$Strip;I)I"⟩
abbrev cX9_aboutOne : ByteArray := prog_1_method_53_code
def yX9_aboutOne : MethodName := ⟨RX9, "aboutOne", "(II)I"⟩
abbrev cX9_abstainersBeside : ByteArray := prog_1_method_54_code
def yX9_abstainersBeside : MethodName := ⟨RX9, "abstainersBeside", "(I)I"⟩
abbrev cX9_passYear : ByteArray := prog_1_method_55_code
def yX9_passYear : MethodName := ⟨RX9, "passYear", "()I"⟩
abbrev cX9_present : ByteArray := prog_1_method_56_code
def yX9_present : MethodName := ⟨RX9, "present", "([LVotedHill$Strip;)I"⟩
abbrev cX9_keptLands : ByteArray := prog_1_method_57_code
def yX9_keptLands : MethodName := ⟨RX9, "keptLands", "()I"⟩
def RX10 : String := "VotedHillModel"
def TX10 : u_T := fun k => match k with
  | 0 => ("VotedHillModel", "latest", "I", false)
  | 1 => ("VotedHillModel", "came", "[I", true)
  | 2 => ("VotedHillModel", "asked", "I", false)
  | 3 => ("VotedHillModel", "upper", "J", false)
  | 4 => ("VotedHillModel", "lower", "J", false)
  | 5 => ("VotedHillModel", "sizes", "[I", true)
  | 6 => ("VotedHillModel", "rows", "[I", true)
  | 7 => ("VotedHillModel", "copied", "[I", true)
  | 8 => ("VotedHillModel", "textSizes", "[I", true)
  | 9 => ("VotedHillModel", "bytes", "[B", true)
  | 10 => ("VotedHillModel", "n", "I", false)
  | 11 => ("VotedHillModel", "columns", "I", false)
  | 12 => ("VotedHillModel", "lines", "I", false)
  | 13 => ("VotedHillModel", "kindOf", "[I", true)
  | 14 => ("VotedHillModel", "hearths", "[I", true)
  | 15 => ("VotedHillModel", "now", "[I", true)
  | 16 => ("VotedHillModel", "tried", "[I", true)
  | 17 => ("VotedHillModel", "readAt", "I", false)
  | 18 => ("VotedHillModel", "readMany", "I", false)
  | 19 => ("VotedHillModel", "isHead", "Z", false)
  | 20 => ("VotedHillModel", "readHead", "[I", true)
  | 21 => ("VotedHillModel", "readOne", "[I", true)
  | 22 => ("VotedHillModel", "counts", "[I", true)
  | 23 => ("VotedHillModel", "deedMany", "I", false)
  | 24 => ("VotedHillModel", "log", "[I", true)
  | 25 => ("VotedHillModel", "isKept", "[Z", true)
  | 26 => ("VotedHillModel", "keptMany", "[I", true)
  | 27 => ("VotedHillModel", "keptNow", "[I", true)
  | 28 => ("VotedHillModel", "keptLog", "[I", true)
  | 29 => ("VotedHillModel", "met", "[I", true)
  | 30 => ("VotedHillModel", "ways", "[I", true)
  | 31 => ("VotedHillModel", "steps", "[I", true)
  | 32 => ("VotedHillModel", "ends", "[I", true)
  | 33 => ("VotedHillModel", "ahead", "[I", true)
  | 34 => ("VotedHillModel", "whole", "J", false)
  | 35 => ("VotedHillModel", "waySum", "J", false)
  | 36 => ("VotedHillModel", "gainSum", "J", false)
  | _ => ("VotedHillModel", "hash", "J", false)
def tyX10 : Nat → FieldType := fun k => match k with
  | 0 => .int
  | 1 => .array .int
  | 2 => .int
  | 3 => .long
  | 4 => .long
  | 5 => .array .int
  | 6 => .array .int
  | 7 => .array .int
  | 8 => .array .int
  | 9 => .array .byte
  | 10 => .int
  | 11 => .int
  | 12 => .int
  | 13 => .array .int
  | 14 => .array .int
  | 15 => .array .int
  | 16 => .array .int
  | 17 => .int
  | 18 => .int
  | 19 => .boolean
  | 20 => .array .int
  | 21 => .array .int
  | 22 => .array .int
  | 23 => .int
  | 24 => .array .int
  | 25 => .array .boolean
  | 26 => .array .int
  | 27 => .array .int
  | 28 => .array .int
  | 29 => .array .int
  | 30 => .array .int
  | 31 => .array .int
  | 32 => .array .int
  | 33 => .array .int
  | 34 => .long
  | 35 => .long
  | 36 => .long
  | _ => .long
abbrev wsX100 : List Cond := u_ws RX10 TX10 38
theorem nmX10 : ∀ a, a < 38 → ∀ b, b < 38 → a ≠ b → (TX10 a).2.1 ≠ (TX10 b).2.1 := by decide +kernel
theorem tyX10_ok : ∀ k, k < 38 → parseFieldDescriptor (TX10 k).2.2.1 = some (tyX10 k) := by decide +kernel
abbrev cX10_init : ByteArray := prog_12_method_1_code
def yX10_init : MethodName := ⟨RX10, "<init>", "()V"⟩
abbrev cX10_in : ByteArray := prog_12_method_2_code
def yX10_in : MethodName := ⟨RX10, "in", "(III)Z"⟩
abbrev cX10_has : ByteArray := prog_12_method_3_code
def yX10_has : MethodName := ⟨RX10, "has", "(II)Z"⟩
abbrev cX10_bits : ByteArray := prog_12_method_4_code
def yX10_bits : MethodName := ⟨RX10, "bits", "(I)I"⟩
abbrev cX10_meets : ByteArray := prog_12_method_5_code
def yX10_meets : MethodName := ⟨RX10, "meets", "(I)I"⟩
abbrev cX10_finding : ByteArray := prog_12_method_6_code
def yX10_finding : MethodName := ⟨RX10, "finding", "()I"⟩
abbrev cX10_findings : ByteArray := prog_12_method_7_code
def yX10_findings : MethodName := ⟨RX10, "findings", "(I)I"⟩
abbrev cX10_tells : ByteArray := prog_12_method_8_code
def yX10_tells : MethodName := ⟨RX10, "tells", "(II)I"⟩
abbrev cX10_asked : ByteArray := prog_12_method_9_code
def yX10_asked : MethodName := ⟨RX10, "asked", "()I"⟩
abbrev cX10_fraction : ByteArray := prog_12_method_10_code
def yX10_fraction : MethodName := ⟨RX10, "fraction", "(JJ)I"⟩
abbrev cX10_upper : ByteArray := prog_12_method_11_code
def yX10_upper : MethodName := ⟨RX10, "upper", "()J"⟩
abbrev cX10_lower : ByteArray := prog_12_method_12_code
def yX10_lower : MethodName := ⟨RX10, "lower", "()J"⟩
abbrev cX10_isRow : ByteArray := prog_12_method_13_code
def yX10_isRow : MethodName := ⟨RX10, "isRow", "(I)Z"⟩
abbrev cX10_rowAt : ByteArray := prog_12_method_14_code
def yX10_rowAt : MethodName := ⟨RX10, "rowAt", "(II)I"⟩
abbrev cX10_row : ByteArray := prog_12_method_15_code
def yX10_row : MethodName := ⟨RX10, "row", "(II)I"⟩
abbrev cX10_lay : ByteArray := prog_12_method_16_code
def yX10_lay : MethodName := ⟨RX10, "lay", "(III)I"⟩
abbrev cX10_at : ByteArray := prog_12_method_17_code
def yX10_at : MethodName := ⟨RX10, "at", "(II)I"⟩
abbrev cX10_tear : ByteArray := prog_12_method_18_code
def yX10_tear : MethodName := ⟨RX10, "tear", "(I)I"⟩
abbrev cX10_copy : ByteArray := prog_12_method_19_code
def yX10_copy : MethodName := ⟨RX10, "copy", "(IIIII)I"⟩
abbrev cX10_mean : ByteArray := prog_12_method_20_code
def yX10_mean : MethodName := ⟨RX10, "mean", "(I)I"⟩
abbrev cX10_isText : ByteArray := prog_12_method_21_code
def yX10_isText : MethodName := ⟨RX10, "isText", "(I)Z"⟩
abbrev cX10_text : ByteArray := prog_12_method_22_code
def yX10_text : MethodName := ⟨RX10, "text", "(II)I"⟩
abbrev cX10_put : ByteArray := prog_12_method_23_code
def yX10_put : MethodName := ⟨RX10, "put", "(III)I"⟩
abbrev cX10_byteAt : ByteArray := prog_12_method_24_code
def yX10_byteAt : MethodName := ⟨RX10, "byteAt", "(II)I"⟩
abbrev cX10_kindBy : ByteArray := prog_12_method_25_code
def yX10_kindBy : MethodName := ⟨RX10, "kindBy", "(I)I"⟩
abbrev cX10_figure : ByteArray := prog_12_method_26_code
def yX10_figure : MethodName := ⟨RX10, "figure", "(III)I"⟩
abbrev cX10_readsHead : ByteArray := prog_12_method_27_code
def yX10_readsHead : MethodName := ⟨RX10, "readsHead", "(I)Z"⟩
abbrev cX10_readsOne : ByteArray := prog_12_method_28_code
def yX10_readsOne : MethodName := ⟨RX10, "readsOne", "(I)Z"⟩
abbrev cX10_faultOf : ByteArray := prog_12_method_29_code
def yX10_faultOf : MethodName := ⟨RX10, "faultOf", "(I)I"⟩
abbrev cX10_fault : ByteArray := prog_12_method_30_code
def yX10_fault : MethodName := ⟨RX10, "fault", "(I)I"⟩
abbrev cX10_land : ByteArray := prog_12_method_31_code
def yX10_land : MethodName := ⟨RX10, "land", "(I)I"⟩
abbrev cX10_isOne : ByteArray := prog_12_method_32_code
def yX10_isOne : MethodName := ⟨RX10, "isOne", "(I)Z"⟩
abbrev cX10_isCell : ByteArray := prog_12_method_33_code
def yX10_isCell : MethodName := ⟨RX10, "isCell", "(I)Z"⟩
abbrev cX10_apart : ByteArray := prog_12_method_34_code
def yX10_apart : MethodName := ⟨RX10, "apart", "(II)I"⟩
abbrev cX10_far : ByteArray := prog_12_method_35_code
def yX10_far : MethodName := ⟨RX10, "far", "(II)I"⟩
abbrev cX10_beside : ByteArray := prog_12_method_36_code
def yX10_beside : MethodName := ⟨RX10, "beside", "(II)I"⟩
abbrev cX10_against : ByteArray := prog_12_method_37_code
def yX10_against : MethodName := ⟨RX10, "against", "(I)I"⟩
abbrev cX10_gainBy : ByteArray := prog_12_method_38_code
def yX10_gainBy : MethodName := ⟨RX10, "gainBy", "(III)I"⟩
abbrev cX10_gainOn : ByteArray := prog_12_method_39_code
def yX10_gainOn : MethodName := ⟨RX10, "gainOn", "(II)I"⟩
abbrev cX10_all : ByteArray := prog_12_method_40_code
def yX10_all : MethodName := ⟨RX10, "all", "(I)I"⟩
abbrev cX10_canBe : ByteArray := prog_12_method_41_code
def yX10_canBe : MethodName := ⟨RX10, "canBe", "(III)Z"⟩
abbrev cX10_voteOn : ByteArray := prog_12_method_42_code
def yX10_voteOn : MethodName := ⟨RX10, "voteOn", "(III)I"⟩
abbrev cX10_layCounts : ByteArray := prog_12_method_43_code
def yX10_layCounts : MethodName := ⟨RX10, "layCounts", "(IIIII)V"⟩
abbrev cX10_carried : ByteArray := prog_12_method_44_code
def yX10_carried : MethodName := ⟨RX10, "carried", "()I"⟩
abbrev cX10_everybody : ByteArray := prog_12_method_45_code
def yX10_everybody : MethodName := ⟨RX10, "everybody", "()I"⟩
abbrev cX10_carriedFrom : ByteArray := prog_12_method_46_code
def yX10_carriedFrom : MethodName := ⟨RX10, "carriedFrom", "(II)I"⟩
abbrev cX10_passes : ByteArray := prog_12_method_47_code
def yX10_passes : MethodName := ⟨RX10, "passes", "([I)V"⟩
abbrev cX10_copyNow : ByteArray := prog_12_method_48_code
def yX10_copyNow : MethodName := ⟨RX10, "copyNow", "()V"⟩
abbrev cX10_oneTells : ByteArray := prog_12_method_49_code
def yX10_oneTells : MethodName := ⟨RX10, "oneTells", "(II)I"⟩
abbrev cX10_one : ByteArray := prog_12_method_50_code
def yX10_one : MethodName := ⟨RX10, "one", "(II)I"⟩
abbrev cX10_silent : ByteArray := prog_12_method_51_code
def yX10_silent : MethodName := ⟨RX10, "silent", "(I)I"⟩
abbrev cX10_cellsOf : ByteArray := prog_12_method_52_code
def yX10_cellsOf : MethodName := ⟨RX10, "cellsOf", "(I)I"⟩
abbrev cX10_mark : ByteArray := prog_12_method_53_code
def yX10_mark : MethodName := ⟨RX10, "mark", "(II)I"⟩
abbrev cX10_gain : ByteArray := prog_12_method_54_code
def yX10_gain : MethodName := ⟨RX10, "gain", "(II)I"⟩
abbrev cX10_remember : ByteArray := prog_12_method_55_code
def yX10_remember : MethodName := ⟨RX10, "remember", "()V"⟩
abbrev cX10_year : ByteArray := prog_12_method_56_code
def yX10_year : MethodName := ⟨RX10, "year", "()I"⟩
abbrev cX10_push : ByteArray := prog_12_method_57_code
def yX10_push : MethodName := ⟨RX10, "push", "(I)I"⟩
abbrev cX10_house : ByteArray := prog_12_method_58_code
def yX10_house : MethodName := ⟨RX10, "house", "(II)I"⟩
abbrev cX10_undo : ByteArray := prog_12_method_59_code
def yX10_undo : MethodName := ⟨RX10, "undo", "(I)I"⟩
abbrev cX10_keep : ByteArray := prog_12_method_60_code
def yX10_keep : MethodName := ⟨RX10, "keep", "(I)I"⟩
abbrev cX10_on : ByteArray := prog_12_method_61_code
def yX10_on : MethodName := ⟨RX10, "on", "(I)I"⟩
abbrev cX10_need : ByteArray := prog_12_method_62_code
def yX10_need : MethodName := ⟨RX10, "need", "(Z)I"⟩
abbrev cX10_votes : ByteArray := prog_12_method_63_code
def yX10_votes : MethodName := ⟨RX10, "votes", "(I)I"⟩
abbrev cX10_carries : ByteArray := prog_12_method_64_code
def yX10_carries : MethodName := ⟨RX10, "carries", "()I"⟩
abbrev cX10_hearthsOf : ByteArray := prog_12_method_65_code
def yX10_hearthsOf : MethodName := ⟨RX10, "hearthsOf", "(I)I"⟩
abbrev cX10_buy : ByteArray := prog_12_method_66_code
def yX10_buy : MethodName := ⟨RX10, "buy", "(I)I"⟩
abbrev cX10_then : ByteArray := prog_12_method_67_code
def yX10_then : MethodName := ⟨RX10, "then", "(I)I"⟩
abbrev cX10_when : ByteArray := prog_12_method_68_code
def yX10_when : MethodName := ⟨RX10, "when", "(I)I"⟩
abbrev cX10_round : ByteArray := prog_12_method_69_code
def yX10_round : MethodName := ⟨RX10, "round", "()I"⟩
abbrev cX10_gainedBy : ByteArray := prog_12_method_70_code
def yX10_gainedBy : MethodName := ⟨RX10, "gainedBy", "(II)I"⟩
abbrev cX10_course : ByteArray := prog_12_method_71_code
def yX10_course : MethodName := ⟨RX10, "course", "(II)I"⟩
abbrev cX10_needPairs : ByteArray := prog_12_method_72_code
def yX10_needPairs : MethodName := ⟨RX10, "needPairs", "(IZZ)I"⟩
abbrev cX10_fitSet : ByteArray := prog_12_method_73_code
def yX10_fitSet : MethodName := ⟨RX10, "fitSet", "(I)I"⟩
abbrev cX10_fits : ByteArray := prog_12_method_74_code
def yX10_fits : MethodName := ⟨RX10, "fits", "(I)I"⟩
abbrev cX10_alike : ByteArray := prog_12_method_75_code
def yX10_alike : MethodName := ⟨RX10, "alike", "(II)I"⟩
abbrev cX10_next : ByteArray := prog_12_method_76_code
def yX10_next : MethodName := ⟨RX10, "next", "(I)I"⟩
abbrev cX10_kindSet : ByteArray := prog_12_method_77_code
def yX10_kindSet : MethodName := ⟨RX10, "kindSet", "(II)I"⟩
abbrev cX10_kinds : ByteArray := prog_12_method_78_code
def yX10_kinds : MethodName := ⟨RX10, "kinds", "(II)I"⟩
abbrev cX10_alikeKinds : ByteArray := prog_12_method_79_code
def yX10_alikeKinds : MethodName := ⟨RX10, "alikeKinds", "(III)I"⟩
abbrev cX10_test : ByteArray := prog_12_method_80_code
def yX10_test : MethodName := ⟨RX10, "test", "(II)I"⟩
abbrev cX10_laySteps : ByteArray := prog_12_method_81_code
def yX10_laySteps : MethodName := ⟨RX10, "laySteps", "(II)V"⟩
abbrev cX10_way : ByteArray := prog_12_method_82_code
def yX10_way : MethodName := ⟨RX10, "way", "(II)I"⟩
abbrev cX10_parts : ByteArray := prog_12_method_83_code
def yX10_parts : MethodName := ⟨RX10, "parts", "(II)I"⟩
abbrev cX10_duel : ByteArray := prog_12_method_84_code
def yX10_duel : MethodName := ⟨RX10, "duel", "(I)I"⟩
abbrev cX10_layParts : ByteArray := prog_12_method_85_code
def yX10_layParts : MethodName := ⟨RX10, "layParts", "(II)V"⟩
abbrev cX10_odds : ByteArray := prog_12_method_86_code
def yX10_odds : MethodName := ⟨RX10, "odds", "(II)I"⟩
abbrev cX10_mid : ByteArray := prog_12_method_87_code
def yX10_mid : MethodName := ⟨RX10, "mid", "(I)I"⟩
abbrev cX10_lots : ByteArray := prog_12_method_88_code
def yX10_lots : MethodName := ⟨RX10, "lots", "(II)I"⟩
abbrev cX10_counted : ByteArray := prog_12_method_89_code
def yX10_counted : MethodName := ⟨RX10, "counted", "(I)I"⟩
abbrev cX10_count : ByteArray := prog_12_method_90_code
def yX10_count : MethodName := ⟨RX10, "count", "(I)I"⟩
abbrev cX10_mix : ByteArray := prog_12_method_91_code
def yX10_mix : MethodName := ⟨RX10, "mix", "(J)V"⟩
abbrev cX10_mixLand : ByteArray := prog_12_method_92_code
def yX10_mixLand : MethodName := ⟨RX10, "mixLand", "()V"⟩
abbrev cX10_digest : ByteArray := prog_12_method_93_code
def yX10_digest : MethodName := ⟨RX10, "digest", "()J"⟩
def RJ6 : String := "java/lang/Integer"
def TJ6 : u_T := fun k => match k with
  | _ => ("", "", "", false)
def tyJ6 : Nat → FieldType := fun k => match k with
  | _ => .int
abbrev wsJ60 : List Cond := u_ws RJ6 TJ6 0
theorem nmJ6 : ∀ a, a < 0 → ∀ b, b < 0 → a ≠ b → (TJ6 a).2.1 ≠ (TJ6 b).2.1 := by decide +kernel
theorem tyJ6_ok : ∀ k, k < 0 → parseFieldDescriptor (TJ6 k).2.2.1 = some (tyJ6 k) := by decide +kernel
abbrev cJ6_bitCount_0f7a4 : ByteArray := prog_13_method_49_code
def yJ6_bitCount_0f7a4 : MethodName := ⟨RJ6, "bitCount", "(I)I"⟩
def RJ9 : String := "java/lang/Math"
def TJ9 : u_T := fun k => match k with
  | _ => ("", "", "", false)
def tyJ9 : Nat → FieldType := fun k => match k with
  | _ => .int
abbrev wsJ90 : List Cond := u_ws RJ9 TJ9 0
theorem nmJ9 : ∀ a, a < 0 → ∀ b, b < 0 → a ≠ b → (TJ9 a).2.1 ≠ (TJ9 b).2.1 := by decide +kernel
theorem tyJ9_ok : ∀ k, k < 0 → parseFieldDescriptor (TJ9 k).2.2.1 = some (tyJ9 k) := by decide +kernel
abbrev cJ9_abs_0f7a4 : ByteArray := prog_14_method_59_code
def yJ9_abs_0f7a4 : MethodName := ⟨RJ9, "abs", "(I)I"⟩
abbrev cJ9_max_7cf53 : ByteArray := prog_14_method_65_code
def yJ9_max_7cf53 : MethodName := ⟨RJ9, "max", "(II)I"⟩
abbrev cJ9_min_7cf53 : ByteArray := prog_14_method_69_code
def yJ9_min_7cf53 : MethodName := ⟨RJ9, "min", "(II)I"⟩
def RJ10 : String := "java/lang/System"
def TJ10 : u_T := fun k => match k with
  | _ => ("", "", "", false)
def tyJ10 : Nat → FieldType := fun k => match k with
  | _ => .int
abbrev wsJ100 : List Cond := u_ws RJ10 TJ10 0
theorem nmJ10 : ∀ a, a < 0 → ∀ b, b < 0 → a ≠ b → (TJ10 a).2.1 ≠ (TJ10 b).2.1 := by decide +kernel
theorem tyJ10_ok : ∀ k, k < 0 → parseFieldDescriptor (TJ10 k).2.2.1 = some (tyJ10 k) := by decide +kernel
def RL : String := "VotedHillLaw"
abbrev cL_law : ByteArray := code
def yL_law : MethodName := ⟨RL, "law", "([I)Z"⟩
abbrev vwCl : List vw_C := [(RX0, TX0, 2), (RX1, TX1, 4), (RX2, TX2, 2), (RX3, TX3, 15), (RX4, TX4, 2), (RX5, TX5, 3), (RX6, TX6, 2), (RX7, TX7, 2), (RX8, TX8, 4), (RX9, TX9, 15), (RX10, TX10, 38)]
