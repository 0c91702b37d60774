section
-- PART A of the skeleton, and the printed names of the claim (starting texts)
-- ===== PART A: goes FIRST, ahead of the names: the tables' words, and 'selects' of the private methods out of them =====
/-- a private method of a class that the tables say can be made, by its rows of tables_1 -/
def lw_okq (q : MethodName × Nat) : Prop := (q.1.cls ≠ "java/lang/invoke/MethodHandle" ∧ q.1.cls ≠ "java/lang/invoke/VarHandle") ∧ Cond.instantiable q.1.cls q.2 ∈ tables_1 ∧ Cond.privateMethod q.1 ∈ tables_1 ∧ Cond.instanceMethod q.1 ∈ tables_1
theorem lw_p0 : lw_okq (⟨"VotedHill", "refuse", "(I)I"⟩, 15) := ⟨⟨by decide +kernel, by decide +kernel⟩, List.mem_of_getElem? (i := 16) (by decide +kernel), List.mem_of_getElem? (i := 292) (by decide +kernel), List.mem_of_getElem? (i := 293) (by decide +kernel)⟩
theorem lw_p1 : lw_okq (⟨"VotedHill", "placeRefusal", "(LVotedHill$Strip;I)I"⟩, 15) := ⟨⟨by decide +kernel, by decide +kernel⟩, List.mem_of_getElem? (i := 16) (by decide +kernel), List.mem_of_getElem? (i := 307) (by decide +kernel), List.mem_of_getElem? (i := 308) (by decide +kernel)⟩
theorem lw_p2 : lw_okq (⟨"VotedHill$Reader", "readGround", "(LVotedHill$Land;)Z"⟩, 2) := ⟨⟨by decide +kernel, by decide +kernel⟩, List.mem_of_getElem? (i := 101) (by decide +kernel), List.mem_of_getElem? (i := 365) (by decide +kernel), List.mem_of_getElem? (i := 366) (by decide +kernel)⟩
theorem lw_p3 : lw_okq (⟨"VotedHill$Reader", "skipBlanks", "()V"⟩, 2) := ⟨⟨by decide +kernel, by decide +kernel⟩, List.mem_of_getElem? (i := 101) (by decide +kernel), List.mem_of_getElem? (i := 369) (by decide +kernel), List.mem_of_getElem? (i := 370) (by decide +kernel)⟩
theorem lw_p4 : lw_okq (⟨"VotedHill$Reader", "atEnd", "()Z"⟩, 2) := ⟨⟨by decide +kernel, by decide +kernel⟩, List.mem_of_getElem? (i := 101) (by decide +kernel), List.mem_of_getElem? (i := 373) (by decide +kernel), List.mem_of_getElem? (i := 374) (by decide +kernel)⟩
theorem lw_p5 : lw_okq (⟨"VotedHill$Reader", "sign", "()I"⟩, 2) := ⟨⟨by decide +kernel, by decide +kernel⟩, List.mem_of_getElem? (i := 101) (by decide +kernel), List.mem_of_getElem? (i := 377) (by decide +kernel), List.mem_of_getElem? (i := 378) (by decide +kernel)⟩
theorem lw_p6 : lw_okq (⟨"VotedHill$Reader", "figure", "(II)I"⟩, 2) := ⟨⟨by decide +kernel, by decide +kernel⟩, List.mem_of_getElem? (i := 101) (by decide +kernel), List.mem_of_getElem? (i := 381) (by decide +kernel), List.mem_of_getElem? (i := 382) (by decide +kernel)⟩
theorem lw_p7 : lw_okq (⟨"VotedHill$Reader", "readOne", "(LVotedHill$Land;)Z"⟩, 2) := ⟨⟨by decide +kernel, by decide +kernel⟩, List.mem_of_getElem? (i := 101) (by decide +kernel), List.mem_of_getElem? (i := 385) (by decide +kernel), List.mem_of_getElem? (i := 386) (by decide +kernel)⟩
theorem lw_p8 : lw_okq (⟨"VotedHill", "aboutOne", "(II)I"⟩, 15) := ⟨⟨by decide +kernel, by decide +kernel⟩, List.mem_of_getElem? (i := 16) (by decide +kernel), List.mem_of_getElem? (i := 416) (by decide +kernel), List.mem_of_getElem? (i := 417) (by decide +kernel)⟩
theorem lw_p9 : lw_okq (⟨"VotedHill", "abstainersBeside", "(I)I"⟩, 15) := ⟨⟨by decide +kernel, by decide +kernel⟩, List.mem_of_getElem? (i := 16) (by decide +kernel), List.mem_of_getElem? (i := 464) (by decide +kernel), List.mem_of_getElem? (i := 465) (by decide +kernel)⟩
theorem lw_p10 : lw_okq (⟨"VotedHill", "passYear", "()I"⟩, 15) := ⟨⟨by decide +kernel, by decide +kernel⟩, List.mem_of_getElem? (i := 16) (by decide +kernel), List.mem_of_getElem? (i := 498) (by decide +kernel), List.mem_of_getElem? (i := 499) (by decide +kernel)⟩
theorem lw_p11 : lw_okq (⟨"VotedHill$Land", "remember", "(I)Z"⟩, 15) := ⟨⟨by decide +kernel, by decide +kernel⟩, List.mem_of_getElem? (i := 26) (by decide +kernel), List.mem_of_getElem? (i := 519) (by decide +kernel), List.mem_of_getElem? (i := 520) (by decide +kernel)⟩
theorem lw_p12 : lw_okq (⟨"VotedHill$Plans", "weighCells", "(LVotedHill$Land;)V"⟩, 3) := ⟨⟨by decide +kernel, by decide +kernel⟩, List.mem_of_getElem? (i := 150) (by decide +kernel), List.mem_of_getElem? (i := 644) (by decide +kernel), List.mem_of_getElem? (i := 645) (by decide +kernel)⟩
theorem lw_p13 : lw_okq (⟨"VotedHill$Plans", "bestWay", "(LVotedHill$Land;III)I"⟩, 3) := ⟨⟨by decide +kernel, by decide +kernel⟩, List.mem_of_getElem? (i := 150) (by decide +kernel), List.mem_of_getElem? (i := 650) (by decide +kernel), List.mem_of_getElem? (i := 651) (by decide +kernel)⟩
theorem lw_p14 : lw_okq (⟨"VotedHill$Plans", "gainedBy", "(LVotedHill$Land;III)I"⟩, 3) := ⟨⟨by decide +kernel, by decide +kernel⟩, List.mem_of_getElem? (i := 150) (by decide +kernel), List.mem_of_getElem? (i := 654) (by decide +kernel), List.mem_of_getElem? (i := 655) (by decide +kernel)⟩
theorem lw_p15 : lw_okq (⟨"VotedHill", "cellPairsRefusal", "(I)I"⟩, 15) := ⟨⟨by decide +kernel, by decide +kernel⟩, List.mem_of_getElem? (i := 16) (by decide +kernel), List.mem_of_getElem? (i := 665) (by decide +kernel), List.mem_of_getElem? (i := 666) (by decide +kernel)⟩
def lw_privs_1 : List (MethodName × Nat) := [(⟨"VotedHill", "refuse", "(I)I"⟩, 15), (⟨"VotedHill", "placeRefusal", "(LVotedHill$Strip;I)I"⟩, 15), (⟨"VotedHill$Reader", "readGround", "(LVotedHill$Land;)Z"⟩, 2), (⟨"VotedHill$Reader", "skipBlanks", "()V"⟩, 2), (⟨"VotedHill$Reader", "atEnd", "()Z"⟩, 2), (⟨"VotedHill$Reader", "sign", "()I"⟩, 2), (⟨"VotedHill$Reader", "figure", "(II)I"⟩, 2), (⟨"VotedHill$Reader", "readOne", "(LVotedHill$Land;)Z"⟩, 2), (⟨"VotedHill", "aboutOne", "(II)I"⟩, 15), (⟨"VotedHill", "abstainersBeside", "(I)I"⟩, 15), (⟨"VotedHill", "passYear", "()I"⟩, 15), (⟨"VotedHill$Land", "remember", "(I)Z"⟩, 15), (⟨"VotedHill$Plans", "weighCells", "(LVotedHill$Land;)V"⟩, 3), (⟨"VotedHill$Plans", "bestWay", "(LVotedHill$Land;III)I"⟩, 3), (⟨"VotedHill$Plans", "gainedBy", "(LVotedHill$Land;III)I"⟩, 3), (⟨"VotedHill", "cellPairsRefusal", "(I)I"⟩, 15)]
theorem lw_r1 : ∀ q ∈ lw_privs_1, lw_okq q := List.forall_mem_cons.mpr ⟨lw_p0, List.forall_mem_cons.mpr ⟨lw_p1, List.forall_mem_cons.mpr ⟨lw_p2, List.forall_mem_cons.mpr ⟨lw_p3, List.forall_mem_cons.mpr ⟨lw_p4, List.forall_mem_cons.mpr ⟨lw_p5, List.forall_mem_cons.mpr ⟨lw_p6, List.forall_mem_cons.mpr ⟨lw_p7, List.forall_mem_cons.mpr ⟨lw_p8, List.forall_mem_cons.mpr ⟨lw_p9, List.forall_mem_cons.mpr ⟨lw_p10, List.forall_mem_cons.mpr ⟨lw_p11, List.forall_mem_cons.mpr ⟨lw_p12, List.forall_mem_cons.mpr ⟨lw_p13, List.forall_mem_cons.mpr ⟨lw_p14, List.forall_mem_cons.mpr ⟨lw_p15, fun _ h => absurd h List.not_mem_nil⟩⟩⟩⟩⟩⟩⟩⟩⟩⟩⟩⟩⟩⟩⟩⟩
theorem lw_p16 : lw_okq (⟨"VotedHill", "pairsRefusal", "(LVotedHill$Strip;I)I"⟩, 15) := ⟨⟨by decide +kernel, by decide +kernel⟩, List.mem_of_getElem? (i := 16) (by decide +kernel), List.mem_of_getElem? (i := 669) (by decide +kernel), List.mem_of_getElem? (i := 670) (by decide +kernel)⟩
theorem lw_p17 : lw_okq (⟨"VotedHill$Clues", "startTally", "()V"⟩, 2) := ⟨⟨by decide +kernel, by decide +kernel⟩, List.mem_of_getElem? (i := 168) (by decide +kernel), List.mem_of_getElem? (i := 693) (by decide +kernel), List.mem_of_getElem? (i := 694) (by decide +kernel)⟩
theorem lw_p18 : lw_okq (⟨"VotedHill$Clues", "addToTally", "(I)V"⟩, 2) := ⟨⟨by decide +kernel, by decide +kernel⟩, List.mem_of_getElem? (i := 168) (by decide +kernel), List.mem_of_getElem? (i := 697) (by decide +kernel), List.mem_of_getElem? (i := 698) (by decide +kernel)⟩
theorem lw_p19 : lw_okq (⟨"VotedHill$Clues", "takeIfLess", "(II)I"⟩, 2) := ⟨⟨by decide +kernel, by decide +kernel⟩, List.mem_of_getElem? (i := 168) (by decide +kernel), List.mem_of_getElem? (i := 701) (by decide +kernel), List.mem_of_getElem? (i := 702) (by decide +kernel)⟩
theorem lw_p20 : lw_okq (⟨"VotedHill", "kindPairsRefusal", "(II)I"⟩, 15) := ⟨⟨by decide +kernel, by decide +kernel⟩, List.mem_of_getElem? (i := 16) (by decide +kernel), List.mem_of_getElem? (i := 710) (by decide +kernel), List.mem_of_getElem? (i := 711) (by decide +kernel)⟩
theorem lw_p21 : lw_okq (⟨"VotedHill$Paths", "reachBeside", "(LVotedHill$Land;III)I"⟩, 2) := ⟨⟨by decide +kernel, by decide +kernel⟩, List.mem_of_getElem? (i := 182) (by decide +kernel), List.mem_of_getElem? (i := 737) (by decide +kernel), List.mem_of_getElem? (i := 738) (by decide +kernel)⟩
theorem lw_p22 : lw_okq (⟨"VotedHill$Plans", "wanted", "(LVotedHill$Land;II)I"⟩, 3) := ⟨⟨by decide +kernel, by decide +kernel⟩, List.mem_of_getElem? (i := 150) (by decide +kernel), List.mem_of_getElem? (i := 758) (by decide +kernel), List.mem_of_getElem? (i := 759) (by decide +kernel)⟩
theorem lw_p23 : lw_okq (⟨"VotedHill", "keptLands", "()I"⟩, 15) := ⟨⟨by decide +kernel, by decide +kernel⟩, List.mem_of_getElem? (i := 16) (by decide +kernel), List.mem_of_getElem? (i := 820) (by decide +kernel), List.mem_of_getElem? (i := 821) (by decide +kernel)⟩
theorem lw_p24 : lw_okq (⟨"VotedHillModel", "meets", "(I)I"⟩, 38) := ⟨⟨by decide +kernel, by decide +kernel⟩, List.mem_of_getElem? (i := 844) (by decide +kernel), List.mem_of_getElem? (i := 997) (by decide +kernel), List.mem_of_getElem? (i := 998) (by decide +kernel)⟩
theorem lw_p25 : lw_okq (⟨"VotedHillModel", "rowAt", "(II)I"⟩, 38) := ⟨⟨by decide +kernel, by decide +kernel⟩, List.mem_of_getElem? (i := 844) (by decide +kernel), List.mem_of_getElem? (i := 1005) (by decide +kernel), List.mem_of_getElem? (i := 1006) (by decide +kernel)⟩
theorem lw_p26 : lw_okq (⟨"VotedHillModel", "tells", "(II)I"⟩, 38) := ⟨⟨by decide +kernel, by decide +kernel⟩, List.mem_of_getElem? (i := 844) (by decide +kernel), List.mem_of_getElem? (i := 1009) (by decide +kernel), List.mem_of_getElem? (i := 1010) (by decide +kernel)⟩
theorem lw_p27 : lw_okq (⟨"VotedHillModel", "faultOf", "(I)I"⟩, 38) := ⟨⟨by decide +kernel, by decide +kernel⟩, List.mem_of_getElem? (i := 844) (by decide +kernel), List.mem_of_getElem? (i := 1044) (by decide +kernel), List.mem_of_getElem? (i := 1045) (by decide +kernel)⟩
theorem lw_p28 : lw_okq (⟨"VotedHillModel", "byteAt", "(II)I"⟩, 38) := ⟨⟨by decide +kernel, by decide +kernel⟩, List.mem_of_getElem? (i := 844) (by decide +kernel), List.mem_of_getElem? (i := 1048) (by decide +kernel), List.mem_of_getElem? (i := 1049) (by decide +kernel)⟩
theorem lw_p29 : lw_okq (⟨"VotedHillModel", "readsOne", "(I)Z"⟩, 38) := ⟨⟨by decide +kernel, by decide +kernel⟩, List.mem_of_getElem? (i := 844) (by decide +kernel), List.mem_of_getElem? (i := 1052) (by decide +kernel), List.mem_of_getElem? (i := 1053) (by decide +kernel)⟩
theorem lw_p30 : lw_okq (⟨"VotedHillModel", "figure", "(III)I"⟩, 38) := ⟨⟨by decide +kernel, by decide +kernel⟩, List.mem_of_getElem? (i := 844) (by decide +kernel), List.mem_of_getElem? (i := 1059) (by decide +kernel), List.mem_of_getElem? (i := 1060) (by decide +kernel)⟩
theorem lw_p31 : lw_okq (⟨"VotedHillModel", "readsHead", "(I)Z"⟩, 38) := ⟨⟨by decide +kernel, by decide +kernel⟩, List.mem_of_getElem? (i := 844) (by decide +kernel), List.mem_of_getElem? (i := 1063) (by decide +kernel), List.mem_of_getElem? (i := 1064) (by decide +kernel)⟩
def lw_privs_2 : List (MethodName × Nat) := [(⟨"VotedHill", "pairsRefusal", "(LVotedHill$Strip;I)I"⟩, 15), (⟨"VotedHill$Clues", "startTally", "()V"⟩, 2), (⟨"VotedHill$Clues", "addToTally", "(I)V"⟩, 2), (⟨"VotedHill$Clues", "takeIfLess", "(II)I"⟩, 2), (⟨"VotedHill", "kindPairsRefusal", "(II)I"⟩, 15), (⟨"VotedHill$Paths", "reachBeside", "(LVotedHill$Land;III)I"⟩, 2), (⟨"VotedHill$Plans", "wanted", "(LVotedHill$Land;II)I"⟩, 3), (⟨"VotedHill", "keptLands", "()I"⟩, 15), (⟨"VotedHillModel", "meets", "(I)I"⟩, 38), (⟨"VotedHillModel", "rowAt", "(II)I"⟩, 38), (⟨"VotedHillModel", "tells", "(II)I"⟩, 38), (⟨"VotedHillModel", "faultOf", "(I)I"⟩, 38), (⟨"VotedHillModel", "byteAt", "(II)I"⟩, 38), (⟨"VotedHillModel", "readsOne", "(I)Z"⟩, 38), (⟨"VotedHillModel", "figure", "(III)I"⟩, 38), (⟨"VotedHillModel", "readsHead", "(I)Z"⟩, 38)]
theorem lw_r2 : ∀ q ∈ lw_privs_2, lw_okq q := List.forall_mem_cons.mpr ⟨lw_p16, List.forall_mem_cons.mpr ⟨lw_p17, List.forall_mem_cons.mpr ⟨lw_p18, List.forall_mem_cons.mpr ⟨lw_p19, List.forall_mem_cons.mpr ⟨lw_p20, List.forall_mem_cons.mpr ⟨lw_p21, List.forall_mem_cons.mpr ⟨lw_p22, List.forall_mem_cons.mpr ⟨lw_p23, List.forall_mem_cons.mpr ⟨lw_p24, List.forall_mem_cons.mpr ⟨lw_p25, List.forall_mem_cons.mpr ⟨lw_p26, List.forall_mem_cons.mpr ⟨lw_p27, List.forall_mem_cons.mpr ⟨lw_p28, List.forall_mem_cons.mpr ⟨lw_p29, List.forall_mem_cons.mpr ⟨lw_p30, List.forall_mem_cons.mpr ⟨lw_p31, fun _ h => absurd h List.not_mem_nil⟩⟩⟩⟩⟩⟩⟩⟩⟩⟩⟩⟩⟩⟩⟩⟩
theorem lw_p32 : lw_okq (⟨"VotedHillModel", "isOne", "(I)Z"⟩, 38) := ⟨⟨by decide +kernel, by decide +kernel⟩, List.mem_of_getElem? (i := 844) (by decide +kernel), List.mem_of_getElem? (i := 1075) (by decide +kernel), List.mem_of_getElem? (i := 1076) (by decide +kernel)⟩
theorem lw_p33 : lw_okq (⟨"VotedHillModel", "oneTells", "(II)I"⟩, 38) := ⟨⟨by decide +kernel, by decide +kernel⟩, List.mem_of_getElem? (i := 844) (by decide +kernel), List.mem_of_getElem? (i := 1079) (by decide +kernel), List.mem_of_getElem? (i := 1080) (by decide +kernel)⟩
theorem lw_p34 : lw_okq (⟨"VotedHillModel", "gainOn", "(II)I"⟩, 38) := ⟨⟨by decide +kernel, by decide +kernel⟩, List.mem_of_getElem? (i := 844) (by decide +kernel), List.mem_of_getElem? (i := 1083) (by decide +kernel), List.mem_of_getElem? (i := 1084) (by decide +kernel)⟩
theorem lw_p35 : lw_okq (⟨"VotedHillModel", "gainBy", "(III)I"⟩, 38) := ⟨⟨by decide +kernel, by decide +kernel⟩, List.mem_of_getElem? (i := 844) (by decide +kernel), List.mem_of_getElem? (i := 1087) (by decide +kernel), List.mem_of_getElem? (i := 1088) (by decide +kernel)⟩
theorem lw_p36 : lw_okq (⟨"VotedHillModel", "far", "(II)I"⟩, 38) := ⟨⟨by decide +kernel, by decide +kernel⟩, List.mem_of_getElem? (i := 844) (by decide +kernel), List.mem_of_getElem? (i := 1091) (by decide +kernel), List.mem_of_getElem? (i := 1092) (by decide +kernel)⟩
theorem lw_p37 : lw_okq (⟨"VotedHillModel", "voteOn", "(III)I"⟩, 38) := ⟨⟨by decide +kernel, by decide +kernel⟩, List.mem_of_getElem? (i := 844) (by decide +kernel), List.mem_of_getElem? (i := 1098) (by decide +kernel), List.mem_of_getElem? (i := 1099) (by decide +kernel)⟩
theorem lw_p38 : lw_okq (⟨"VotedHillModel", "canBe", "(III)Z"⟩, 38) := ⟨⟨by decide +kernel, by decide +kernel⟩, List.mem_of_getElem? (i := 844) (by decide +kernel), List.mem_of_getElem? (i := 1102) (by decide +kernel), List.mem_of_getElem? (i := 1103) (by decide +kernel)⟩
theorem lw_p39 : lw_okq (⟨"VotedHillModel", "beside", "(II)I"⟩, 38) := ⟨⟨by decide +kernel, by decide +kernel⟩, List.mem_of_getElem? (i := 844) (by decide +kernel), List.mem_of_getElem? (i := 1106) (by decide +kernel), List.mem_of_getElem? (i := 1107) (by decide +kernel)⟩
theorem lw_p40 : lw_okq (⟨"VotedHillModel", "silent", "(I)I"⟩, 38) := ⟨⟨by decide +kernel, by decide +kernel⟩, List.mem_of_getElem? (i := 844) (by decide +kernel), List.mem_of_getElem? (i := 1114) (by decide +kernel), List.mem_of_getElem? (i := 1115) (by decide +kernel)⟩
theorem lw_p41 : lw_okq (⟨"VotedHillModel", "cellsOf", "(I)I"⟩, 38) := ⟨⟨by decide +kernel, by decide +kernel⟩, List.mem_of_getElem? (i := 844) (by decide +kernel), List.mem_of_getElem? (i := 1118) (by decide +kernel), List.mem_of_getElem? (i := 1119) (by decide +kernel)⟩
theorem lw_p42 : lw_okq (⟨"VotedHillModel", "isCell", "(I)Z"⟩, 38) := ⟨⟨by decide +kernel, by decide +kernel⟩, List.mem_of_getElem? (i := 844) (by decide +kernel), List.mem_of_getElem? (i := 1126) (by decide +kernel), List.mem_of_getElem? (i := 1127) (by decide +kernel)⟩
theorem lw_p43 : lw_okq (⟨"VotedHillModel", "remember", "()V"⟩, 38) := ⟨⟨by decide +kernel, by decide +kernel⟩, List.mem_of_getElem? (i := 844) (by decide +kernel), List.mem_of_getElem? (i := 1134) (by decide +kernel), List.mem_of_getElem? (i := 1135) (by decide +kernel)⟩
theorem lw_p44 : lw_okq (⟨"VotedHillModel", "carriedFrom", "(II)I"⟩, 38) := ⟨⟨by decide +kernel, by decide +kernel⟩, List.mem_of_getElem? (i := 844) (by decide +kernel), List.mem_of_getElem? (i := 1138) (by decide +kernel), List.mem_of_getElem? (i := 1139) (by decide +kernel)⟩
theorem lw_p45 : lw_okq (⟨"VotedHillModel", "everybody", "()I"⟩, 38) := ⟨⟨by decide +kernel, by decide +kernel⟩, List.mem_of_getElem? (i := 844) (by decide +kernel), List.mem_of_getElem? (i := 1142) (by decide +kernel), List.mem_of_getElem? (i := 1143) (by decide +kernel)⟩
theorem lw_p46 : lw_okq (⟨"VotedHillModel", "layCounts", "(IIIII)V"⟩, 38) := ⟨⟨by decide +kernel, by decide +kernel⟩, List.mem_of_getElem? (i := 844) (by decide +kernel), List.mem_of_getElem? (i := 1146) (by decide +kernel), List.mem_of_getElem? (i := 1147) (by decide +kernel)⟩
theorem lw_p47 : lw_okq (⟨"VotedHillModel", "carried", "()I"⟩, 38) := ⟨⟨by decide +kernel, by decide +kernel⟩, List.mem_of_getElem? (i := 844) (by decide +kernel), List.mem_of_getElem? (i := 1153) (by decide +kernel), List.mem_of_getElem? (i := 1154) (by decide +kernel)⟩
def lw_privs_3 : List (MethodName × Nat) := [(⟨"VotedHillModel", "isOne", "(I)Z"⟩, 38), (⟨"VotedHillModel", "oneTells", "(II)I"⟩, 38), (⟨"VotedHillModel", "gainOn", "(II)I"⟩, 38), (⟨"VotedHillModel", "gainBy", "(III)I"⟩, 38), (⟨"VotedHillModel", "far", "(II)I"⟩, 38), (⟨"VotedHillModel", "voteOn", "(III)I"⟩, 38), (⟨"VotedHillModel", "canBe", "(III)Z"⟩, 38), (⟨"VotedHillModel", "beside", "(II)I"⟩, 38), (⟨"VotedHillModel", "silent", "(I)I"⟩, 38), (⟨"VotedHillModel", "cellsOf", "(I)I"⟩, 38), (⟨"VotedHillModel", "isCell", "(I)Z"⟩, 38), (⟨"VotedHillModel", "remember", "()V"⟩, 38), (⟨"VotedHillModel", "carriedFrom", "(II)I"⟩, 38), (⟨"VotedHillModel", "everybody", "()I"⟩, 38), (⟨"VotedHillModel", "layCounts", "(IIIII)V"⟩, 38), (⟨"VotedHillModel", "carried", "()I"⟩, 38)]
theorem lw_r3 : ∀ q ∈ lw_privs_3, lw_okq q := List.forall_mem_cons.mpr ⟨lw_p32, List.forall_mem_cons.mpr ⟨lw_p33, List.forall_mem_cons.mpr ⟨lw_p34, List.forall_mem_cons.mpr ⟨lw_p35, List.forall_mem_cons.mpr ⟨lw_p36, List.forall_mem_cons.mpr ⟨lw_p37, List.forall_mem_cons.mpr ⟨lw_p38, List.forall_mem_cons.mpr ⟨lw_p39, List.forall_mem_cons.mpr ⟨lw_p40, List.forall_mem_cons.mpr ⟨lw_p41, List.forall_mem_cons.mpr ⟨lw_p42, List.forall_mem_cons.mpr ⟨lw_p43, List.forall_mem_cons.mpr ⟨lw_p44, List.forall_mem_cons.mpr ⟨lw_p45, List.forall_mem_cons.mpr ⟨lw_p46, List.forall_mem_cons.mpr ⟨lw_p47, fun _ h => absurd h List.not_mem_nil⟩⟩⟩⟩⟩⟩⟩⟩⟩⟩⟩⟩⟩⟩⟩⟩
theorem lw_p48 : lw_okq (⟨"VotedHillModel", "passes", "([I)V"⟩, 38) := ⟨⟨by decide +kernel, by decide +kernel⟩, List.mem_of_getElem? (i := 844) (by decide +kernel), List.mem_of_getElem? (i := 1157) (by decide +kernel), List.mem_of_getElem? (i := 1158) (by decide +kernel)⟩
theorem lw_p49 : lw_okq (⟨"VotedHillModel", "need", "(Z)I"⟩, 38) := ⟨⟨by decide +kernel, by decide +kernel⟩, List.mem_of_getElem? (i := 844) (by decide +kernel), List.mem_of_getElem? (i := 1188) (by decide +kernel), List.mem_of_getElem? (i := 1189) (by decide +kernel)⟩
theorem lw_p50 : lw_okq (⟨"VotedHillModel", "hearthsOf", "(I)I"⟩, 38) := ⟨⟨by decide +kernel, by decide +kernel⟩, List.mem_of_getElem? (i := 844) (by decide +kernel), List.mem_of_getElem? (i := 1200) (by decide +kernel), List.mem_of_getElem? (i := 1201) (by decide +kernel)⟩
theorem lw_p51 : lw_okq (⟨"VotedHillModel", "copyNow", "()V"⟩, 38) := ⟨⟨by decide +kernel, by decide +kernel⟩, List.mem_of_getElem? (i := 844) (by decide +kernel), List.mem_of_getElem? (i := 1208) (by decide +kernel), List.mem_of_getElem? (i := 1209) (by decide +kernel)⟩
theorem lw_p52 : lw_okq (⟨"VotedHillModel", "all", "(I)I"⟩, 38) := ⟨⟨by decide +kernel, by decide +kernel⟩, List.mem_of_getElem? (i := 844) (by decide +kernel), List.mem_of_getElem? (i := 1212) (by decide +kernel), List.mem_of_getElem? (i := 1213) (by decide +kernel)⟩
theorem lw_p53 : lw_okq (⟨"VotedHillModel", "gainedBy", "(II)I"⟩, 38) := ⟨⟨by decide +kernel, by decide +kernel⟩, List.mem_of_getElem? (i := 844) (by decide +kernel), List.mem_of_getElem? (i := 1228) (by decide +kernel), List.mem_of_getElem? (i := 1229) (by decide +kernel)⟩
theorem lw_p54 : lw_okq (⟨"VotedHillModel", "needPairs", "(IZZ)I"⟩, 38) := ⟨⟨by decide +kernel, by decide +kernel⟩, List.mem_of_getElem? (i := 844) (by decide +kernel), List.mem_of_getElem? (i := 1236) (by decide +kernel), List.mem_of_getElem? (i := 1237) (by decide +kernel)⟩
theorem lw_p55 : lw_okq (⟨"VotedHillModel", "fitSet", "(I)I"⟩, 38) := ⟨⟨by decide +kernel, by decide +kernel⟩, List.mem_of_getElem? (i := 844) (by decide +kernel), List.mem_of_getElem? (i := 1240) (by decide +kernel), List.mem_of_getElem? (i := 1241) (by decide +kernel)⟩
theorem lw_p56 : lw_okq (⟨"VotedHillModel", "alike", "(II)I"⟩, 38) := ⟨⟨by decide +kernel, by decide +kernel⟩, List.mem_of_getElem? (i := 844) (by decide +kernel), List.mem_of_getElem? (i := 1252) (by decide +kernel), List.mem_of_getElem? (i := 1253) (by decide +kernel)⟩
theorem lw_p57 : lw_okq (⟨"VotedHillModel", "kindSet", "(II)I"⟩, 38) := ⟨⟨by decide +kernel, by decide +kernel⟩, List.mem_of_getElem? (i := 844) (by decide +kernel), List.mem_of_getElem? (i := 1260) (by decide +kernel), List.mem_of_getElem? (i := 1261) (by decide +kernel)⟩
theorem lw_p58 : lw_okq (⟨"VotedHillModel", "alikeKinds", "(III)I"⟩, 38) := ⟨⟨by decide +kernel, by decide +kernel⟩, List.mem_of_getElem? (i := 844) (by decide +kernel), List.mem_of_getElem? (i := 1268) (by decide +kernel), List.mem_of_getElem? (i := 1269) (by decide +kernel)⟩
theorem lw_p59 : lw_okq (⟨"VotedHillModel", "laySteps", "(II)V"⟩, 38) := ⟨⟨by decide +kernel, by decide +kernel⟩, List.mem_of_getElem? (i := 844) (by decide +kernel), List.mem_of_getElem? (i := 1276) (by decide +kernel), List.mem_of_getElem? (i := 1277) (by decide +kernel)⟩
theorem lw_p60 : lw_okq (⟨"VotedHillModel", "layParts", "(II)V"⟩, 38) := ⟨⟨by decide +kernel, by decide +kernel⟩, List.mem_of_getElem? (i := 844) (by decide +kernel), List.mem_of_getElem? (i := 1292) (by decide +kernel), List.mem_of_getElem? (i := 1293) (by decide +kernel)⟩
theorem lw_p61 : lw_okq (⟨"VotedHillModel", "fraction", "(JJ)I"⟩, 38) := ⟨⟨by decide +kernel, by decide +kernel⟩, List.mem_of_getElem? (i := 844) (by decide +kernel), List.mem_of_getElem? (i := 1297) (by decide +kernel), List.mem_of_getElem? (i := 1298) (by decide +kernel)⟩
theorem lw_p62 : lw_okq (⟨"VotedHillModel", "counted", "(I)I"⟩, 38) := ⟨⟨by decide +kernel, by decide +kernel⟩, List.mem_of_getElem? (i := 844) (by decide +kernel), List.mem_of_getElem? (i := 1319) (by decide +kernel), List.mem_of_getElem? (i := 1320) (by decide +kernel)⟩
theorem lw_p63 : lw_okq (⟨"VotedHillModel", "mix", "(J)V"⟩, 38) := ⟨⟨by decide +kernel, by decide +kernel⟩, List.mem_of_getElem? (i := 844) (by decide +kernel), List.mem_of_getElem? (i := 1328) (by decide +kernel), List.mem_of_getElem? (i := 1329) (by decide +kernel)⟩
def lw_privs_4 : List (MethodName × Nat) := [(⟨"VotedHillModel", "passes", "([I)V"⟩, 38), (⟨"VotedHillModel", "need", "(Z)I"⟩, 38), (⟨"VotedHillModel", "hearthsOf", "(I)I"⟩, 38), (⟨"VotedHillModel", "copyNow", "()V"⟩, 38), (⟨"VotedHillModel", "all", "(I)I"⟩, 38), (⟨"VotedHillModel", "gainedBy", "(II)I"⟩, 38), (⟨"VotedHillModel", "needPairs", "(IZZ)I"⟩, 38), (⟨"VotedHillModel", "fitSet", "(I)I"⟩, 38), (⟨"VotedHillModel", "alike", "(II)I"⟩, 38), (⟨"VotedHillModel", "kindSet", "(II)I"⟩, 38), (⟨"VotedHillModel", "alikeKinds", "(III)I"⟩, 38), (⟨"VotedHillModel", "laySteps", "(II)V"⟩, 38), (⟨"VotedHillModel", "layParts", "(II)V"⟩, 38), (⟨"VotedHillModel", "fraction", "(JJ)I"⟩, 38), (⟨"VotedHillModel", "counted", "(I)I"⟩, 38), (⟨"VotedHillModel", "mix", "(J)V"⟩, 38)]
theorem lw_r4 : ∀ q ∈ lw_privs_4, lw_okq q := List.forall_mem_cons.mpr ⟨lw_p48, List.forall_mem_cons.mpr ⟨lw_p49, List.forall_mem_cons.mpr ⟨lw_p50, List.forall_mem_cons.mpr ⟨lw_p51, List.forall_mem_cons.mpr ⟨lw_p52, List.forall_mem_cons.mpr ⟨lw_p53, List.forall_mem_cons.mpr ⟨lw_p54, List.forall_mem_cons.mpr ⟨lw_p55, List.forall_mem_cons.mpr ⟨lw_p56, List.forall_mem_cons.mpr ⟨lw_p57, List.forall_mem_cons.mpr ⟨lw_p58, List.forall_mem_cons.mpr ⟨lw_p59, List.forall_mem_cons.mpr ⟨lw_p60, List.forall_mem_cons.mpr ⟨lw_p61, List.forall_mem_cons.mpr ⟨lw_p62, List.forall_mem_cons.mpr ⟨lw_p63, fun _ h => absurd h List.not_mem_nil⟩⟩⟩⟩⟩⟩⟩⟩⟩⟩⟩⟩⟩⟩⟩⟩
theorem lw_p64 : lw_okq (⟨"VotedHillModel", "mixLand", "()V"⟩, 38) := ⟨⟨by decide +kernel, by decide +kernel⟩, List.mem_of_getElem? (i := 844) (by decide +kernel), List.mem_of_getElem? (i := 1333) (by decide +kernel), List.mem_of_getElem? (i := 1334) (by decide +kernel)⟩
def lw_privs_5 : List (MethodName × Nat) := [(⟨"VotedHillModel", "mixLand", "()V"⟩, 38)]
theorem lw_r5 : ∀ q ∈ lw_privs_5, lw_okq q := List.forall_mem_cons.mpr ⟨lw_p64, fun _ h => absurd h List.not_mem_nil⟩
def lw_privs : List (MethodName × Nat) := lw_privs_1 ++ (lw_privs_2 ++ (lw_privs_3 ++ (lw_privs_4 ++ (lw_privs_5))))
def lw_tbl : List Cond := k2_sels lw_privs ++ tables_1
theorem lw_privs_ok : ∀ q ∈ lw_privs, lw_okq q := by
  show ∀ q ∈ lw_privs_1 ++ (lw_privs_2 ++ (lw_privs_3 ++ (lw_privs_4 ++ (lw_privs_5)))), lw_okq q
  exact List.forall_mem_append.mpr ⟨lw_r1, List.forall_mem_append.mpr ⟨lw_r2, List.forall_mem_append.mpr ⟨lw_r3, List.forall_mem_append.mpr ⟨lw_r4, lw_r5⟩⟩⟩⟩
/-! ===== BEGIN words of one list among another's, by their places ===== -/
theorem goodIn_r {big : List Cond} (ws : List Cond) (ps : List Nat) (hp : ws = ps.filterMap (fun i => big[i]?)) (h : ws.all goodWord = true) : GoodIn big ws := by
  intro w hw
  have h1 := List.all_eq_true.mp h w hw
  rw [hp] at hw
  obtain ⟨i, -, hi⟩ := List.mem_filterMap.mp hw
  have hm : w ∈ big := by first | exact List.mem_of_getElem? hi | exact List.getElem?_mem hi
  exact ⟨hm, good_of_word h1⟩
theorem goodIn_app {big a b : List Cond} (ha : GoodIn big a) (hb : GoodIn big b) : GoodIn big (a ++ b) := fun w h => (List.mem_append.mp h).elim (ha w) (hb w)
theorem goodIn_ca {big a b : List Cond} {c : Cond} (ha : GoodIn big (c :: a)) (hb : GoodIn big b) : GoodIn big (c :: (a ++ b)) := fun w h => (List.mem_cons.mp h).elim (fun e => ha w (List.mem_cons.mpr (Or.inl e))) (fun h => (List.mem_append.mp h).elim (fun h => ha w (List.mem_cons.mpr (Or.inr h))) (hb w))
theorem goodIn_sub {big ws : List Cond} (hm : ∀ w ∈ ws, w ∈ big) (h : ws.all goodWord = true) : GoodIn big ws := fun w hw => ⟨hm w hw, good_of_word (List.all_eq_true.mp h w hw)⟩
/-! ===== END ===== -/

/-! ===== BEGIN new T[n][m]: the outer array a place, the inner ones among the pooled ===== -/
/-- f, but v at every address of l -/
def vr_up {α : Type} (f : Nat → α) (l : List Nat) (v : α) : Nat → α := fun a => if a ∈ l then v else f a
theorem vr_up_in {α : Type} {f : Nat → α} {l : List Nat} {v : α} {a : Nat} (h : a ∈ l) : vr_up f l v a = v := if_pos h
theorem vr_up_ne {α : Type} {f : Nat → α} {l : List Nat} {v : α} {a : Nat} (h : a ∉ l) : vr_up f l v a = f a := if_neg h
theorem vr_rows {L l : List Nat} {f : Nat → va_E} {e : va_E} (h : ∀ a, a ∈ l → a ∉ L) : va_pl L f ++ l.map (fun a => (a, e)) = va_pl (L ++ l) (vr_up f l e) := by
  unfold va_pl
  rw [List.map_append]
  congr 1
  · apply List.map_congr_left
    intro a ha
    rw [vr_up_ne (fun q => h a q ha)]
  · apply List.map_congr_left
    intro a ha
    rw [vr_up_in ha]
theorem vr_lay {X rows : va_W} {x : Nat × va_E} {pl : va_W} {D : va_G} {cl : List vw_C} {H : Heap} (hP : va_P D cl (((X ++ pl) ++ [x]) ++ rows) H) : va_P D cl ((X ++ [x]) ++ (pl ++ rows)) H := by
  rw [List.append_assoc (X ++ pl)] at hP
  have h := va_P.swap hP
  rw [← List.append_assoc X] at h
  have h2 := va_P.swap h
  rw [List.append_assoc (X ++ [x])] at h2
  exact h2
theorem vr_layD {X rows : va_W} {x : Nat × va_E} {pl : va_W} {A : Nat → Prop} (hD : va_D A (((X ++ pl) ++ [x]) ++ rows)) : va_D A ((X ++ [x]) ++ (pl ++ rows)) := by
  rw [List.append_assoc (X ++ pl)] at hD
  have h := va_D.swap hD
  rw [← List.append_assoc X] at h
  have h2 := va_D.swap h
  rw [List.append_assoc (X ++ [x])] at h2
  exact h2
theorem vr_outer (c : ClassId) (N h0 : Nat) : ∀ i : Nat, Jvm.Free.Multi.outerC c N h0 i = arrV c N (fun j => va_rf (if j < i then some (h0 + 1 + j) else none))
  | 0 => by
    show ({ cls := c, slots := Array.replicate N .null, vm := .none } : Cell) = _
    rw [arrV_new]
    refine congrArg (arrV c N) (funext fun j => ?_)
    simp [va_rf]
  | i + 1 => by
    show (Jvm.Free.Multi.outerC c N h0 i).setSlot i (.ref (h0 + 1 + i)) = _
    rw [vr_outer c N h0 i, arrV_store]
    refine congrArg (arrV c N) (funext fun j => ?_)
    by_cases e : j = i
    · subst e
      simp [updV, va_rf]
    · by_cases h : j < i
      · simp [updV, e, h, Nat.lt_succ_of_lt h]
      · simp [updV, e, h, show ¬ j < i + 1 by omega]
section VGM
variable {p : Program} {l : Launch} {e : Env} {R : Room} {s : State} {m : MethodId} {args : Array Value} {below : List Frame} {meth : Method} {c : Code} {H : Heap} {locs : List Loc} {cells slots : Nat} {Q : State → Prop}
variable {cc : ByteArray} {pc : Nat} {ls : Array Slot} {rest : List Value} {D : va_G} {cl : List vw_C} {A : Nat → Prop} {a : Nat} {tys : List (ClassId × FieldType)} {ws : va_W} {H0 : Heap}
theorem va_mna {X : va_W} {L : List Nat} {f : Nat → va_E} {cc : ByteArray} (hexec : p.tables.exec = Jvm.exec) (hb : c.code = cc) {own : String} {index : Nat} {ty : FieldType} {cy : ClassId} (hown : s.vm.findClass own = some m.cls) (hclink : (Cond.classLink own index ("[" ++ (FieldType.array ty).toString)).before args s = true) (hover : va_AOA ty s) (harr : (Cond.arrayClass ty).before args s = true) (hcy : s.vm.findClass (FieldType.array ty).toString = some cy)
    (hK : va_K D cl tys s) (hP : va_P D cl (X ++ va_pl L f) H) (hD : va_D A (X ++ va_pl L f)) (hS : va_S A H0 H locs) (hA : ∀ q, H0.size ≤ q → A q) {n k : Int32} {N' K' : Nat} {z : vp_A} (hn : ¬ n < 0) (hk : ¬ k < 0) (hN : n.toNatClampNeg = N') (hM : k.toNatClampNeg = K')
    (hb1 : N' * 4 ≤ 536870912) (hb2 : K' * componentBytes ty ≤ 536870912) (hb3 : K' ≤ 536870912) (hdf : fits ty (defaultValue ty) = true) (hdd : (defaultValue ty).isDefault = true) (hcells : cells + (1 + N') ≤ R.cells) (hslots : slots + (N' + N' * K') ≤ R.slots) (hz : ∀ c : ClassId, Jvm.Free.Multi.innerC c K' (defaultValue ty) = vp_cell c z) (hdg : decode cc pc = .ok (.multianewarray index 2, 4))
    (kk : ∀ (q : Nat) (r : Nat → Nat) (cA : ClassId) (H1 : Heap), (∀ i j : Nat, i < N' → j < N' → r i = r j → i = j) → (∀ i : Nat, i < N' → r i ∉ L) → va_K D cl (tys ++ [(cA, .array ty)]) s →
      va_P D cl ((X ++ [(q, .inl (cA, N', .inr (.inr (.inr (.inr (fun i => if i < N' then some (r i) else none))))))]) ++ va_pl (L ++ (List.range N').map r) (vr_up f ((List.range N').map r) (.inl (cy, z)))) H1 → va_D A ((X ++ [(q, .inl (cA, N', .inr (.inr (.inr (.inr (fun i => if i < N' then some (r i) else none))))))]) ++ va_pl (L ++ (List.range N').map r) (vr_up f ((List.range N').map r) (.inl (cy, z)))) → va_S A H0 H1 locs →
      W p l e R s m args below meth c H1 locs (cells + 1 + N') (slots + N' + N' * K') Q (F0 m (pc + 4) ls (.ref q :: rest))) : W p l e R s m args below meth c H locs cells slots Q (F0 m pc ls (.int k :: .int n :: rest)) := by
  subst hN
  subst hM
  intro T hT Xs
  obtain ⟨vm₁, cA, comp, -, fA, fC, hO, -, X', step⟩ := Xs.multianewarray2F hexec hown hclink (va_AOA.use hover) harr (g := F0 m pc ls (.int k :: .int n :: rest)) rfl (by rw [hb]; exact hdg) rfl hn hk hb1 hb2 hb3 hdf hdd hcells hslots
  have ec : some cy = some comp := hcy.symm.trans fC
  cases ec
  generalize hF : Jvm.Free.Multi.fill (T.setVm vm₁) cA cy n.toNatClampNeg k.toNatClampNeg (defaultValue ty) n.toNatClampNeg = F at X' step
  have hTh : (T.setVm vm₁).heap = H := hT
  obtain ⟨f1, f2, -, -⟩ := Jvm.Free.Multi.fill_facts (T.setVm vm₁) cA cy n.toNatClampNeg k.toNatClampNeg (defaultValue ty) n.toNatClampNeg
  rw [hF, hTh] at f1 f2
  have hold : ∀ x : Nat, x < H.size → F.heap[x]? = H[x]? := fun x hx => by
    have := Jvm.Free.Multi.fill_old (T.setVm vm₁) cA cy n.toNatClampNeg k.toNatClampNeg (defaultValue ty) (a := x) (by rw [hTh]; exact hx) n.toNatClampNeg
    rw [hF, hTh] at this
    exact this
  have hrow : ∀ j : Nat, j < n.toNatClampNeg → F.heap[H.size + 1 + j]? = some (vp_cell cy z) := fun j hj => by
    have := Jvm.Free.Multi.fill_inner (T.setVm vm₁) cA cy n.toNatClampNeg k.toNatClampNeg (defaultValue ty) n.toNatClampNeg j hj
    rw [hF, hTh, hz] at this
    exact this
  have hout : Jvm.Free.Multi.outerC cA n.toNatClampNeg H.size n.toNatClampNeg = vp_cell cA (n.toNatClampNeg, .inr (.inr (.inr (.inr (fun i => if i < n.toNatClampNeg then some (H.size + 1 + i) else none))))) := by
    rw [vp_cell_q]
    exact vr_outer cA n.toNatClampNeg H.size n.toNatClampNeg
  rw [hout] at f2
  have hlt : ∀ a, a ∈ L → a < H.size := fun a ha => by
    obtain ⟨k9, hk9⟩ := va_pl_get (X := X) (f := f) ha
    exact (hP k9 _ hk9).lt
  have hnl : ∀ i : Nat, i < n.toNatClampNeg → H.size + 1 + i ∉ L := fun i _ h => by
    have := hlt _ h
    omega
  have hnm : ∀ a, a ∈ (List.range n.toNatClampNeg).map (fun i => H.size + 1 + i) → a ∉ L := fun a ha h => by
    obtain ⟨i, -, rfl⟩ := List.mem_map.mp ha
    have := hlt _ h
    omega
  have hP0 : va_P D cl (X ++ va_pl L f) F.heap := hP.kept (fun k9 x hx => hold x.1 ((hP k9 x hx).lt))
  have hP1 : va_P D cl ((X ++ va_pl L f) ++ [(H.size, .inl (cA, n.toNatClampNeg, .inr (.inr (.inr (.inr (fun i => if i < n.toNatClampNeg then some (H.size + 1 + i) else none))))))]) F.heap := hP0.app (fun k9 x hx => by
    have h0 : k9 < 1 := (List.getElem?_eq_some_iff.mp hx).1
    rw [show k9 = 0 by omega] at hx
    cases hx
    exact f2)
  have hP2 : va_P D cl (((X ++ va_pl L f) ++ [(H.size, .inl (cA, n.toNatClampNeg, .inr (.inr (.inr (.inr (fun i => if i < n.toNatClampNeg then some (H.size + 1 + i) else none))))))]) ++ ((List.range n.toNatClampNeg).map (fun i => H.size + 1 + i)).map (fun a => (a, .inl (cy, z)))) F.heap := hP1.app (fun k9 x hx => by
    obtain ⟨a, ha, rfl⟩ := List.mem_map.mp (List.mem_of_getElem? hx)
    obtain ⟨i, hi, rfl⟩ := List.mem_map.mp ha
    exact hrow i (List.mem_range.mp hi))
  have hD2 : va_D A (((X ++ va_pl L f) ++ [(H.size, .inl (cA, n.toNatClampNeg, .inr (.inr (.inr (.inr (fun i => if i < n.toNatClampNeg then some (H.size + 1 + i) else none))))))]) ++ ((List.range n.toNatClampNeg).map (fun i => H.size + 1 + i)).map (fun a => (a, .inl (cy, z)))) := by
    have hD1 := hD.push (e := .inl (cA, n.toNatClampNeg, .inr (.inr (.inr (.inr (fun i => if i < n.toNatClampNeg then some (H.size + 1 + i) else none)))))) hP rfl (hA _ hS.1)
    generalize hW1 : (X ++ va_pl L f) ++ [(H.size, .inl (cA, n.toNatClampNeg, .inr (.inr (.inr (.inr (fun i => if i < n.toNatClampNeg then some (H.size + 1 + i) else none))))))] = W1 at hD1 hP1 ⊢
    have hle : ∀ (k9 : Nat) (x : Nat × va_E), W1[k9]? = some x → x.1 ≤ H.size := fun k9 x hx => by
      rw [← hW1] at hx
      by_cases hl : k9 < (X ++ va_pl L f).length
      · rw [List.getElem?_append_left hl] at hx
        exact Nat.le_of_lt ((hP k9 x hx).lt)
      · rw [List.getElem?_append_right (by omega)] at hx
        have h0 : k9 - (X ++ va_pl L f).length < 1 := (List.getElem?_eq_some_iff.mp hx).1
        rw [show k9 - (X ++ va_pl L f).length = 0 by omega] at hx
        cases hx
        exact Nat.le_refl _
    have hr : ∀ (k9 : Nat) (x : Nat × va_E), (((List.range n.toNatClampNeg).map (fun i => H.size + 1 + i)).map (fun a => ((a, .inl (cy, z)) : Nat × va_E)))[k9]? = some x → x.1 = H.size + 1 + k9 := fun k9 x hx => by
      rw [List.getElem?_map, List.getElem?_map] at hx
      by_cases h9 : k9 < n.toNatClampNeg
      · rw [List.getElem?_range h9] at hx
        cases hx
        rfl
      · have hn0 : (List.range n.toNatClampNeg)[k9]? = none := List.getElem?_eq_none (by rw [List.length_range]; omega)
        rw [hn0] at hx
        cases hx
    refine ⟨fun i j x y hi hj hxy => ?_, fun k9 x hx => ?_⟩
    · by_cases h1 : i < W1.length <;> by_cases h2 : j < W1.length
      · rw [List.getElem?_append_left h1] at hi
        rw [List.getElem?_append_left h2] at hj
        exact hD1.1 i j x y hi hj hxy
      · rw [List.getElem?_append_left h1] at hi
        rw [List.getElem?_append_right (by omega)] at hj
        have := hle _ _ hi
        have := hr _ _ hj
        omega
      · rw [List.getElem?_append_right (by omega)] at hi
        rw [List.getElem?_append_left h2] at hj
        have := hle _ _ hj
        have := hr _ _ hi
        omega
      · rw [List.getElem?_append_right (by omega)] at hi hj
        have := hr _ _ hi
        have := hr _ _ hj
        omega
    · by_cases h1 : k9 < W1.length
      · rw [List.getElem?_append_left h1] at hx
        exact hD1.2 k9 x hx
      · rw [List.getElem?_append_right (by omega)] at hx
        have := hr _ _ hx
        exact hA _ (by have := hS.1; omega)
  have hAr : ArrOfT s cA (.array ty) := fun N9 z9 => by
    obtain ⟨-, k9, hk9, cm9, hkk9⟩ := (hO 0 0 0).1
    exact ⟨(fun q hq => by cases hq), k9, hk9, cm9, hkk9⟩
  have hK2 : va_K D cl (tys ++ [(cA, .array ty)]) s := ⟨hK.1, fun k9 x hx => by
    by_cases hl : k9 < tys.length
    · rw [List.getElem?_append_left hl] at hx
      exact hK.2 k9 x hx
    · rw [List.getElem?_append_right (by omega)] at hx
      have h0 : k9 - tys.length < 1 := (List.getElem?_eq_some_iff.mp hx).1
      rw [show k9 - tys.length = 0 by omega] at hx
      cases hx
      exact ⟨hAr, fA⟩⟩
  obtain ⟨t, a1, b1⟩ := kk H.size (fun i => H.size + 1 + i) cA F.heap (fun i j _ _ h => by have h9 : H.size + 1 + i = H.size + 1 + j := h; omega) hnl hK2 (by rw [← vr_rows hnm]; exact vr_lay hP2) (by rw [← vr_rows hnm]; exact vr_layD hD2) ⟨by rw [f1]; have := hS.1; omega, fun x h1 h2 => (hold x (Nat.lt_of_lt_of_le h1 hS.1)).trans (hS.2.1 x h1 h2), hS.2.2⟩ F rfl X'
  refine ⟨t, step t ?_, b1⟩
  have e : T.heap.size = H.size := by rw [hT]
  rw [e]
  exact a1
end VGM
/-! ===== END ===== -/

/-! ===== BEGIN printed: names, fields, word lists, decode rows ===== -/
def RX0 : String := "VotedHill$Ballot"
def TX0 : u_T := fun k => match k with
  | 0 => ("VotedHill$Ballot", "choices", "[I", true)
  | _ => ("VotedHill$Ballot", "heaps", "[I", true)
def tyX0 : Nat → FieldType := fun k => match k with
  | 0 => .array .int
  | _ => .array .int
abbrev wsX00 : List Cond := u_ws RX0 TX0 2
theorem nmX0 : ∀ a, a < 2 → ∀ b, b < 2 → a ≠ b → (TX0 a).2.1 ≠ (TX0 b).2.1 := by decide +kernel
theorem tyX0_ok : ∀ k, k < 2 → parseFieldDescriptor (TX0 k).2.2.1 = some (tyX0 k) := by decide +kernel
abbrev cX0_init : ByteArray := prog_2_method_1_code
def yX0_init : MethodName := ⟨RX0, "<init>", "()V"⟩
abbrev cX0_hold : ByteArray := prog_2_method_2_code
def yX0_hold : MethodName := ⟨RX0, "hold", "(LVotedHill$Land;II)V"⟩
abbrev cX0_choiceOf : ByteArray := prog_2_method_3_code
def yX0_choiceOf : MethodName := ⟨RX0, "choiceOf", "(LVotedHill$Land;III)I"⟩
abbrev cX0_heap : ByteArray := prog_2_method_4_code
def yX0_heap : MethodName := ⟨RX0, "heap", "(LVotedHill$Land;II)V"⟩
abbrev cX0_winner : ByteArray := prog_2_method_5_code
def yX0_winner : MethodName := ⟨RX0, "winner", "()I"⟩
abbrev cX0_lead : ByteArray := prog_2_method_6_code
def yX0_lead : MethodName := ⟨RX0, "lead", "()I"⟩
abbrev cX0_votersFor : ByteArray := prog_2_method_7_code
def yX0_votersFor : MethodName := ⟨RX0, "votersFor", "(LVotedHill$Land;I)I"⟩
abbrev cX0_cheapestBought : ByteArray := prog_2_method_8_code
def yX0_cheapestBought : MethodName := ⟨RX0, "cheapestBought", "(LVotedHill$Land;I)I"⟩
def RX1 : String := "VotedHill$Chance"
def TX1 : u_T := fun k => match k with
  | 0 => ("VotedHill$Chance", "upperNumber", "J", false)
  | 1 => ("VotedHill$Chance", "lowerNumber", "J", false)
  | 2 => ("VotedHill$Chance", "weights", "[J", true)
  | _ => ("VotedHill$Chance", "allWeight", "J", false)
def tyX1 : Nat → FieldType := fun k => match k with
  | 0 => .long
  | 1 => .long
  | 2 => .array .long
  | _ => .long
abbrev wsX10 : List Cond := u_ws RX1 TX1 4
theorem nmX1 : ∀ a, a < 4 → ∀ b, b < 4 → a ≠ b → (TX1 a).2.1 ≠ (TX1 b).2.1 := by decide +kernel
theorem tyX1_ok : ∀ k, k < 4 → parseFieldDescriptor (TX1 k).2.2.1 = some (tyX1 k) := by decide +kernel
abbrev cX1_init : ByteArray := prog_3_method_1_code
def yX1_init : MethodName := ⟨RX1, "<init>", "()V"⟩
abbrev cX1_weigh : ByteArray := prog_3_method_2_code
def yX1_weigh : MethodName := ⟨RX1, "weigh", "(LVotedHill$Land;LVotedHill$Ballot;I)V"⟩
abbrev cX1_weightOf : ByteArray := prog_3_method_3_code
def yX1_weightOf : MethodName := ⟨RX1, "weightOf", "(LVotedHill$Land;LVotedHill$Ballot;II)J"⟩
abbrev cX1_tell : ByteArray := prog_3_method_4_code
def yX1_tell : MethodName := ⟨RX1, "tell", "(J)V"⟩
abbrev cX1_commonDivisor : ByteArray := prog_3_method_5_code
def yX1_commonDivisor : MethodName := ⟨RX1, "commonDivisor", "(JJ)J"⟩
def RX2 : String := "VotedHill$Clues"
def TX2 : u_T := fun k => match k with
  | 0 => ("VotedHill$Clues", "leastPart", "I", false)
  | _ => ("VotedHill$Clues", "tally", "[I", true)
def tyX2 : Nat → FieldType := fun k => match k with
  | 0 => .int
  | _ => .array .int
abbrev wsX20 : List Cond := u_ws RX2 TX2 2
theorem nmX2 : ∀ a, a < 2 → ∀ b, b < 2 → a ≠ b → (TX2 a).2.1 ≠ (TX2 b).2.1 := by decide +kernel
theorem tyX2_ok : ∀ k, k < 2 → parseFieldDescriptor (TX2 k).2.2.1 = some (tyX2 k) := by decide +kernel
abbrev cX2_init : ByteArray := prog_4_method_1_code
def yX2_init : MethodName := ⟨RX2, "<init>", "()V"⟩
abbrev cX2_fittingCells : ByteArray := prog_4_method_2_code
def yX2_fittingCells : MethodName := ⟨RX2, "fittingCells", "(LVotedHill$Land;LVotedHill$Strip;)I"⟩
abbrev cX2_fittingKinds : ByteArray := prog_4_method_3_code
def yX2_fittingKinds : MethodName := ⟨RX2, "fittingKinds", "(LVotedHill$Land;ILVotedHill$Strip;)I"⟩
abbrev cX2_bestTeller : ByteArray := prog_4_method_4_code
def yX2_bestTeller : MethodName := ⟨RX2, "bestTeller", "(LVotedHill$Land;I)I"⟩
abbrev cX2_bestCell : ByteArray := prog_4_method_5_code
def yX2_bestCell : MethodName := ⟨RX2, "bestCell", "(LVotedHill$Land;II)I"⟩
abbrev cX2_startTally : ByteArray := prog_4_method_6_code
def yX2_startTally : MethodName := ⟨RX2, "startTally", "()V"⟩
abbrev cX2_addToTally : ByteArray := prog_4_method_7_code
def yX2_addToTally : MethodName := ⟨RX2, "addToTally", "(I)V"⟩
abbrev cX2_takeIfLess : ByteArray := prog_4_method_8_code
def yX2_takeIfLess : MethodName := ⟨RX2, "takeIfLess", "(II)I"⟩
def RX3 : String := "VotedHill$Land"
def TX3 : u_T := fun k => match k with
  | 0 => ("VotedHill$Land", "columns", "I", false)
  | 1 => ("VotedHill$Land", "lines", "I", false)
  | 2 => ("VotedHill$Land", "people", "I", false)
  | 3 => ("VotedHill$Land", "mountain", "I", false)
  | 4 => ("VotedHill$Land", "back", "I", false)
  | 5 => ("VotedHill$Land", "years", "I", false)
  | 6 => ("VotedHill$Land", "deeds", "I", false)
  | 7 => ("VotedHill$Land", "kind", "[I", true)
  | 8 => ("VotedHill$Land", "house", "[I", true)
  | 9 => ("VotedHill$Land", "hearths", "[I", true)
  | 10 => ("VotedHill$Land", "oldMountain", "[I", true)
  | 11 => ("VotedHill$Land", "oldBack", "[I", true)
  | 12 => ("VotedHill$Land", "oldYears", "[I", true)
  | 13 => ("VotedHill$Land", "movedOne", "[I", true)
  | _ => ("VotedHill$Land", "oldHouse", "[I", true)
def tyX3 : Nat → FieldType := fun k => match k with
  | 0 => .int
  | 1 => .int
  | 2 => .int
  | 3 => .int
  | 4 => .int
  | 5 => .int
  | 6 => .int
  | 7 => .array .int
  | 8 => .array .int
  | 9 => .array .int
  | 10 => .array .int
  | 11 => .array .int
  | 12 => .array .int
  | 13 => .array .int
  | _ => .array .int
abbrev wsX30 : List Cond := u_ws RX3 TX3 15
theorem nmX3 : ∀ a, a < 15 → ∀ b, b < 15 → a ≠ b → (TX3 a).2.1 ≠ (TX3 b).2.1 := by decide +kernel
theorem tyX3_ok : ∀ k, k < 15 → parseFieldDescriptor (TX3 k).2.2.1 = some (tyX3 k) := by decide +kernel
abbrev cX3_init : ByteArray := prog_5_method_1_code
def yX3_init : MethodName := ⟨RX3, "<init>", "()V"⟩
abbrev cX3_clear : ByteArray := prog_5_method_2_code
def yX3_clear : MethodName := ⟨RX3, "clear", "()V"⟩
abbrev cX3_become : ByteArray := prog_5_method_3_code
def yX3_become : MethodName := ⟨RX3, "become", "(LVotedHill$Land;)V"⟩
abbrev cX3_settle : ByteArray := prog_5_method_4_code
def yX3_settle : MethodName := ⟨RX3, "settle", "(III)V"⟩
abbrev cX3_isEmpty : ByteArray := prog_5_method_5_code
def yX3_isEmpty : MethodName := ⟨RX3, "isEmpty", "()Z"⟩
abbrev cX3_cells : ByteArray := prog_5_method_6_code
def yX3_cells : MethodName := ⟨RX3, "cells", "()I"⟩
abbrev cX3_hasCell : ByteArray := prog_5_method_7_code
def yX3_hasCell : MethodName := ⟨RX3, "hasCell", "(I)Z"⟩
abbrev cX3_hasOne : ByteArray := prog_5_method_8_code
def yX3_hasOne : MethodName := ⟨RX3, "hasOne", "(I)Z"⟩
abbrev cX3_far : ByteArray := prog_5_method_9_code
def yX3_far : MethodName := ⟨RX3, "far", "(II)I"⟩
abbrev cX3_beside : ByteArray := prog_5_method_10_code
def yX3_beside : MethodName := ⟨RX3, "beside", "(II)I"⟩
abbrev cX3_canGo : ByteArray := prog_5_method_11_code
def yX3_canGo : MethodName := ⟨RX3, "canGo", "(III)Z"⟩
abbrev cX3_against : ByteArray := prog_5_method_12_code
def yX3_against : MethodName := ⟨RX3, "against", "(I)I"⟩
abbrev cX3_isOf : ByteArray := prog_5_method_13_code
def yX3_isOf : MethodName := ⟨RX3, "isOf", "(II)Z"⟩
abbrev cX3_liesNorth : ByteArray := prog_5_method_14_code
def yX3_liesNorth : MethodName := ⟨RX3, "liesNorth", "(II)Z"⟩
abbrev cX3_gains : ByteArray := prog_5_method_15_code
def yX3_gains : MethodName := ⟨RX3, "gains", "(II)I"⟩
abbrev cX3_gainsAs : ByteArray := prog_5_method_16_code
def yX3_gainsAs : MethodName := ⟨RX3, "gainsAs", "(III)I"⟩
abbrev cX3_gainOf : ByteArray := prog_5_method_17_code
def yX3_gainOf : MethodName := ⟨RX3, "gainOf", "(IIZ)I"⟩
abbrev cX3_gainfulCells : ByteArray := prog_5_method_18_code
def yX3_gainfulCells : MethodName := ⟨RX3, "gainfulCells", "(I)I"⟩
abbrev cX3_worth : ByteArray := prog_5_method_19_code
def yX3_worth : MethodName := ⟨RX3, "worth", "(I)I"⟩
abbrev cX3_hearthsOf : ByteArray := prog_5_method_20_code
def yX3_hearthsOf : MethodName := ⟨RX3, "hearthsOf", "(I)I"⟩
abbrev cX3_allHearths : ByteArray := prog_5_method_21_code
def yX3_allHearths : MethodName := ⟨RX3, "allHearths", "()I"⟩
abbrev cX3_widows : ByteArray := prog_5_method_22_code
def yX3_widows : MethodName := ⟨RX3, "widows", "()I"⟩
abbrev cX3_goInYear : ByteArray := prog_5_method_23_code
def yX3_goInYear : MethodName := ⟨RX3, "goInYear", "(I)V"⟩
abbrev cX3_bePushed : ByteArray := prog_5_method_24_code
def yX3_bePushed : MethodName := ⟨RX3, "bePushed", "(I)V"⟩
abbrev cX3_moveHouse : ByteArray := prog_5_method_25_code
def yX3_moveHouse : MethodName := ⟨RX3, "moveHouse", "(II)V"⟩
abbrev cX3_remember : ByteArray := prog_5_method_26_code
def yX3_remember : MethodName := ⟨RX3, "remember", "(I)Z"⟩
abbrev cX3_undoFrom : ByteArray := prog_5_method_27_code
def yX3_undoFrom : MethodName := ⟨RX3, "undoFrom", "(I)V"⟩
def RX4 : String := "VotedHill$Paths"
def TX4 : u_T := fun k => match k with
  | 0 => ("VotedHill$Paths", "steps", "[I", true)
  | _ => ("VotedHill$Paths", "queue", "[I", true)
def tyX4 : Nat → FieldType := fun k => match k with
  | 0 => .array .int
  | _ => .array .int
abbrev wsX40 : List Cond := u_ws RX4 TX4 2
theorem nmX4 : ∀ a, a < 2 → ∀ b, b < 2 → a ≠ b → (TX4 a).2.1 ≠ (TX4 b).2.1 := by decide +kernel
theorem tyX4_ok : ∀ k, k < 2 → parseFieldDescriptor (TX4 k).2.2.1 = some (tyX4 k) := by decide +kernel
abbrev cX4_init : ByteArray := prog_6_method_1_code
def yX4_init : MethodName := ⟨RX4, "<init>", "()V"⟩
abbrev cX4_steps : ByteArray := prog_6_method_2_code
def yX4_steps : MethodName := ⟨RX4, "steps", "(LVotedHill$Land;III)I"⟩
abbrev cX4_reachBeside : ByteArray := prog_6_method_3_code
def yX4_reachBeside : MethodName := ⟨RX4, "reachBeside", "(LVotedHill$Land;III)I"⟩
abbrev cX4_firstWay : ByteArray := prog_6_method_4_code
def yX4_firstWay : MethodName := ⟨RX4, "firstWay", "(LVotedHill$Land;I)I"⟩
def RX5 : String := "VotedHill$Plans"
def TX5 : u_T := fun k => match k with
  | 0 => ("VotedHill$Plans", "worths", "[I", true)
  | 1 => ("VotedHill$Plans", "bests", "[[I", true)
  | _ => ("VotedHill$Plans", "duels", "[[I", true)
def tyX5 : Nat → FieldType := fun k => match k with
  | 0 => .array .int
  | 1 => .array (.array .int)
  | _ => .array (.array .int)
abbrev wsX50 : List Cond := u_ws RX5 TX5 3
theorem nmX5 : ∀ a, a < 3 → ∀ b, b < 3 → a ≠ b → (TX5 a).2.1 ≠ (TX5 b).2.1 := by decide +kernel
theorem tyX5_ok : ∀ k, k < 3 → parseFieldDescriptor (TX5 k).2.2.1 = some (tyX5 k) := by decide +kernel
abbrev cX5_init : ByteArray := prog_7_method_1_code
def yX5_init : MethodName := ⟨RX5, "<init>", "()V"⟩
abbrev cX5_bestCourse : ByteArray := prog_7_method_2_code
def yX5_bestCourse : MethodName := ⟨RX5, "bestCourse", "(LVotedHill$Land;I[I)I"⟩
abbrev cX5_weighCells : ByteArray := prog_7_method_3_code
def yX5_weighCells : MethodName := ⟨RX5, "weighCells", "(LVotedHill$Land;)V"⟩
abbrev cX5_bestWay : ByteArray := prog_7_method_4_code
def yX5_bestWay : MethodName := ⟨RX5, "bestWay", "(LVotedHill$Land;III)I"⟩
abbrev cX5_gainedBy : ByteArray := prog_7_method_5_code
def yX5_gainedBy : MethodName := ⟨RX5, "gainedBy", "(LVotedHill$Land;III)I"⟩
abbrev cX5_duelWorth : ByteArray := prog_7_method_6_code
def yX5_duelWorth : MethodName := ⟨RX5, "duelWorth", "(LVotedHill$Land;I)I"⟩
abbrev cX5_wanted : ByteArray := prog_7_method_7_code
def yX5_wanted : MethodName := ⟨RX5, "wanted", "(LVotedHill$Land;II)I"⟩
def RX6 : String := "VotedHill$Reader"
def TX6 : u_T := fun k => match k with
  | 0 => ("VotedHill$Reader", "source", "LVotedHill$Strip;", false)
  | _ => ("VotedHill$Reader", "place", "I", false)
def tyX6 : Nat → FieldType := fun k => match k with
  | 0 => .object "VotedHill$Strip"
  | _ => .int
abbrev wsX60 : List Cond := u_ws RX6 TX6 2
theorem nmX6 : ∀ a, a < 2 → ∀ b, b < 2 → a ≠ b → (TX6 a).2.1 ≠ (TX6 b).2.1 := by decide +kernel
theorem tyX6_ok : ∀ k, k < 2 → parseFieldDescriptor (TX6 k).2.2.1 = some (tyX6 k) := by decide +kernel
abbrev cX6_init : ByteArray := prog_8_method_1_code
def yX6_init : MethodName := ⟨RX6, "<init>", "()V"⟩
abbrev cX6_readLand : ByteArray := prog_8_method_2_code
def yX6_readLand : MethodName := ⟨RX6, "readLand", "(LVotedHill$Strip;LVotedHill$Land;)I"⟩
abbrev cX6_readGround : ByteArray := prog_8_method_3_code
def yX6_readGround : MethodName := ⟨RX6, "readGround", "(LVotedHill$Land;)Z"⟩
abbrev cX6_readOne : ByteArray := prog_8_method_4_code
def yX6_readOne : MethodName := ⟨RX6, "readOne", "(LVotedHill$Land;)Z"⟩
abbrev cX6_kindOf : ByteArray := prog_8_method_5_code
def yX6_kindOf : MethodName := ⟨RX6, "kindOf", "(I)I"⟩
abbrev cX6_figure : ByteArray := prog_8_method_6_code
def yX6_figure : MethodName := ⟨RX6, "figure", "(II)I"⟩
abbrev cX6_atEnd : ByteArray := prog_8_method_7_code
def yX6_atEnd : MethodName := ⟨RX6, "atEnd", "()Z"⟩
abbrev cX6_sign : ByteArray := prog_8_method_8_code
def yX6_sign : MethodName := ⟨RX6, "sign", "()I"⟩
abbrev cX6_skipBlanks : ByteArray := prog_8_method_9_code
def yX6_skipBlanks : MethodName := ⟨RX6, "skipBlanks", "()V"⟩
def RX7 : String := "VotedHill$Strip"
def TX7 : u_T := fun k => match k with
  | 0 => ("VotedHill$Strip", "places", "[I", true)
  | _ => ("VotedHill$Strip", "size", "I", false)
def tyX7 : Nat → FieldType := fun k => match k with
  | 0 => .array .int
  | _ => .int
abbrev wsX70 : List Cond := u_ws RX7 TX7 2
theorem nmX7 : ∀ a, a < 2 → ∀ b, b < 2 → a ≠ b → (TX7 a).2.1 ≠ (TX7 b).2.1 := by decide +kernel
theorem tyX7_ok : ∀ k, k < 2 → parseFieldDescriptor (TX7 k).2.2.1 = some (tyX7 k) := by decide +kernel
abbrev cX7_init : ByteArray := prog_9_method_1_code
def yX7_init : MethodName := ⟨RX7, "<init>", "(I)V"⟩
abbrev cX7_isMissing : ByteArray := prog_9_method_2_code
def yX7_isMissing : MethodName := ⟨RX7, "isMissing", "()Z"⟩
abbrev cX7_remove : ByteArray := prog_9_method_3_code
def yX7_remove : MethodName := ⟨RX7, "remove", "()V"⟩
abbrev cX7_renew : ByteArray := prog_9_method_4_code
def yX7_renew : MethodName := ⟨RX7, "renew", "(II)V"⟩
abbrev cX7_holds : ByteArray := prog_9_method_5_code
def yX7_holds : MethodName := ⟨RX7, "holds", "(II)Z"⟩
abbrev cX7_mixInto : ByteArray := prog_9_method_6_code
def yX7_mixInto : MethodName := ⟨RX7, "mixInto", "(J)J"⟩
def RX8 : String := "VotedHill$Years"
def TX8 : u_T := fun k => match k with
  | 0 => ("VotedHill$Years", "cell", "I", false)
  | 1 => ("VotedHill$Years", "period", "I", false)
  | 2 => ("VotedHill$Years", "back", "I", false)
  | _ => ("VotedHill$Years", "seenIn", "[I", true)
def tyX8 : Nat → FieldType := fun k => match k with
  | 0 => .int
  | 1 => .int
  | 2 => .int
  | _ => .array .int
abbrev wsX80 : List Cond := u_ws RX8 TX8 4
theorem nmX8 : ∀ a, a < 4 → ∀ b, b < 4 → a ≠ b → (TX8 a).2.1 ≠ (TX8 b).2.1 := by decide +kernel
theorem tyX8_ok : ∀ k, k < 4 → parseFieldDescriptor (TX8 k).2.2.1 = some (tyX8 k) := by decide +kernel
abbrev cX8_init : ByteArray := prog_10_method_1_code
def yX8_init : MethodName := ⟨RX8, "<init>", "()V"⟩
abbrev cX8_begin : ByteArray := prog_10_method_2_code
def yX8_begin : MethodName := ⟨RX8, "begin", "(LVotedHill$Land;)V"⟩
abbrev cX8_pass : ByteArray := prog_10_method_3_code
def yX8_pass : MethodName := ⟨RX8, "pass", "(LVotedHill$Land;LVotedHill$Ballot;)V"⟩
abbrev cX8_untilRepeat : ByteArray := prog_10_method_4_code
def yX8_untilRepeat : MethodName := ⟨RX8, "untilRepeat", "(LVotedHill$Land;LVotedHill$Ballot;)I"⟩
def RX9 : String := "VotedHill"
def TX9 : u_T := fun k => match k with
  | 0 => ("VotedHill", "rows", "[LVotedHill$Strip;", true)
  | 1 => ("VotedHill", "texts", "[LVotedHill$Strip;", true)
  | 2 => ("VotedHill", "land", "LVotedHill$Land;", true)
  | 3 => ("VotedHill", "draft", "LVotedHill$Land;", true)
  | 4 => ("VotedHill", "kept", "[LVotedHill$Land;", true)
  | 5 => ("VotedHill", "reader", "LVotedHill$Reader;", true)
  | 6 => ("VotedHill", "ballot", "LVotedHill$Ballot;", true)
  | 7 => ("VotedHill", "years", "LVotedHill$Years;", true)
  | 8 => ("VotedHill", "plans", "LVotedHill$Plans;", true)
  | 9 => ("VotedHill", "clues", "LVotedHill$Clues;", true)
  | 10 => ("VotedHill", "paths", "LVotedHill$Paths;", true)
  | 11 => ("VotedHill", "chance", "LVotedHill$Chance;", true)
  | 12 => ("VotedHill", "found", "[I", true)
  | 13 => ("VotedHill", "latestFinding", "I", false)
  | _ => ("VotedHill", "told", "I", false)
def tyX9 : Nat → FieldType := fun k => match k with
  | 0 => .array (.object "VotedHill$Strip")
  | 1 => .array (.object "VotedHill$Strip")
  | 2 => .object "VotedHill$Land"
  | 3 => .object "VotedHill$Land"
  | 4 => .array (.object "VotedHill$Land")
  | 5 => .object "VotedHill$Reader"
  | 6 => .object "VotedHill$Ballot"
  | 7 => .object "VotedHill$Years"
  | 8 => .object "VotedHill$Plans"
  | 9 => .object "VotedHill$Clues"
  | 10 => .object "VotedHill$Paths"
  | 11 => .object "VotedHill$Chance"
  | 12 => .array .int
  | 13 => .int
  | _ => .int
abbrev wsX90 : List Cond := u_ws RX9 TX9 15
theorem nmX9 : ∀ a, a < 15 → ∀ b, b < 15 → a ≠ b → (TX9 a).2.1 ≠ (TX9 b).2.1 := by decide +kernel
theorem tyX9_ok : ∀ k, k < 15 → parseFieldDescriptor (TX9 k).2.2.1 = some (tyX9 k) := by decide +kernel
abbrev cX9_init : ByteArray := prog_1_method_1_code
def yX9_init : MethodName := ⟨RX9, "<init>", "()V"⟩
abbrev cX9_row : ByteArray := prog_1_method_2_code
def yX9_row : MethodName := ⟨RX9, "row", "(II)I"⟩
abbrev cX9_lay : ByteArray := prog_1_method_3_code
def yX9_lay : MethodName := ⟨RX9, "lay", "(III)I"⟩
abbrev cX9_at : ByteArray := prog_1_method_4_code
def yX9_at : MethodName := ⟨RX9, "at", "(II)I"⟩
abbrev cX9_tear : ByteArray := prog_1_method_5_code
def yX9_tear : MethodName := ⟨RX9, "tear", "(I)I"⟩
abbrev cX9_copy : ByteArray := prog_1_method_6_code
def yX9_copy : MethodName := ⟨RX9, "copy", "(IIIII)I"⟩
abbrev cX9_mean : ByteArray := prog_1_method_7_code
def yX9_mean : MethodName := ⟨RX9, "mean", "(I)I"⟩
abbrev cX9_text : ByteArray := prog_1_method_8_code
def yX9_text : MethodName := ⟨RX9, "text", "(II)I"⟩
abbrev cX9_put : ByteArray := prog_1_method_9_code
def yX9_put : MethodName := ⟨RX9, "put", "(III)I"⟩
abbrev cX9_fault : ByteArray := prog_1_method_10_code
def yX9_fault : MethodName := ⟨RX9, "fault", "(I)I"⟩
abbrev cX9_land : ByteArray := prog_1_method_11_code
def yX9_land : MethodName := ⟨RX9, "land", "(I)I"⟩
abbrev cX9_one : ByteArray := prog_1_method_12_code
def yX9_one : MethodName := ⟨RX9, "one", "(II)I"⟩
abbrev cX9_mark : ByteArray := prog_1_method_13_code
def yX9_mark : MethodName := ⟨RX9, "mark", "(II)I"⟩
abbrev cX9_gain : ByteArray := prog_1_method_14_code
def yX9_gain : MethodName := ⟨RX9, "gain", "(II)I"⟩
abbrev cX9_year : ByteArray := prog_1_method_15_code
def yX9_year : MethodName := ⟨RX9, "year", "()I"⟩
abbrev cX9_push : ByteArray := prog_1_method_16_code
def yX9_push : MethodName := ⟨RX9, "push", "(I)I"⟩
abbrev cX9_house : ByteArray := prog_1_method_17_code
def yX9_house : MethodName := ⟨RX9, "house", "(II)I"⟩
abbrev cX9_undo : ByteArray := prog_1_method_18_code
def yX9_undo : MethodName := ⟨RX9, "undo", "(I)I"⟩
abbrev cX9_keep : ByteArray := prog_1_method_19_code
def yX9_keep : MethodName := ⟨RX9, "keep", "(I)I"⟩
abbrev cX9_on : ByteArray := prog_1_method_20_code
def yX9_on : MethodName := ⟨RX9, "on", "(I)I"⟩
abbrev cX9_votes : ByteArray := prog_1_method_21_code
def yX9_votes : MethodName := ⟨RX9, "votes", "(I)I"⟩
abbrev cX9_carries : ByteArray := prog_1_method_22_code
def yX9_carries : MethodName := ⟨RX9, "carries", "()I"⟩
abbrev cX9_buy : ByteArray := prog_1_method_23_code
def yX9_buy : MethodName := ⟨RX9, "buy", "(I)I"⟩
abbrev cX9_then : ByteArray := prog_1_method_24_code
def yX9_then : MethodName := ⟨RX9, "then", "(I)I"⟩
abbrev cX9_when : ByteArray := prog_1_method_25_code
def yX9_when : MethodName := ⟨RX9, "when", "(I)I"⟩
abbrev cX9_round : ByteArray := prog_1_method_26_code
def yX9_round : MethodName := ⟨RX9, "round", "()I"⟩
abbrev cX9_course : ByteArray := prog_1_method_27_code
def yX9_course : MethodName := ⟨RX9, "course", "(II)I"⟩
abbrev cX9_fits : ByteArray := prog_1_method_28_code
def yX9_fits : MethodName := ⟨RX9, "fits", "(I)I"⟩
abbrev cX9_next : ByteArray := prog_1_method_29_code
def yX9_next : MethodName := ⟨RX9, "next", "(I)I"⟩
abbrev cX9_kinds : ByteArray := prog_1_method_30_code
def yX9_kinds : MethodName := ⟨RX9, "kinds", "(II)I"⟩
abbrev cX9_test : ByteArray := prog_1_method_31_code
def yX9_test : MethodName := ⟨RX9, "test", "(II)I"⟩
abbrev cX9_way : ByteArray := prog_1_method_32_code
def yX9_way : MethodName := ⟨RX9, "way", "(II)I"⟩
abbrev cX9_parts : ByteArray := prog_1_method_33_code
def yX9_parts : MethodName := ⟨RX9, "parts", "(II)I"⟩
abbrev cX9_duel : ByteArray := prog_1_method_34_code
def yX9_duel : MethodName := ⟨RX9, "duel", "(I)I"⟩
abbrev cX9_odds : ByteArray := prog_1_method_35_code
def yX9_odds : MethodName := ⟨RX9, "odds", "(II)I"⟩
abbrev cX9_mid : ByteArray := prog_1_method_36_code
def yX9_mid : MethodName := ⟨RX9, "mid", "(I)I"⟩
abbrev cX9_lots : ByteArray := prog_1_method_37_code
def yX9_lots : MethodName := ⟨RX9, "lots", "(II)I"⟩
abbrev cX9_asked : ByteArray := prog_1_method_38_code
def yX9_asked : MethodName := ⟨RX9, "asked", "()I"⟩
abbrev cX9_upper : ByteArray := prog_1_method_39_code
def yX9_upper : MethodName := ⟨RX9, "upper", "()J"⟩
abbrev cX9_lower : ByteArray := prog_1_method_40_code
def yX9_lower : MethodName := ⟨RX9, "lower", "()J"⟩
abbrev cX9_count : ByteArray := prog_1_method_41_code
def yX9_count : MethodName := ⟨RX9, "count", "(I)I"⟩
abbrev cX9_finding : ByteArray := prog_1_method_42_code
def yX9_finding : MethodName := ⟨RX9, "finding", "()I"⟩
abbrev cX9_findings : ByteArray := prog_1_method_43_code
def yX9_findings : MethodName := ⟨RX9, "findings", "(I)I"⟩
abbrev cX9_digest : ByteArray := prog_1_method_44_code
def yX9_digest : MethodName := ⟨RX9, "digest", "()J"⟩
abbrev cX9_isRow : ByteArray := prog_1_method_45_code
def yX9_isRow : MethodName := ⟨RX9, "isRow", "(I)Z"⟩
abbrev cX9_isText : ByteArray := prog_1_method_46_code
def yX9_isText : MethodName := ⟨RX9, "isText", "(I)Z"⟩
abbrev cX9_isWay : ByteArray := prog_1_method_47_code
def yX9_isWay : MethodName := ⟨RX9, "isWay", "(I)Z"⟩
abbrev cX9_refuse : ByteArray := prog_1_method_48_code
def yX9_refuse : MethodName := ⟨RX9, "refuse", "(I)I"⟩
abbrev cX9_placeRefusal : ByteArray := prog_1_method_49_code
def yX9_placeRefusal : MethodName := ⟨RX9, "placeRefusal", "(LVotedHill$Strip;I)I"⟩
abbrev cX9_cellPairsRefusal : ByteArray := prog_1_method_50_code
def yX9_cellPairsRefusal : MethodName := ⟨RX9, "cellPairsRefusal", "(I)I"⟩
abbrev cX9_kindPairsRefusal : ByteArray := prog_1_method_51_code
def yX9_kindPairsRefusal : MethodName := ⟨RX9, "kindPairsRefusal", "(II)I"⟩
abbrev cX9_pairsRefusal : ByteArray := prog_1_method_52_code
def yX9_pairsRefusal : MethodName := ⟨RX9, "pairsRefusal", "(LVotedHill$Strip;I)I"⟩
abbrev cX9_aboutOne : ByteArray := prog_1_method_53_code
def yX9_aboutOne : MethodName := ⟨RX9, "aboutOne", "(II)I"⟩
abbrev cX9_abstainersBeside : ByteArray := prog_1_method_54_code
def yX9_abstainersBeside : MethodName := ⟨RX9, "abstainersBeside", "(I)I"⟩
abbrev cX9_passYear : ByteArray := prog_1_method_55_code
def yX9_passYear : MethodName := ⟨RX9, "passYear", "()I"⟩
abbrev cX9_present : ByteArray := prog_1_method_56_code
def yX9_present : MethodName := ⟨RX9, "present", "([LVotedHill$Strip;)I"⟩
abbrev cX9_keptLands : ByteArray := prog_1_method_57_code
def yX9_keptLands : MethodName := ⟨RX9, "keptLands", "()I"⟩
def RX10 : String := "VotedHillModel"
def TX10 : u_T := fun k => match k with
  | 0 => ("VotedHillModel", "latest", "I", false)
  | 1 => ("VotedHillModel", "came", "[I", true)
  | 2 => ("VotedHillModel", "asked", "I", false)
  | 3 => ("VotedHillModel", "upper", "J", false)
  | 4 => ("VotedHillModel", "lower", "J", false)
  | 5 => ("VotedHillModel", "sizes", "[I", true)
  | 6 => ("VotedHillModel", "rows", "[I", true)
  | 7 => ("VotedHillModel", "copied", "[I", true)
  | 8 => ("VotedHillModel", "textSizes", "[I", true)
  | 9 => ("VotedHillModel", "bytes", "[B", true)
  | 10 => ("VotedHillModel", "n", "I", false)
  | 11 => ("VotedHillModel", "columns", "I", false)
  | 12 => ("VotedHillModel", "lines", "I", false)
  | 13 => ("VotedHillModel", "kindOf", "[I", true)
  | 14 => ("VotedHillModel", "hearths", "[I", true)
  | 15 => ("VotedHillModel", "now", "[I", true)
  | 16 => ("VotedHillModel", "tried", "[I", true)
  | 17 => ("VotedHillModel", "readAt", "I", false)
  | 18 => ("VotedHillModel", "readMany", "I", false)
  | 19 => ("VotedHillModel", "isHead", "Z", false)
  | 20 => ("VotedHillModel", "readHead", "[I", true)
  | 21 => ("VotedHillModel", "readOne", "[I", true)
  | 22 => ("VotedHillModel", "counts", "[I", true)
  | 23 => ("VotedHillModel", "deedMany", "I", false)
  | 24 => ("VotedHillModel", "log", "[I", true)
  | 25 => ("VotedHillModel", "isKept", "[Z", true)
  | 26 => ("VotedHillModel", "keptMany", "[I", true)
  | 27 => ("VotedHillModel", "keptNow", "[I", true)
  | 28 => ("VotedHillModel", "keptLog", "[I", true)
  | 29 => ("VotedHillModel", "met", "[I", true)
  | 30 => ("VotedHillModel", "ways", "[I", true)
  | 31 => ("VotedHillModel", "steps", "[I", true)
  | 32 => ("VotedHillModel", "ends", "[I", true)
  | 33 => ("VotedHillModel", "ahead", "[I", true)
  | 34 => ("VotedHillModel", "whole", "J", false)
  | 35 => ("VotedHillModel", "waySum", "J", false)
  | 36 => ("VotedHillModel", "gainSum", "J", false)
  | _ => ("VotedHillModel", "hash", "J", false)
def tyX10 : Nat → FieldType := fun k => match k with
  | 0 => .int
  | 1 => .array .int
  | 2 => .int
  | 3 => .long
  | 4 => .long
  | 5 => .array .int
  | 6 => .array .int
  | 7 => .array .int
  | 8 => .array .int
  | 9 => .array .byte
  | 10 => .int
  | 11 => .int
  | 12 => .int
  | 13 => .array .int
  | 14 => .array .int
  | 15 => .array .int
  | 16 => .array .int
  | 17 => .int
  | 18 => .int
  | 19 => .boolean
  | 20 => .array .int
  | 21 => .array .int
  | 22 => .array .int
  | 23 => .int
  | 24 => .array .int
  | 25 => .array .boolean
  | 26 => .array .int
  | 27 => .array .int
  | 28 => .array .int
  | 29 => .array .int
  | 30 => .array .int
  | 31 => .array .int
  | 32 => .array .int
  | 33 => .array .int
  | 34 => .long
  | 35 => .long
  | 36 => .long
  | _ => .long
abbrev wsX100 : List Cond := u_ws RX10 TX10 38
theorem nmX10 : ∀ a, a < 38 → ∀ b, b < 38 → a ≠ b → (TX10 a).2.1 ≠ (TX10 b).2.1 := by decide +kernel
theorem tyX10_ok : ∀ k, k < 38 → parseFieldDescriptor (TX10 k).2.2.1 = some (tyX10 k) := by decide +kernel
abbrev cX10_init : ByteArray := prog_12_method_1_code
def yX10_init : MethodName := ⟨RX10, "<init>", "()V"⟩
abbrev cX10_in : ByteArray := prog_12_method_2_code
def yX10_in : MethodName := ⟨RX10, "in", "(III)Z"⟩
abbrev cX10_has : ByteArray := prog_12_method_3_code
def yX10_has : MethodName := ⟨RX10, "has", "(II)Z"⟩
abbrev cX10_bits : ByteArray := prog_12_method_4_code
def yX10_bits : MethodName := ⟨RX10, "bits", "(I)I"⟩
abbrev cX10_meets : ByteArray := prog_12_method_5_code
def yX10_meets : MethodName := ⟨RX10, "meets", "(I)I"⟩
abbrev cX10_finding : ByteArray := prog_12_method_6_code
def yX10_finding : MethodName := ⟨RX10, "finding", "()I"⟩
abbrev cX10_findings : ByteArray := prog_12_method_7_code
def yX10_findings : MethodName := ⟨RX10, "findings", "(I)I"⟩
abbrev cX10_tells : ByteArray := prog_12_method_8_code
def yX10_tells : MethodName := ⟨RX10, "tells", "(II)I"⟩
abbrev cX10_asked : ByteArray := prog_12_method_9_code
def yX10_asked : MethodName := ⟨RX10, "asked", "()I"⟩
abbrev cX10_fraction : ByteArray := prog_12_method_10_code
def yX10_fraction : MethodName := ⟨RX10, "fraction", "(JJ)I"⟩
abbrev cX10_upper : ByteArray := prog_12_method_11_code
def yX10_upper : MethodName := ⟨RX10, "upper", "()J"⟩
abbrev cX10_lower : ByteArray := prog_12_method_12_code
def yX10_lower : MethodName := ⟨RX10, "lower", "()J"⟩
abbrev cX10_isRow : ByteArray := prog_12_method_13_code
def yX10_isRow : MethodName := ⟨RX10, "isRow", "(I)Z"⟩
abbrev cX10_rowAt : ByteArray := prog_12_method_14_code
def yX10_rowAt : MethodName := ⟨RX10, "rowAt", "(II)I"⟩
abbrev cX10_row : ByteArray := prog_12_method_15_code
def yX10_row : MethodName := ⟨RX10, "row", "(II)I"⟩
abbrev cX10_lay : ByteArray := prog_12_method_16_code
def yX10_lay : MethodName := ⟨RX10, "lay", "(III)I"⟩
abbrev cX10_at : ByteArray := prog_12_method_17_code
def yX10_at : MethodName := ⟨RX10, "at", "(II)I"⟩
abbrev cX10_tear : ByteArray := prog_12_method_18_code
def yX10_tear : MethodName := ⟨RX10, "tear", "(I)I"⟩
abbrev cX10_copy : ByteArray := prog_12_method_19_code
def yX10_copy : MethodName := ⟨RX10, "copy", "(IIIII)I"⟩
abbrev cX10_mean : ByteArray := prog_12_method_20_code
def yX10_mean : MethodName := ⟨RX10, "mean", "(I)I"⟩
abbrev cX10_isText : ByteArray := prog_12_method_21_code
def yX10_isText : MethodName := ⟨RX10, "isText", "(I)Z"⟩
abbrev cX10_text : ByteArray := prog_12_method_22_code
def yX10_text : MethodName := ⟨RX10, "text", "(II)I"⟩
abbrev cX10_put : ByteArray := prog_12_method_23_code
def yX10_put : MethodName := ⟨RX10, "put", "(III)I"⟩
abbrev cX10_byteAt : ByteArray := prog_12_method_24_code
def yX10_byteAt : MethodName := ⟨RX10, "byteAt", "(II)I"⟩
abbrev cX10_kindBy : ByteArray := prog_12_method_25_code
def yX10_kindBy : MethodName := ⟨RX10, "kindBy", "(I)I"⟩
abbrev cX10_figure : ByteArray := prog_12_method_26_code
def yX10_figure : MethodName := ⟨RX10, "figure", "(III)I"⟩
abbrev cX10_readsHead : ByteArray := prog_12_method_27_code
def yX10_readsHead : MethodName := ⟨RX10, "readsHead", "(I)Z"⟩
abbrev cX10_readsOne : ByteArray := prog_12_method_28_code
def yX10_readsOne : MethodName := ⟨RX10, "readsOne", "(I)Z"⟩
abbrev cX10_faultOf : ByteArray := prog_12_method_29_code
def yX10_faultOf : MethodName := ⟨RX10, "faultOf", "(I)I"⟩
abbrev cX10_fault : ByteArray := prog_12_method_30_code
def yX10_fault : MethodName := ⟨RX10, "fault", "(I)I"⟩
abbrev cX10_land : ByteArray := prog_12_method_31_code
def yX10_land : MethodName := ⟨RX10, "land", "(I)I"⟩
abbrev cX10_isOne : ByteArray := prog_12_method_32_code
def yX10_isOne : MethodName := ⟨RX10, "isOne", "(I)Z"⟩
abbrev cX10_isCell : ByteArray := prog_12_method_33_code
def yX10_isCell : MethodName := ⟨RX10, "isCell", "(I)Z"⟩
abbrev cX10_apart : ByteArray := prog_12_method_34_code
def yX10_apart : MethodName := ⟨RX10, "apart", "(II)I"⟩
abbrev cX10_far : ByteArray := prog_12_method_35_code
def yX10_far : MethodName := ⟨RX10, "far", "(II)I"⟩
abbrev cX10_beside : ByteArray := prog_12_method_36_code
def yX10_beside : MethodName := ⟨RX10, "beside", "(II)I"⟩
abbrev cX10_against : ByteArray := prog_12_method_37_code
def yX10_against : MethodName := ⟨RX10, "against", "(I)I"⟩
abbrev cX10_gainBy : ByteArray := prog_12_method_38_code
def yX10_gainBy : MethodName := ⟨RX10, "gainBy", "(III)I"⟩
abbrev cX10_gainOn : ByteArray := prog_12_method_39_code
def yX10_gainOn : MethodName := ⟨RX10, "gainOn", "(II)I"⟩
abbrev cX10_all : ByteArray := prog_12_method_40_code
def yX10_all : MethodName := ⟨RX10, "all", "(I)I"⟩
abbrev cX10_canBe : ByteArray := prog_12_method_41_code
def yX10_canBe : MethodName := ⟨RX10, "canBe", "(III)Z"⟩
abbrev cX10_voteOn : ByteArray := prog_12_method_42_code
def yX10_voteOn : MethodName := ⟨RX10, "voteOn", "(III)I"⟩
abbrev cX10_layCounts : ByteArray := prog_12_method_43_code
def yX10_layCounts : MethodName := ⟨RX10, "layCounts", "(IIIII)V"⟩
abbrev cX10_carried : ByteArray := prog_12_method_44_code
def yX10_carried : MethodName := ⟨RX10, "carried", "()I"⟩
abbrev cX10_everybody : ByteArray := prog_12_method_45_code
def yX10_everybody : MethodName := ⟨RX10, "everybody", "()I"⟩
abbrev cX10_carriedFrom : ByteArray := prog_12_method_46_code
def yX10_carriedFrom : MethodName := ⟨RX10, "carriedFrom", "(II)I"⟩
abbrev cX10_passes : ByteArray := prog_12_method_47_code
def yX10_passes : MethodName := ⟨RX10, "passes", "([I)V"⟩
abbrev cX10_copyNow : ByteArray := prog_12_method_48_code
def yX10_copyNow : MethodName := ⟨RX10, "copyNow", "()V"⟩
abbrev cX10_oneTells : ByteArray := prog_12_method_49_code
def yX10_oneTells : MethodName := ⟨RX10, "oneTells", "(II)I"⟩
abbrev cX10_one : ByteArray := prog_12_method_50_code
def yX10_one : MethodName := ⟨RX10, "one", "(II)I"⟩
abbrev cX10_silent : ByteArray := prog_12_method_51_code
def yX10_silent : MethodName := ⟨RX10, "silent", "(I)I"⟩
abbrev cX10_cellsOf : ByteArray := prog_12_method_52_code
def yX10_cellsOf : MethodName := ⟨RX10, "cellsOf", "(I)I"⟩
abbrev cX10_mark : ByteArray := prog_12_method_53_code
def yX10_mark : MethodName := ⟨RX10, "mark", "(II)I"⟩
abbrev cX10_gain : ByteArray := prog_12_method_54_code
def yX10_gain : MethodName := ⟨RX10, "gain", "(II)I"⟩
abbrev cX10_remember : ByteArray := prog_12_method_55_code
def yX10_remember : MethodName := ⟨RX10, "remember", "()V"⟩
abbrev cX10_year : ByteArray := prog_12_method_56_code
def yX10_year : MethodName := ⟨RX10, "year", "()I"⟩
abbrev cX10_push : ByteArray := prog_12_method_57_code
def yX10_push : MethodName := ⟨RX10, "push", "(I)I"⟩
abbrev cX10_house : ByteArray := prog_12_method_58_code
def yX10_house : MethodName := ⟨RX10, "house", "(II)I"⟩
abbrev cX10_undo : ByteArray := prog_12_method_59_code
def yX10_undo : MethodName := ⟨RX10, "undo", "(I)I"⟩
abbrev cX10_keep : ByteArray := prog_12_method_60_code
def yX10_keep : MethodName := ⟨RX10, "keep", "(I)I"⟩
abbrev cX10_on : ByteArray := prog_12_method_61_code
def yX10_on : MethodName := ⟨RX10, "on", "(I)I"⟩
abbrev cX10_need : ByteArray := prog_12_method_62_code
def yX10_need : MethodName := ⟨RX10, "need", "(Z)I"⟩
abbrev cX10_votes : ByteArray := prog_12_method_63_code
def yX10_votes : MethodName := ⟨RX10, "votes", "(I)I"⟩
abbrev cX10_carries : ByteArray := prog_12_method_64_code
def yX10_carries : MethodName := ⟨RX10, "carries", "()I"⟩
abbrev cX10_hearthsOf : ByteArray := prog_12_method_65_code
def yX10_hearthsOf : MethodName := ⟨RX10, "hearthsOf", "(I)I"⟩
abbrev cX10_buy : ByteArray := prog_12_method_66_code
def yX10_buy : MethodName := ⟨RX10, "buy", "(I)I"⟩
abbrev cX10_then : ByteArray := prog_12_method_67_code
def yX10_then : MethodName := ⟨RX10, "then", "(I)I"⟩
abbrev cX10_when : ByteArray := prog_12_method_68_code
def yX10_when : MethodName := ⟨RX10, "when", "(I)I"⟩
abbrev cX10_round : ByteArray := prog_12_method_69_code
def yX10_round : MethodName := ⟨RX10, "round", "()I"⟩
abbrev cX10_gainedBy : ByteArray := prog_12_method_70_code
def yX10_gainedBy : MethodName := ⟨RX10, "gainedBy", "(II)I"⟩
abbrev cX10_course : ByteArray := prog_12_method_71_code
def yX10_course : MethodName := ⟨RX10, "course", "(II)I"⟩
abbrev cX10_needPairs : ByteArray := prog_12_method_72_code
def yX10_needPairs : MethodName := ⟨RX10, "needPairs", "(IZZ)I"⟩
abbrev cX10_fitSet : ByteArray := prog_12_method_73_code
def yX10_fitSet : MethodName := ⟨RX10, "fitSet", "(I)I"⟩
abbrev cX10_fits : ByteArray := prog_12_method_74_code
def yX10_fits : MethodName := ⟨RX10, "fits", "(I)I"⟩
abbrev cX10_alike : ByteArray := prog_12_method_75_code
def yX10_alike : MethodName := ⟨RX10, "alike", "(II)I"⟩
abbrev cX10_next : ByteArray := prog_12_method_76_code
def yX10_next : MethodName := ⟨RX10, "next", "(I)I"⟩
abbrev cX10_kindSet : ByteArray := prog_12_method_77_code
def yX10_kindSet : MethodName := ⟨RX10, "kindSet", "(II)I"⟩
abbrev cX10_kinds : ByteArray := prog_12_method_78_code
def yX10_kinds : MethodName := ⟨RX10, "kinds", "(II)I"⟩
abbrev cX10_alikeKinds : ByteArray := prog_12_method_79_code
def yX10_alikeKinds : MethodName := ⟨RX10, "alikeKinds", "(III)I"⟩
abbrev cX10_test : ByteArray := prog_12_method_80_code
def yX10_test : MethodName := ⟨RX10, "test", "(II)I"⟩
abbrev cX10_laySteps : ByteArray := prog_12_method_81_code
def yX10_laySteps : MethodName := ⟨RX10, "laySteps", "(II)V"⟩
abbrev cX10_way : ByteArray := prog_12_method_82_code
def yX10_way : MethodName := ⟨RX10, "way", "(II)I"⟩
abbrev cX10_parts : ByteArray := prog_12_method_83_code
def yX10_parts : MethodName := ⟨RX10, "parts", "(II)I"⟩
abbrev cX10_duel : ByteArray := prog_12_method_84_code
def yX10_duel : MethodName := ⟨RX10, "duel", "(I)I"⟩
abbrev cX10_layParts : ByteArray := prog_12_method_85_code
def yX10_layParts : MethodName := ⟨RX10, "layParts", "(II)V"⟩
abbrev cX10_odds : ByteArray := prog_12_method_86_code
def yX10_odds : MethodName := ⟨RX10, "odds", "(II)I"⟩
abbrev cX10_mid : ByteArray := prog_12_method_87_code
def yX10_mid : MethodName := ⟨RX10, "mid", "(I)I"⟩
abbrev cX10_lots : ByteArray := prog_12_method_88_code
def yX10_lots : MethodName := ⟨RX10, "lots", "(II)I"⟩
abbrev cX10_counted : ByteArray := prog_12_method_89_code
def yX10_counted : MethodName := ⟨RX10, "counted", "(I)I"⟩
abbrev cX10_count : ByteArray := prog_12_method_90_code
def yX10_count : MethodName := ⟨RX10, "count", "(I)I"⟩
abbrev cX10_mix : ByteArray := prog_12_method_91_code
def yX10_mix : MethodName := ⟨RX10, "mix", "(J)V"⟩
abbrev cX10_mixLand : ByteArray := prog_12_method_92_code
def yX10_mixLand : MethodName := ⟨RX10, "mixLand", "()V"⟩
abbrev cX10_digest : ByteArray := prog_12_method_93_code
def yX10_digest : MethodName := ⟨RX10, "digest", "()J"⟩
def RJ6 : String := "java/lang/Integer"
def TJ6 : u_T := fun k => match k with
  | _ => ("", "", "", false)
def tyJ6 : Nat → FieldType := fun k => match k with
  | _ => .int
abbrev wsJ60 : List Cond := u_ws RJ6 TJ6 0
theorem nmJ6 : ∀ a, a < 0 → ∀ b, b < 0 → a ≠ b → (TJ6 a).2.1 ≠ (TJ6 b).2.1 := by decide +kernel
theorem tyJ6_ok : ∀ k, k < 0 → parseFieldDescriptor (TJ6 k).2.2.1 = some (tyJ6 k) := by decide +kernel
abbrev cJ6_bitCount_0f7a4 : ByteArray := prog_13_method_49_code
def yJ6_bitCount_0f7a4 : MethodName := ⟨RJ6, "bitCount", "(I)I"⟩
def RJ9 : String := "java/lang/Math"
def TJ9 : u_T := fun k => match k with
  | _ => ("", "", "", false)
def tyJ9 : Nat → FieldType := fun k => match k with
  | _ => .int
abbrev wsJ90 : List Cond := u_ws RJ9 TJ9 0
theorem nmJ9 : ∀ a, a < 0 → ∀ b, b < 0 → a ≠ b → (TJ9 a).2.1 ≠ (TJ9 b).2.1 := by decide +kernel
theorem tyJ9_ok : ∀ k, k < 0 → parseFieldDescriptor (TJ9 k).2.2.1 = some (tyJ9 k) := by decide +kernel
abbrev cJ9_abs_0f7a4 : ByteArray := prog_14_method_59_code
def yJ9_abs_0f7a4 : MethodName := ⟨RJ9, "abs", "(I)I"⟩
abbrev cJ9_max_7cf53 : ByteArray := prog_14_method_65_code
def yJ9_max_7cf53 : MethodName := ⟨RJ9, "max", "(II)I"⟩
abbrev cJ9_min_7cf53 : ByteArray := prog_14_method_69_code
def yJ9_min_7cf53 : MethodName := ⟨RJ9, "min", "(II)I"⟩
def RJ10 : String := "java/lang/System"
def TJ10 : u_T := fun k => match k with
  | _ => ("", "", "", false)
def tyJ10 : Nat → FieldType := fun k => match k with
  | _ => .int
abbrev wsJ100 : List Cond := u_ws RJ10 TJ10 0
theorem nmJ10 : ∀ a, a < 0 → ∀ b, b < 0 → a ≠ b → (TJ10 a).2.1 ≠ (TJ10 b).2.1 := by decide +kernel
theorem tyJ10_ok : ∀ k, k < 0 → parseFieldDescriptor (TJ10 k).2.2.1 = some (tyJ10 k) := by decide +kernel
def RL : String := "VotedHillLaw"
abbrev cL_law : ByteArray := code
def yL_law : MethodName := ⟨RL, "law", "([I)Z"⟩
def wsL_law_r1 : List Cond := [Cond.classLink RL 7 RX9, Cond.instantiable RX9 15, Cond.initialized RX9, Cond.classLink RL 10 RX10, Cond.instantiable RX10 38, Cond.initialized RX10, Cond.methodLink RL 9 yX9_init, Cond.instanceMethod yX9_init, Cond.code yX9_init cX9_init 2 none, Cond.methodLink RX9 1 objectInit, Cond.instanceMethod objectInit, Cond.code objectInit ⟨#[0xb1]⟩ 1 none, Cond.classLink RX9 9 RX7, Cond.fieldLink RX9 11 "VotedHill" "rows" "[LVotedHill$Strip;", Cond.fieldLink RX9 15 "VotedHill" "texts" "[LVotedHill$Strip;", Cond.classLink RX9 18 RX3, Cond.instantiable RX3 15, Cond.initialized RX3, Cond.fieldLink RX9 21 "VotedHill" "land" "LVotedHill$Land;", Cond.fieldLink RX9 25 "VotedHill" "draft" "LVotedHill$Land;", Cond.fieldLink RX9 28 "VotedHill" "kept" "[LVotedHill$Land;", Cond.classLink RX9 32 RX6, Cond.instantiable RX6 2, Cond.initialized RX6]
def wsL_law_r2 : List Cond := [Cond.fieldLink RX9 35 "VotedHill" "reader" "LVotedHill$Reader;", Cond.classLink RX9 39 RX0, Cond.instantiable RX0 2, Cond.initialized RX0, Cond.fieldLink RX9 42 "VotedHill" "ballot" "LVotedHill$Ballot;", Cond.classLink RX9 46 RX8, Cond.instantiable RX8 4, Cond.initialized RX8, Cond.fieldLink RX9 49 "VotedHill" "years" "LVotedHill$Years;", Cond.classLink RX9 53 RX5, Cond.instantiable RX5 3, Cond.initialized RX5, Cond.fieldLink RX9 56 "VotedHill" "plans" "LVotedHill$Plans;", Cond.classLink RX9 60 RX2, Cond.instantiable RX2 2, Cond.initialized RX2, Cond.fieldLink RX9 63 "VotedHill" "clues" "LVotedHill$Clues;", Cond.classLink RX9 67 RX4, Cond.instantiable RX4 2, Cond.initialized RX4, Cond.fieldLink RX9 70 "VotedHill" "paths" "LVotedHill$Paths;", Cond.classLink RX9 74 RX1, Cond.instantiable RX1 4, Cond.initialized RX1]
def wsL_law_r3 : List Cond := [Cond.fieldLink RX9 77 "VotedHill" "chance" "LVotedHill$Chance;", Cond.arrayClass .int, Cond.fieldLink RX9 81 "VotedHill" "found" "[I", Cond.fieldLink RX9 85 "VotedHill" "latestFinding" "I", Cond.fieldLink RX9 89 "VotedHill" "told" "I", Cond.instantiable RX7 2, Cond.initialized RX7, Cond.instanceMethod yX3_init, Cond.code yX3_init cX3_init 1 none, Cond.methodLink RX3 1 objectInit, Cond.fieldLink RX3 7 "VotedHill$Land" "columns" "I", Cond.fieldLink RX3 13 "VotedHill$Land" "lines" "I", Cond.fieldLink RX3 16 "VotedHill$Land" "people" "I", Cond.fieldLink RX3 19 "VotedHill$Land" "mountain" "I", Cond.fieldLink RX3 22 "VotedHill$Land" "back" "I", Cond.fieldLink RX3 25 "VotedHill$Land" "years" "I", Cond.fieldLink RX3 28 "VotedHill$Land" "deeds" "I", Cond.fieldLink RX3 31 "VotedHill$Land" "kind" "[I", Cond.fieldLink RX3 35 "VotedHill$Land" "house" "[I", Cond.fieldLink RX3 38 "VotedHill$Land" "hearths" "[I", Cond.fieldLink RX3 41 "VotedHill$Land" "oldMountain" "[I", Cond.fieldLink RX3 44 "VotedHill$Land" "oldBack" "[I", Cond.fieldLink RX3 47 "VotedHill$Land" "oldYears" "[I", Cond.fieldLink RX3 50 "VotedHill$Land" "movedOne" "[I"]
def wsL_law_r4 : List Cond := [Cond.fieldLink RX3 53 "VotedHill$Land" "oldHouse" "[I", Cond.instanceMethod yX6_init, Cond.code yX6_init cX6_init 1 none, Cond.methodLink RX6 3 objectInit, Cond.fieldLink RX6 9 "VotedHill$Reader" "source" "LVotedHill$Strip;", Cond.fieldLink RX6 15 "VotedHill$Reader" "place" "I", Cond.instanceMethod yX0_init, Cond.code yX0_init cX0_init 1 none, Cond.methodLink RX0 3 objectInit, Cond.fieldLink RX0 11 "VotedHill$Ballot" "choices" "[I", Cond.fieldLink RX0 17 "VotedHill$Ballot" "heaps" "[I", Cond.instanceMethod yX8_init, Cond.code yX8_init cX8_init 1 none, Cond.methodLink RX8 5 objectInit, Cond.fieldLink RX8 11 "VotedHill$Years" "cell" "I", Cond.fieldLink RX8 17 "VotedHill$Years" "period" "I", Cond.fieldLink RX8 20 "VotedHill$Years" "back" "I", Cond.fieldLink RX8 23 "VotedHill$Years" "seenIn" "[I", Cond.instanceMethod yX5_init, Cond.code yX5_init cX5_init 1 none, Cond.methodLink RX5 5 objectInit, Cond.fieldLink RX5 11 "VotedHill$Plans" "worths" "[I", Cond.classLink RX5 17 "[[I", Cond.fieldLink RX5 19 "VotedHill$Plans" "bests" "[[I"]
def wsL_law_r5 : List Cond := [Cond.fieldLink RX5 22 "VotedHill$Plans" "duels" "[[I", Cond.instanceMethod yX2_init, Cond.code yX2_init cX2_init 1 none, Cond.methodLink RX2 1 objectInit, Cond.fieldLink RX2 7 "VotedHill$Clues" "leastPart" "I", Cond.fieldLink RX2 13 "VotedHill$Clues" "tally" "[I", Cond.instanceMethod yX4_init, Cond.code yX4_init cX4_init 1 none, Cond.methodLink RX4 1 objectInit, Cond.fieldLink RX4 9 "VotedHill$Paths" "steps" "[I", Cond.fieldLink RX4 15 "VotedHill$Paths" "queue" "[I", Cond.instanceMethod yX1_init, Cond.code yX1_init cX1_init 1 none, Cond.methodLink RX1 3 objectInit, Cond.fieldLink RX1 9 "VotedHill$Chance" "upperNumber" "J", Cond.fieldLink RX1 15 "VotedHill$Chance" "lowerNumber" "J", Cond.arrayClass .long, Cond.fieldLink RX1 20 "VotedHill$Chance" "weights" "[J", Cond.fieldLink RX1 24 "VotedHill$Chance" "allWeight" "J", Cond.methodLink RX9 92 yX7_init, Cond.instanceMethod yX7_init, Cond.code yX7_init cX7_init 2 none, Cond.methodLink RX7 1 objectInit, Cond.fieldLink RX7 9 "VotedHill$Strip" "size" "I"]
def wsL_law_r6 : List Cond := [Cond.methodLink RX7 13 Lib.Math.max.name, Cond.static Lib.Math.max.name, Cond.initialized "java/lang/Math", Cond.code Lib.Math.max.name Lib.Math.max.code 2 (some .int), Cond.fieldLink RX7 19 "VotedHill$Strip" "places" "[I", Cond.methodLink RL 12 yX10_init, Cond.instanceMethod yX10_init, Cond.code yX10_init cX10_init 2 none, Cond.methodLink RX10 1 objectInit, Cond.fieldLink RX10 7 "VotedHillModel" "came" "[I", Cond.fieldLink RX10 13 "VotedHillModel" "lower" "J", Cond.fieldLink RX10 17 "VotedHillModel" "sizes" "[I", Cond.fieldLink RX10 20 "VotedHillModel" "rows" "[I", Cond.fieldLink RX10 23 "VotedHillModel" "copied" "[I", Cond.fieldLink RX10 26 "VotedHillModel" "textSizes" "[I", Cond.arrayClass .byte, Cond.fieldLink RX10 29 "VotedHillModel" "bytes" "[B", Cond.fieldLink RX10 33 "VotedHillModel" "kindOf" "[I", Cond.fieldLink RX10 36 "VotedHillModel" "hearths" "[I", Cond.fieldLink RX10 39 "VotedHillModel" "now" "[I", Cond.fieldLink RX10 42 "VotedHillModel" "tried" "[I", Cond.fieldLink RX10 45 "VotedHillModel" "readHead" "[I", Cond.fieldLink RX10 48 "VotedHillModel" "readOne" "[I", Cond.fieldLink RX10 51 "VotedHillModel" "counts" "[I"]
def wsL_law_r7 : List Cond := [Cond.fieldLink RX10 54 "VotedHillModel" "log" "[I", Cond.arrayClass .boolean, Cond.fieldLink RX10 57 "VotedHillModel" "isKept" "[Z", Cond.fieldLink RX10 61 "VotedHillModel" "keptMany" "[I", Cond.fieldLink RX10 64 "VotedHillModel" "keptNow" "[I", Cond.fieldLink RX10 67 "VotedHillModel" "keptLog" "[I", Cond.fieldLink RX10 70 "VotedHillModel" "met" "[I", Cond.fieldLink RX10 73 "VotedHillModel" "ways" "[I", Cond.fieldLink RX10 76 "VotedHillModel" "steps" "[I", Cond.fieldLink RX10 79 "VotedHillModel" "ends" "[I", Cond.fieldLink RX10 82 "VotedHillModel" "ahead" "[I", Cond.methodLink RL 13 yX9_row, Cond.instanceMethod yX9_row, Cond.selects RX9 yX9_row yX9_row, Cond.code yX9_row cX9_row 3 (some .int), Cond.methodLink RX9 95 yX9_isRow, Cond.static yX9_isRow, Cond.code yX9_isRow cX9_isRow 1 (some .boolean), Cond.methodLink RX9 99 yX9_refuse, Cond.instanceMethod yX9_refuse, Cond.selects RX9 yX9_refuse yX9_refuse, Cond.code yX9_refuse cX9_refuse 2 (some .int), Cond.methodLink RX9 103 yX7_renew, Cond.instanceMethod yX7_renew]
def wsL_law_r8 : List Cond := [Cond.selects RX7 yX7_renew yX7_renew, Cond.code yX7_renew cX7_renew 4 none, Cond.methodLink RX7 23 Lib.Math.min.name, Cond.static Lib.Math.min.name, Cond.code Lib.Math.min.name Lib.Math.min.code 2 (some .int), Cond.methodLink RL 17 yX10_row, Cond.instanceMethod yX10_row, Cond.selects RX10 yX10_row yX10_row, Cond.code yX10_row cX10_row 4 (some .int), Cond.methodLink RX10 99 yX10_isRow, Cond.static yX10_isRow, Cond.code yX10_isRow cX10_isRow 1 (some .boolean), Cond.methodLink RX10 89 yX10_in, Cond.static yX10_in, Cond.code yX10_in cX10_in 3 (some .boolean), Cond.methodLink RX10 103 yX10_meets, Cond.instanceMethod yX10_meets, Cond.selects RX10 yX10_meets yX10_meets, Cond.code yX10_meets cX10_meets 2 (some .int), Cond.fieldLink RX10 85 "VotedHillModel" "latest" "I", Cond.methodLink RL 18 yX9_lay, Cond.instanceMethod yX9_lay, Cond.selects RX9 yX9_lay yX9_lay, Cond.code yX9_lay cX9_lay 5 (some .int)]
def wsL_law_r9 : List Cond := [Cond.fieldLink RX9 111 "VotedHill$Strip" "places" "[I", Cond.methodLink RX9 107 yX9_placeRefusal, Cond.instanceMethod yX9_placeRefusal, Cond.selects RX9 yX9_placeRefusal yX9_placeRefusal, Cond.code yX9_placeRefusal cX9_placeRefusal 3 (some .int), Cond.fieldLink RX9 131 "VotedHill$Strip" "size" "I", Cond.methodLink RX9 114 yX7_isMissing, Cond.instanceMethod yX7_isMissing, Cond.selects RX7 yX7_isMissing yX7_isMissing, Cond.code yX7_isMissing cX7_isMissing 1 (some .boolean), Cond.methodLink RL 22 yX10_lay, Cond.instanceMethod yX10_lay, Cond.selects RX10 yX10_lay yX10_lay, Cond.code yX10_lay cX10_lay 5 (some .int), Cond.methodLink RX10 107 yX10_rowAt, Cond.instanceMethod yX10_rowAt, Cond.selects RX10 yX10_rowAt yX10_rowAt, Cond.code yX10_rowAt cX10_rowAt 3 (some .int), Cond.methodLink RX10 111 yX10_tells, Cond.instanceMethod yX10_tells, Cond.selects RX10 yX10_tells yX10_tells, Cond.code yX10_tells cX10_tells 3 (some .int), Cond.fieldLink RX10 93 "VotedHillModel" "asked" "I", Cond.methodLink RL 23 yX9_at]
def wsL_law_r10 : List Cond := [Cond.instanceMethod yX9_at, Cond.selects RX9 yX9_at yX9_at, Cond.code yX9_at cX9_at 4 (some .int), Cond.methodLink RL 26 yX10_at, Cond.instanceMethod yX10_at, Cond.selects RX10 yX10_at yX10_at, Cond.code yX10_at cX10_at 3 (some .int), Cond.methodLink RL 27 yX9_tear, Cond.instanceMethod yX9_tear, Cond.selects RX9 yX9_tear yX9_tear, Cond.code yX9_tear cX9_tear 2 (some .int), Cond.methodLink RX9 118 yX7_remove, Cond.instanceMethod yX7_remove, Cond.selects RX7 yX7_remove yX7_remove, Cond.code yX7_remove cX7_remove 1 none, Cond.methodLink RL 31 yX10_tear, Cond.instanceMethod yX10_tear, Cond.selects RX10 yX10_tear yX10_tear, Cond.code yX10_tear cX10_tear 2 (some .int), Cond.methodLink RL 32 yX9_copy, Cond.instanceMethod yX9_copy, Cond.selects RX9 yX9_copy yX9_copy, Cond.code yX9_copy cX9_copy 6 (some .int), Cond.methodLink RX9 125 arraycopyName]
def wsL_law_r11 : List Cond := [Cond.native arraycopyName, Cond.static arraycopyName, Cond.initialized "java/lang/System", Cond.methodLink RX9 121 yX7_holds, Cond.instanceMethod yX7_holds, Cond.selects RX7 yX7_holds yX7_holds, Cond.code yX7_holds cX7_holds 3 (some .boolean), Cond.methodLink RL 36 yX10_copy, Cond.instanceMethod yX10_copy, Cond.selects RX10 yX10_copy yX10_copy, Cond.code yX10_copy cX10_copy 7 (some .int), Cond.methodLink RL 37 yX9_mean, Cond.instanceMethod yX9_mean, Cond.selects RX9 yX9_mean yX9_mean, Cond.code yX9_mean cX9_mean 6 (some .int), Cond.methodLink RL 40 yX10_mean, Cond.instanceMethod yX10_mean, Cond.selects RX10 yX10_mean yX10_mean, Cond.code yX10_mean cX10_mean 5 (some .int), Cond.methodLink RL 41 yX9_text, Cond.instanceMethod yX9_text, Cond.selects RX9 yX9_text yX9_text, Cond.code yX9_text cX9_text 3 (some .int), Cond.methodLink RX9 134 yX9_isText]
def wsL_law_r12 : List Cond := [Cond.static yX9_isText, Cond.code yX9_isText cX9_isText 1 (some .boolean), Cond.methodLink RL 44 yX10_text, Cond.instanceMethod yX10_text, Cond.selects RX10 yX10_text yX10_text, Cond.code yX10_text cX10_text 4 (some .int), Cond.methodLink RX10 114 yX10_isText, Cond.static yX10_isText, Cond.code yX10_isText cX10_isText 1 (some .boolean), Cond.methodLink RL 45 yX9_put, Cond.instanceMethod yX9_put, Cond.selects RX9 yX9_put yX9_put, Cond.code yX9_put cX9_put 6 (some .int), Cond.methodLink RL 48 yX10_put, Cond.instanceMethod yX10_put, Cond.selects RX10 yX10_put yX10_put, Cond.code yX10_put cX10_put 5 (some .int), Cond.methodLink RL 49 yX9_fault, Cond.instanceMethod yX9_fault, Cond.selects RX9 yX9_fault yX9_fault, Cond.code yX9_fault cX9_fault 2 (some .int), Cond.methodLink RX9 137 yX6_readLand, Cond.instanceMethod yX6_readLand, Cond.selects RX6 yX6_readLand yX6_readLand]
def wsL_law_r13 : List Cond := [Cond.code yX6_readLand cX6_readLand 4 (some .int), Cond.fieldLink RX6 38 "VotedHill$Land" "people" "I", Cond.methodLink RX6 19 yX3_clear, Cond.instanceMethod yX3_clear, Cond.selects RX3 yX3_clear yX3_clear, Cond.code yX3_clear cX3_clear 1 none, Cond.methodLink RX6 24 yX6_readGround, Cond.instanceMethod yX6_readGround, Cond.selects RX6 yX6_readGround yX6_readGround, Cond.code yX6_readGround cX6_readGround 6 (some .boolean), Cond.fieldLink RX6 49 "VotedHill$Land" "columns" "I", Cond.fieldLink RX6 52 "VotedHill$Land" "lines" "I", Cond.fieldLink RX6 55 "VotedHill$Land" "mountain" "I", Cond.methodLink RX6 28 yX6_skipBlanks, Cond.instanceMethod yX6_skipBlanks, Cond.selects RX6 yX6_skipBlanks yX6_skipBlanks, Cond.code yX6_skipBlanks cX6_skipBlanks 2 none, Cond.methodLink RX6 31 yX6_atEnd, Cond.instanceMethod yX6_atEnd, Cond.selects RX6 yX6_atEnd yX6_atEnd, Cond.code yX6_atEnd cX6_atEnd 1 (some .boolean), Cond.fieldLink RX6 70 "VotedHill$Strip" "size" "I", Cond.methodLink RX6 41 yX6_sign, Cond.instanceMethod yX6_sign]
def wsL_law_r14 : List Cond := [Cond.selects RX6 yX6_sign yX6_sign, Cond.code yX6_sign cX6_sign 1 (some .int), Cond.fieldLink RX6 75 "VotedHill$Strip" "places" "[I", Cond.methodLink RX6 45 yX6_figure, Cond.instanceMethod yX6_figure, Cond.selects RX6 yX6_figure yX6_figure, Cond.code yX6_figure cX6_figure 4 (some .int), Cond.methodLink RX6 35 yX6_readOne, Cond.instanceMethod yX6_readOne, Cond.selects RX6 yX6_readOne yX6_readOne, Cond.code yX6_readOne cX6_readOne 6 (some .boolean), Cond.methodLink RX6 58 yX6_kindOf, Cond.static yX6_kindOf, Cond.code yX6_kindOf cX6_kindOf 2 (some .int), Cond.fieldLink RX6 66 "VotedHill$Reader" "KIND_LETTERS" "[C", Cond.methodLink RX6 62 yX3_settle, Cond.instanceMethod yX3_settle, Cond.selects RX3 yX3_settle yX3_settle, Cond.code yX3_settle cX3_settle 4 none, Cond.methodLink RL 52 yX10_fault, Cond.instanceMethod yX10_fault, Cond.selects RX10 yX10_fault yX10_fault, Cond.code yX10_fault cX10_fault 2 (some .int), Cond.methodLink RX10 143 yX10_faultOf]
def wsL_law_r15 : List Cond := [Cond.instanceMethod yX10_faultOf, Cond.selects RX10 yX10_faultOf yX10_faultOf, Cond.code yX10_faultOf cX10_faultOf 2 (some .int), Cond.fieldLink RX10 117 "VotedHillModel" "readAt" "I", Cond.fieldLink RX10 134 "VotedHillModel" "readMany" "I", Cond.fieldLink RX10 127 "VotedHillModel" "isHead" "Z", Cond.methodLink RX10 120 yX10_byteAt, Cond.instanceMethod yX10_byteAt, Cond.selects RX10 yX10_byteAt yX10_byteAt, Cond.code yX10_byteAt cX10_byteAt 3 (some .int), Cond.methodLink RX10 137 yX10_readsOne, Cond.instanceMethod yX10_readsOne, Cond.selects RX10 yX10_readsOne yX10_readsOne, Cond.code yX10_readsOne cX10_readsOne 5 (some .boolean), Cond.methodLink RX10 131 yX10_kindBy, Cond.static yX10_kindBy, Cond.code yX10_kindBy cX10_kindBy 1 (some .int), Cond.methodLink RX10 123 yX10_figure, Cond.instanceMethod yX10_figure, Cond.selects RX10 yX10_figure yX10_figure, Cond.code yX10_figure cX10_figure 5 (some .int), Cond.methodLink RX10 140 yX10_readsHead, Cond.instanceMethod yX10_readsHead, Cond.selects RX10 yX10_readsHead yX10_readsHead]
def wsL_law_r16 : List Cond := [Cond.code yX10_readsHead cX10_readsHead 3 (some .boolean), Cond.methodLink RL 53 yX9_land, Cond.instanceMethod yX9_land, Cond.selects RX9 yX9_land yX9_land, Cond.code yX9_land cX9_land 3 (some .int), Cond.fieldLink RX9 148 "VotedHill$Land" "people" "I", Cond.methodLink RX9 141 yX3_become, Cond.instanceMethod yX3_become, Cond.selects RX3 yX3_become yX3_become, Cond.code yX3_become cX3_become 2 none, Cond.methodLink RX3 56 arraycopyName, Cond.methodLink RX9 145 yX3_clear, Cond.methodLink RL 56 yX10_land, Cond.instanceMethod yX10_land, Cond.selects RX10 yX10_land yX10_land, Cond.code yX10_land cX10_land 3 (some .int), Cond.fieldLink RX10 146 "VotedHillModel" "n" "I", Cond.fieldLink RX10 149 "VotedHillModel" "columns" "I", Cond.fieldLink RX10 152 "VotedHillModel" "lines" "I", Cond.fieldLink RX10 155 "VotedHillModel" "deedMany" "I", Cond.methodLink RL 57 yX9_one, Cond.instanceMethod yX9_one, Cond.selects RX9 yX9_one yX9_one, Cond.code yX9_one cX9_one 3 (some .int)]
def wsL_law_r17 : List Cond := [Cond.methodLink RX9 151 yX3_hasOne, Cond.instanceMethod yX3_hasOne, Cond.selects RX3 yX3_hasOne yX3_hasOne, Cond.code yX3_hasOne cX3_hasOne 2 (some .boolean), Cond.methodLink RX9 154 yX9_aboutOne, Cond.instanceMethod yX9_aboutOne, Cond.selects RX9 yX9_aboutOne yX9_aboutOne, Cond.code yX9_aboutOne cX9_aboutOne 3 (some .int), Cond.fieldLink RX9 368 "VotedHill$Land" "kind" "[I", Cond.fieldLink RX9 167 "VotedHill$Land" "house" "[I", Cond.fieldLink RX9 371 "VotedHill$Land" "hearths" "[I", Cond.fieldLink RX9 161 "VotedHill$Land" "mountain" "I", Cond.fieldLink RX9 219 "VotedHill$Land" "back" "I", Cond.methodLink RX9 176 yX3_gains, Cond.instanceMethod yX3_gains, Cond.selects RX3 yX3_gains yX3_gains, Cond.code yX3_gains cX3_gains 3 (some .int), Cond.methodLink RX3 82 yX3_far, Cond.instanceMethod yX3_far, Cond.selects RX3 yX3_far yX3_far, Cond.code yX3_far cX3_far 3 (some .int), Cond.methodLink RX3 66 Lib.Math.abs.name, Cond.static Lib.Math.abs.name, Cond.code Lib.Math.abs.name Lib.Math.abs.code 1 (some .int)]
def wsL_law_r18 : List Cond := [Cond.methodLink RX3 85 yX3_liesNorth, Cond.instanceMethod yX3_liesNorth, Cond.selects RX3 yX3_liesNorth yX3_liesNorth, Cond.code yX3_liesNorth cX3_liesNorth 3 (some .boolean), Cond.methodLink RX3 89 yX3_gainOf, Cond.static yX3_gainOf, Cond.code yX3_gainOf cX3_gainOf 3 (some .int), Cond.methodLink RX9 374 yX0_choiceOf, Cond.static yX0_choiceOf, Cond.code yX0_choiceOf cX0_choiceOf 10 (some .int), Cond.methodLink RX0 32 yX3_gains, Cond.methodLink RX0 36 yX3_canGo, Cond.instanceMethod yX3_canGo, Cond.selects RX3 yX3_canGo yX3_canGo, Cond.code yX3_canGo cX3_canGo 4 (some .boolean), Cond.methodLink RX3 72 yX3_beside, Cond.instanceMethod yX3_beside, Cond.selects RX3 yX3_beside yX3_beside, Cond.code yX3_beside cX3_beside 5 (some .int), Cond.methodLink RX0 40 yX3_beside, Cond.methodLink RX0 43 yX3_isOf, Cond.instanceMethod yX3_isOf, Cond.selects RX3 yX3_isOf yX3_isOf, Cond.code yX3_isOf cX3_isOf 3 (some .boolean)]
def wsL_law_r19 : List Cond := [Cond.fieldLink RX3 79 "VotedHill$Land" "WIDER_KIND" "[I", Cond.methodLink RL 60 yX10_one, Cond.instanceMethod yX10_one, Cond.selects RX10 yX10_one yX10_one, Cond.code yX10_one cX10_one 3 (some .int), Cond.methodLink RX10 200 yX10_isOne, Cond.instanceMethod yX10_isOne, Cond.selects RX10 yX10_isOne yX10_isOne, Cond.code yX10_isOne cX10_isOne 2 (some .boolean), Cond.methodLink RX10 203 yX10_oneTells, Cond.instanceMethod yX10_oneTells, Cond.selects RX10 yX10_oneTells yX10_oneTells, Cond.code yX10_oneTells cX10_oneTells 3 (some .int), Cond.methodLink RX10 167 yX10_gainOn, Cond.instanceMethod yX10_gainOn, Cond.selects RX10 yX10_gainOn yX10_gainOn, Cond.code yX10_gainOn cX10_gainOn 3 (some .int), Cond.methodLink RX10 164 yX10_gainBy, Cond.instanceMethod yX10_gainBy, Cond.selects RX10 yX10_gainBy yX10_gainBy, Cond.code yX10_gainBy cX10_gainBy 5 (some .int), Cond.methodLink RX10 161 yX10_far, Cond.instanceMethod yX10_far, Cond.selects RX10 yX10_far yX10_far]
def wsL_law_r20 : List Cond := [Cond.code yX10_far cX10_far 3 (some .int), Cond.methodLink RX10 158 yX10_apart, Cond.static yX10_apart, Cond.code yX10_apart cX10_apart 2 (some .int), Cond.methodLink RX10 180 yX10_voteOn, Cond.instanceMethod yX10_voteOn, Cond.selects RX10 yX10_voteOn yX10_voteOn, Cond.code yX10_voteOn cX10_voteOn 8 (some .int), Cond.methodLink RX10 173 yX10_canBe, Cond.instanceMethod yX10_canBe, Cond.selects RX10 yX10_canBe yX10_canBe, Cond.code yX10_canBe cX10_canBe 4 (some .boolean), Cond.methodLink RX10 170 yX10_beside, Cond.instanceMethod yX10_beside, Cond.selects RX10 yX10_beside yX10_beside, Cond.code yX10_beside cX10_beside 3 (some .int), Cond.methodLink RL 61 yX9_mark, Cond.instanceMethod yX9_mark, Cond.selects RX9 yX9_mark yX9_mark, Cond.code yX9_mark cX9_mark 3 (some .int), Cond.methodLink RX9 183 Lib.Math.max.name, Cond.methodLink RX9 158 yX3_isOf, Cond.methodLink RX9 164 yX3_liesNorth, Cond.methodLink RX9 170 yX3_far]
def wsL_law_r21 : List Cond := [Cond.methodLink RX9 173 yX9_abstainersBeside, Cond.instanceMethod yX9_abstainersBeside, Cond.selects RX9 yX9_abstainersBeside yX9_abstainersBeside, Cond.code yX9_abstainersBeside cX9_abstainersBeside 4 (some .int), Cond.methodLink RX9 179 yX3_gainsAs, Cond.instanceMethod yX3_gainsAs, Cond.selects RX3 yX3_gainsAs yX3_gainsAs, Cond.code yX3_gainsAs cX3_gainsAs 4 (some .int), Cond.methodLink RX9 188 yX3_gainfulCells, Cond.instanceMethod yX3_gainfulCells, Cond.selects RX3 yX3_gainfulCells yX3_gainfulCells, Cond.code yX3_gainfulCells cX3_gainfulCells 4 (some .int), Cond.methodLink RX3 62 yX3_cells, Cond.instanceMethod yX3_cells, Cond.selects RX3 yX3_cells yX3_cells, Cond.code yX3_cells cX3_cells 1 (some .int), Cond.methodLink RX3 93 yX3_gains, Cond.methodLink RL 64 yX10_mark, Cond.instanceMethod yX10_mark, Cond.selects RX10 yX10_mark yX10_mark, Cond.code yX10_mark cX10_mark 6 (some .int), Cond.methodLink RX10 206 yX10_silent, Cond.instanceMethod yX10_silent, Cond.selects RX10 yX10_silent yX10_silent]
def wsL_law_r22 : List Cond := [Cond.code yX10_silent cX10_silent 4 (some .int), Cond.methodLink RX10 209 yX10_cellsOf, Cond.instanceMethod yX10_cellsOf, Cond.selects RX10 yX10_cellsOf yX10_cellsOf, Cond.code yX10_cellsOf cX10_cellsOf 4 (some .int), Cond.methodLink RL 65 yX9_gain, Cond.instanceMethod yX9_gain, Cond.selects RX9 yX9_gain yX9_gain, Cond.code yX9_gain cX9_gain 3 (some .int), Cond.methodLink RX9 191 yX3_hasCell, Cond.instanceMethod yX3_hasCell, Cond.selects RX3 yX3_hasCell yX3_hasCell, Cond.code yX3_hasCell cX3_hasCell 2 (some .boolean), Cond.methodLink RL 68 yX10_gain, Cond.instanceMethod yX10_gain, Cond.selects RX10 yX10_gain yX10_gain, Cond.code yX10_gain cX10_gain 3 (some .int), Cond.methodLink RX10 212 yX10_isCell, Cond.instanceMethod yX10_isCell, Cond.selects RX10 yX10_isCell yX10_isCell, Cond.code yX10_isCell cX10_isCell 2 (some .boolean), Cond.methodLink RL 69 yX9_year, Cond.instanceMethod yX9_year, Cond.selects RX9 yX9_year yX9_year]
def wsL_law_r23 : List Cond := [Cond.code yX9_year cX9_year 1 (some .int), Cond.fieldLink RX9 197 "VotedHill$Land" "deeds" "I", Cond.methodLink RX9 194 yX3_isEmpty, Cond.instanceMethod yX3_isEmpty, Cond.selects RX3 yX3_isEmpty yX3_isEmpty, Cond.code yX3_isEmpty cX3_isEmpty 1 (some .boolean), Cond.methodLink RX9 200 yX9_passYear, Cond.instanceMethod yX9_passYear, Cond.selects RX9 yX9_passYear yX9_passYear, Cond.code yX9_passYear cX9_passYear 2 (some .int), Cond.methodLink RX9 222 yX0_hold, Cond.instanceMethod yX0_hold, Cond.selects RX0 yX0_hold yX0_hold, Cond.code yX0_hold cX0_hold 5 none, Cond.fieldLink RX0 20 "VotedHill$Land" "people" "I", Cond.methodLink RX0 24 yX0_choiceOf, Cond.methodLink RX0 28 yX0_heap, Cond.instanceMethod yX0_heap, Cond.selects RX0 yX0_heap yX0_heap, Cond.code yX0_heap cX0_heap 6 none, Cond.fieldLink RX0 47 "VotedHill$Land" "hearths" "[I", Cond.methodLink RX9 236 yX0_winner, Cond.instanceMethod yX0_winner, Cond.selects RX0 yX0_winner yX0_winner]
def wsL_law_r24 : List Cond := [Cond.code yX0_winner cX0_winner 4 (some .int), Cond.methodLink RX9 377 yX3_goInYear, Cond.instanceMethod yX3_goInYear, Cond.selects RX3 yX3_goInYear yX3_goInYear, Cond.code yX3_goInYear cX3_goInYear 2 none, Cond.methodLink RX3 102 yX3_remember, Cond.instanceMethod yX3_remember, Cond.selects RX3 yX3_remember yX3_remember, Cond.code yX3_remember cX3_remember 2 (some .boolean), Cond.methodLink RX3 109 yX3_hasOne, Cond.methodLink RX3 106 yX3_against, Cond.static yX3_against, Cond.code yX3_against cX3_against 1 (some .int), Cond.fieldLink RX3 76 "VotedHill$Land" "AGAINST" "[I", Cond.methodLink RL 73 yX10_year, Cond.instanceMethod yX10_year, Cond.selects RX10 yX10_year yX10_year, Cond.code yX10_year cX10_year 2 (some .int), Cond.methodLink RX10 215 yX10_remember, Cond.instanceMethod yX10_remember, Cond.selects RX10 yX10_remember yX10_remember, Cond.code yX10_remember cX10_remember 2 none, Cond.methodLink RX10 194 yX10_carriedFrom, Cond.instanceMethod yX10_carriedFrom]
def wsL_law_r25 : List Cond := [Cond.selects RX10 yX10_carriedFrom yX10_carriedFrom, Cond.code yX10_carriedFrom cX10_carriedFrom 3 (some .int), Cond.methodLink RX10 183 yX10_everybody, Cond.instanceMethod yX10_everybody, Cond.selects RX10 yX10_everybody yX10_everybody, Cond.code yX10_everybody cX10_everybody 1 (some .int), Cond.methodLink RX10 187 yX10_layCounts, Cond.instanceMethod yX10_layCounts, Cond.selects RX10 yX10_layCounts yX10_layCounts, Cond.code yX10_layCounts cX10_layCounts 8 none, Cond.methodLink RX10 176 yX10_has, Cond.static yX10_has, Cond.code yX10_has cX10_has 2 (some .boolean), Cond.methodLink RX10 191 yX10_carried, Cond.instanceMethod yX10_carried, Cond.selects RX10 yX10_carried yX10_carried, Cond.code yX10_carried cX10_carried 4 (some .int), Cond.methodLink RX10 218 yX10_passes, Cond.instanceMethod yX10_passes, Cond.selects RX10 yX10_passes yX10_passes, Cond.code yX10_passes cX10_passes 3 none, Cond.methodLink RX10 197 yX10_against, Cond.static yX10_against, Cond.code yX10_against cX10_against 1 (some .int)]
def wsL_law_r26 : List Cond := [Cond.methodLink RL 74 yX9_push, Cond.instanceMethod yX9_push, Cond.selects RX9 yX9_push yX9_push, Cond.code yX9_push cX9_push 2 (some .int), Cond.methodLink RX9 204 yX3_beside, Cond.methodLink RX9 207 yX3_bePushed, Cond.instanceMethod yX3_bePushed, Cond.selects RX3 yX3_bePushed yX3_bePushed, Cond.code yX3_bePushed cX3_bePushed 3 none, Cond.methodLink RL 77 yX10_push, Cond.instanceMethod yX10_push, Cond.selects RX10 yX10_push yX10_push, Cond.code yX10_push cX10_push 2 (some .int), Cond.methodLink RL 78 yX9_house, Cond.instanceMethod yX9_house, Cond.selects RX9 yX9_house yX9_house, Cond.code yX9_house cX9_house 4 (some .int), Cond.methodLink RX9 210 yX3_moveHouse, Cond.instanceMethod yX3_moveHouse, Cond.selects RX3 yX3_moveHouse yX3_moveHouse, Cond.code yX3_moveHouse cX3_moveHouse 3 none, Cond.methodLink RL 81 yX10_house, Cond.instanceMethod yX10_house, Cond.selects RX10 yX10_house yX10_house]
def wsL_law_r27 : List Cond := [Cond.code yX10_house cX10_house 4 (some .int), Cond.methodLink RL 82 yX9_undo, Cond.instanceMethod yX9_undo, Cond.selects RX9 yX9_undo yX9_undo, Cond.code yX9_undo cX9_undo 3 (some .int), Cond.methodLink RX9 213 yX3_undoFrom, Cond.instanceMethod yX3_undoFrom, Cond.selects RX3 yX3_undoFrom yX3_undoFrom, Cond.code yX3_undoFrom cX3_undoFrom 3 none, Cond.methodLink RL 85 yX10_undo, Cond.instanceMethod yX10_undo, Cond.selects RX10 yX10_undo yX10_undo, Cond.code yX10_undo cX10_undo 4 (some .int), Cond.methodLink RL 86 yX9_keep, Cond.instanceMethod yX9_keep, Cond.selects RX9 yX9_keep yX9_keep, Cond.code yX9_keep cX9_keep 2 (some .int), Cond.methodLink RL 89 yX10_keep, Cond.instanceMethod yX10_keep, Cond.selects RX10 yX10_keep yX10_keep, Cond.code yX10_keep cX10_keep 3 (some .int), Cond.methodLink RL 90 yX9_on, Cond.instanceMethod yX9_on, Cond.selects RX9 yX9_on yX9_on]
def wsL_law_r28 : List Cond := [Cond.code yX9_on cX9_on 2 (some .int), Cond.methodLink RL 93 yX10_on, Cond.instanceMethod yX10_on, Cond.selects RX10 yX10_on yX10_on, Cond.code yX10_on cX10_on 3 (some .int), Cond.methodLink RL 94 yX9_votes, Cond.instanceMethod yX9_votes, Cond.selects RX9 yX9_votes yX9_votes, Cond.code yX9_votes cX9_votes 2 (some .int), Cond.fieldLink RX9 230 "VotedHill$Ballot" "heaps" "[I", Cond.methodLink RX9 216 yX9_isWay, Cond.static yX9_isWay, Cond.code yX9_isWay cX9_isWay 1 (some .boolean), Cond.methodLink RX9 226 yX0_votersFor, Cond.instanceMethod yX0_votersFor, Cond.selects RX0 yX0_votersFor yX0_votersFor, Cond.code yX0_votersFor cX0_votersFor 5 (some .int), Cond.methodLink RL 97 yX10_votes, Cond.instanceMethod yX10_votes, Cond.selects RX10 yX10_votes yX10_votes, Cond.code yX10_votes cX10_votes 5 (some .int), Cond.methodLink RX10 222 yX10_need, Cond.instanceMethod yX10_need, Cond.selects RX10 yX10_need yX10_need]
def wsL_law_r29 : List Cond := [Cond.code yX10_need cX10_need 2 (some .int), Cond.methodLink RL 98 yX9_carries, Cond.instanceMethod yX9_carries, Cond.selects RX9 yX9_carries yX9_carries, Cond.code yX9_carries cX9_carries 1 (some .int), Cond.methodLink RX9 233 yX0_lead, Cond.instanceMethod yX0_lead, Cond.selects RX0 yX0_lead yX0_lead, Cond.code yX0_lead cX0_lead 4 (some .int), Cond.methodLink RX0 50 Lib.Math.max.name, Cond.methodLink RL 101 yX10_carries, Cond.instanceMethod yX10_carries, Cond.selects RX10 yX10_carries yX10_carries, Cond.code yX10_carries cX10_carries 4 (some .int), Cond.methodLink RL 102 yX9_buy, Cond.instanceMethod yX9_buy, Cond.selects RX9 yX9_buy yX9_buy, Cond.code yX9_buy cX9_buy 3 (some .int), Cond.methodLink RX9 239 yX3_canGo, Cond.methodLink RX9 243 yX0_cheapestBought, Cond.instanceMethod yX0_cheapestBought, Cond.selects RX0 yX0_cheapestBought yX0_cheapestBought, Cond.code yX0_cheapestBought cX0_cheapestBought 7 (some .int), Cond.methodLink RX0 55 yX3_allHearths]
def wsL_law_r30 : List Cond := [Cond.instanceMethod yX3_allHearths, Cond.selects RX3 yX3_allHearths yX3_allHearths, Cond.code yX3_allHearths cX3_allHearths 1 (some .int), Cond.methodLink RX3 96 yX3_hearthsOf, Cond.instanceMethod yX3_hearthsOf, Cond.selects RX3 yX3_hearthsOf yX3_hearthsOf, Cond.code yX3_hearthsOf cX3_hearthsOf 4 (some .int), Cond.methodLink RX0 59 yX3_hearthsOf, Cond.methodLink RX0 63 yX0_winner, Cond.methodLink RX9 246 yX3_hearthsOf, Cond.methodLink RL 105 yX10_buy, Cond.instanceMethod yX10_buy, Cond.selects RX10 yX10_buy yX10_buy, Cond.code yX10_buy cX10_buy 6 (some .int), Cond.methodLink RX10 226 yX10_hearthsOf, Cond.instanceMethod yX10_hearthsOf, Cond.selects RX10 yX10_hearthsOf yX10_hearthsOf, Cond.code yX10_hearthsOf cX10_hearthsOf 4 (some .int), Cond.methodLink RL 106 yX9_then, Cond.instanceMethod yX9_then, Cond.selects RX9 yX9_then yX9_then, Cond.code yX9_then cX9_then 3 (some .int), Cond.fieldLink RX9 256 "VotedHill$Years" "cell" "I", Cond.methodLink RX9 249 yX8_begin]
def wsL_law_r31 : List Cond := [Cond.instanceMethod yX8_begin, Cond.selects RX8 yX8_begin yX8_begin, Cond.code yX8_begin cX8_begin 2 none, Cond.fieldLink RX8 27 "VotedHill$Land" "mountain" "I", Cond.fieldLink RX8 30 "VotedHill$Land" "back" "I", Cond.methodLink RX9 252 yX8_pass, Cond.instanceMethod yX8_pass, Cond.selects RX8 yX8_pass yX8_pass, Cond.code yX8_pass cX8_pass 5 none, Cond.methodLink RX8 31 yX0_hold, Cond.methodLink RX8 37 yX0_winner, Cond.methodLink RX8 41 yX3_beside, Cond.methodLink RX8 45 yX3_against, Cond.methodLink RX9 259 yX3_worth, Cond.instanceMethod yX3_worth, Cond.selects RX3 yX3_worth yX3_worth, Cond.code yX3_worth cX3_worth 4 (some .int), Cond.methodLink RL 109 yX10_then, Cond.instanceMethod yX10_then, Cond.selects RX10 yX10_then yX10_then, Cond.code yX10_then cX10_then 4 (some .int), Cond.methodLink RX10 229 yX10_copyNow, Cond.instanceMethod yX10_copyNow, Cond.selects RX10 yX10_copyNow yX10_copyNow]
def wsL_law_r32 : List Cond := [Cond.code yX10_copyNow cX10_copyNow 2 none, Cond.methodLink RX10 232 yX10_all, Cond.instanceMethod yX10_all, Cond.selects RX10 yX10_all yX10_all, Cond.code yX10_all cX10_all 4 (some .int), Cond.methodLink RL 110 yX9_when, Cond.instanceMethod yX9_when, Cond.selects RX9 yX9_when yX9_when, Cond.code yX9_when cX9_when 3 (some .int), Cond.methodLink RL 113 yX10_when, Cond.instanceMethod yX10_when, Cond.selects RX10 yX10_when yX10_when, Cond.code yX10_when cX10_when 3 (some .int), Cond.methodLink RL 114 yX9_round, Cond.instanceMethod yX9_round, Cond.selects RX9 yX9_round yX9_round, Cond.code yX9_round cX9_round 2 (some .int), Cond.fieldLink RX9 266 "VotedHill$Years" "period" "I", Cond.methodLink RX9 262 yX8_untilRepeat, Cond.instanceMethod yX8_untilRepeat, Cond.selects RX8 yX8_untilRepeat yX8_untilRepeat, Cond.code yX8_untilRepeat cX8_untilRepeat 5 (some .int), Cond.methodLink RX8 49 yX8_begin, Cond.methodLink RX8 53 yX8_pass]
def wsL_law_r33 : List Cond := [Cond.methodLink RL 117 yX10_round, Cond.instanceMethod yX10_round, Cond.selects RX10 yX10_round yX10_round, Cond.code yX10_round cX10_round 2 (some .int), Cond.methodLink RL 118 yX9_course, Cond.instanceMethod yX9_course, Cond.selects RX9 yX9_course yX9_course, Cond.code yX9_course cX9_course 3 (some .int), Cond.methodLink RX9 269 yX5_bestCourse, Cond.instanceMethod yX5_bestCourse, Cond.selects RX5 yX5_bestCourse yX5_bestCourse, Cond.code yX5_bestCourse cX5_bestCourse 8 (some .int), Cond.fieldLink RX5 40 "VotedHill$Land" "mountain" "I", Cond.fieldLink RX5 44 "VotedHill$Land" "back" "I", Cond.methodLink RX5 25 yX5_weighCells, Cond.instanceMethod yX5_weighCells, Cond.selects RX5 yX5_weighCells yX5_weighCells, Cond.code yX5_weighCells cX5_weighCells 3 none, Cond.methodLink RX5 29 yX3_cells, Cond.methodLink RX5 55 yX3_worth, Cond.methodLink RX5 33 yX5_bestWay, Cond.instanceMethod yX5_bestWay, Cond.selects RX5 yX5_bestWay yX5_bestWay, Cond.code yX5_bestWay cX5_bestWay 9 (some .int)]
def wsL_law_r34 : List Cond := [Cond.methodLink RX5 37 yX5_gainedBy, Cond.instanceMethod yX5_gainedBy, Cond.selects RX5 yX5_gainedBy yX5_gainedBy, Cond.code yX5_gainedBy cX5_gainedBy 6 (some .int), Cond.methodLink RX5 47 yX3_beside, Cond.methodLink RX5 51 yX3_against, Cond.methodLink RX5 58 yX3_canGo, Cond.methodLink RL 121 yX10_course, Cond.instanceMethod yX10_course, Cond.selects RX10 yX10_course yX10_course, Cond.code yX10_course cX10_course 9 (some .int), Cond.methodLink RX10 235 yX10_gainedBy, Cond.instanceMethod yX10_gainedBy, Cond.selects RX10 yX10_gainedBy yX10_gainedBy, Cond.code yX10_gainedBy cX10_gainedBy 9 (some .int), Cond.methodLink RL 122 yX9_fits, Cond.instanceMethod yX9_fits, Cond.selects RX9 yX9_fits yX9_fits, Cond.code yX9_fits cX9_fits 4 (some .int), Cond.methodLink RX9 273 yX9_cellPairsRefusal, Cond.instanceMethod yX9_cellPairsRefusal, Cond.selects RX9 yX9_cellPairsRefusal yX9_cellPairsRefusal, Cond.code yX9_cellPairsRefusal cX9_cellPairsRefusal 2 (some .int), Cond.methodLink RX9 365 yX9_pairsRefusal]
def wsL_law_r35 : List Cond := [Cond.instanceMethod yX9_pairsRefusal, Cond.selects RX9 yX9_pairsRefusal yX9_pairsRefusal, Cond.code yX9_pairsRefusal cX9_pairsRefusal 6 (some .int), Cond.methodLink RX9 276 yX2_fittingCells, Cond.instanceMethod yX2_fittingCells, Cond.selects RX2 yX2_fittingCells yX2_fittingCells, Cond.code yX2_fittingCells cX2_fittingCells 7 (some .int), Cond.fieldLink RX2 23 "VotedHill$Strip" "size" "I", Cond.fieldLink RX2 28 "VotedHill$Strip" "places" "[I", Cond.methodLink RX2 17 yX3_cells, Cond.methodLink RX2 31 yX3_gains, Cond.methodLink RX9 280 yJ6_bitCount_0f7a4, Cond.static yJ6_bitCount_0f7a4, Cond.initialized RJ6, Cond.code yJ6_bitCount_0f7a4 cJ6_bitCount_0f7a4 1 (some .int), Cond.constant RJ6 265 (1431655765), Cond.constant RJ6 266 (858993459), Cond.constant RJ6 267 (252645135), Cond.methodLink RL 125 yX10_fits, Cond.instanceMethod yX10_fits, Cond.selects RX10 yX10_fits yX10_fits, Cond.code yX10_fits cX10_fits 4 (some .int), Cond.methodLink RX10 238 yX10_needPairs, Cond.instanceMethod yX10_needPairs]
def wsL_law_r36 : List Cond := [Cond.selects RX10 yX10_needPairs yX10_needPairs, Cond.code yX10_needPairs cX10_needPairs 7 (some .int), Cond.methodLink RX10 242 yX10_fitSet, Cond.instanceMethod yX10_fitSet, Cond.selects RX10 yX10_fitSet yX10_fitSet, Cond.code yX10_fitSet cX10_fitSet 6 (some .int), Cond.methodLink RX10 245 yX10_bits, Cond.static yX10_bits, Cond.code yX10_bits cX10_bits 3 (some .int), Cond.methodLink RL 126 yX9_next, Cond.instanceMethod yX9_next, Cond.selects RX9 yX9_next yX9_next, Cond.code yX9_next cX9_next 5 (some .int), Cond.fieldLink RX9 288 "VotedHill$Clues" "leastPart" "I", Cond.methodLink RX9 285 yX2_bestTeller, Cond.instanceMethod yX2_bestTeller, Cond.selects RX2 yX2_bestTeller yX2_bestTeller, Cond.code yX2_bestTeller cX2_bestTeller 6 (some .int), Cond.fieldLink RX2 39 "VotedHill$Land" "people" "I", Cond.methodLink RX2 42 yX2_startTally, Cond.instanceMethod yX2_startTally, Cond.selects RX2 yX2_startTally yX2_startTally, Cond.code yX2_startTally cX2_startTally 2 none, Cond.methodLink RX2 45 yX2_addToTally]
def wsL_law_r37 : List Cond := [Cond.instanceMethod yX2_addToTally, Cond.selects RX2 yX2_addToTally yX2_addToTally, Cond.code yX2_addToTally cX2_addToTally 2 none, Cond.methodLink RX2 49 yX2_takeIfLess, Cond.instanceMethod yX2_takeIfLess, Cond.selects RX2 yX2_takeIfLess yX2_takeIfLess, Cond.code yX2_takeIfLess cX2_takeIfLess 5 (some .int), Cond.methodLink RX2 52 Lib.Math.max.name, Cond.methodLink RL 129 yX10_next, Cond.instanceMethod yX10_next, Cond.selects RX10 yX10_next yX10_next, Cond.code yX10_next cX10_next 8 (some .int), Cond.constant RX10 248 (1000000), Cond.methodLink RX10 249 yX10_alike, Cond.instanceMethod yX10_alike, Cond.selects RX10 yX10_alike yX10_alike, Cond.code yX10_alike cX10_alike 7 (some .int), Cond.methodLink RL 130 yX9_kinds, Cond.instanceMethod yX9_kinds, Cond.selects RX9 yX9_kinds yX9_kinds, Cond.code yX9_kinds cX9_kinds 4 (some .int), Cond.methodLink RX9 291 yX9_kindPairsRefusal, Cond.instanceMethod yX9_kindPairsRefusal, Cond.selects RX9 yX9_kindPairsRefusal yX9_kindPairsRefusal]
def wsL_law_r38 : List Cond := [Cond.code yX9_kindPairsRefusal cX9_kindPairsRefusal 3 (some .int), Cond.methodLink RX9 309 yX3_cells, Cond.methodLink RX9 294 yX2_fittingKinds, Cond.instanceMethod yX2_fittingKinds, Cond.selects RX2 yX2_fittingKinds yX2_fittingKinds, Cond.code yX2_fittingKinds cX2_fittingKinds 8 (some .int), Cond.methodLink RX2 35 yX3_gainsAs, Cond.methodLink RL 133 yX10_kinds, Cond.instanceMethod yX10_kinds, Cond.selects RX10 yX10_kinds yX10_kinds, Cond.code yX10_kinds cX10_kinds 4 (some .int), Cond.methodLink RX10 252 yX10_kindSet, Cond.instanceMethod yX10_kindSet, Cond.selects RX10 yX10_kindSet yX10_kindSet, Cond.code yX10_kindSet cX10_kindSet 7 (some .int), Cond.methodLink RL 134 yX9_test, Cond.instanceMethod yX9_test, Cond.selects RX9 yX9_test yX9_test, Cond.code yX9_test cX9_test 6 (some .int), Cond.methodLink RX9 298 yX2_bestCell, Cond.instanceMethod yX2_bestCell, Cond.selects RX2 yX2_bestCell yX2_bestCell, Cond.code yX2_bestCell cX2_bestCell 7 (some .int), Cond.methodLink RL 137 yX10_test]
def wsL_law_r39 : List Cond := [Cond.instanceMethod yX10_test, Cond.selects RX10 yX10_test yX10_test, Cond.code yX10_test cX10_test 9 (some .int), Cond.methodLink RX10 255 yX10_alikeKinds, Cond.instanceMethod yX10_alikeKinds, Cond.selects RX10 yX10_alikeKinds yX10_alikeKinds, Cond.code yX10_alikeKinds cX10_alikeKinds 8 (some .int), Cond.methodLink RL 138 yX9_way, Cond.instanceMethod yX9_way, Cond.selects RX9 yX9_way yX9_way, Cond.code yX9_way cX9_way 4 (some .int), Cond.methodLink RX9 302 yX4_steps, Cond.instanceMethod yX4_steps, Cond.selects RX4 yX4_steps yX4_steps, Cond.code yX4_steps cX4_steps 7 (some .int), Cond.fieldLink RX4 22 "VotedHill$Land" "mountain" "I", Cond.methodLink RX4 18 yX3_cells, Cond.methodLink RX4 26 yX4_reachBeside, Cond.instanceMethod yX4_reachBeside, Cond.selects RX4 yX4_reachBeside yX4_reachBeside, Cond.code yX4_reachBeside cX4_reachBeside 9 (some .int), Cond.methodLink RX4 30 yX3_beside, Cond.methodLink RX9 306 yX4_firstWay, Cond.instanceMethod yX4_firstWay]
def wsL_law_r40 : List Cond := [Cond.selects RX4 yX4_firstWay yX4_firstWay, Cond.code yX4_firstWay cX4_firstWay 5 (some .int), Cond.methodLink RL 141 yX10_way, Cond.instanceMethod yX10_way, Cond.selects RX10 yX10_way yX10_way, Cond.code yX10_way cX10_way 6 (some .int), Cond.methodLink RX10 258 yX10_laySteps, Cond.instanceMethod yX10_laySteps, Cond.selects RX10 yX10_laySteps yX10_laySteps, Cond.code yX10_laySteps cX10_laySteps 8 none, Cond.methodLink RL 142 yX9_parts, Cond.instanceMethod yX9_parts, Cond.selects RX9 yX9_parts yX9_parts, Cond.code yX9_parts cX9_parts 6 (some .int), Cond.methodLink RL 145 yX10_parts, Cond.instanceMethod yX10_parts, Cond.selects RX10 yX10_parts yX10_parts, Cond.code yX10_parts cX10_parts 5 (some .int), Cond.methodLink RL 146 yX9_duel, Cond.instanceMethod yX9_duel, Cond.selects RX9 yX9_duel yX9_duel, Cond.code yX9_duel cX9_duel 2 (some .int), Cond.methodLink RX9 312 yX5_duelWorth, Cond.instanceMethod yX5_duelWorth]
def wsL_law_r41 : List Cond := [Cond.selects RX5 yX5_duelWorth yX5_duelWorth, Cond.code yX5_duelWorth cX5_duelWorth 5 (some .int), Cond.methodLink RX5 62 yX5_wanted, Cond.instanceMethod yX5_wanted, Cond.selects RX5 yX5_wanted yX5_wanted, Cond.code yX5_wanted cX5_wanted 8 (some .int), Cond.methodLink RX5 66 Lib.Math.max.name, Cond.methodLink RX5 71 Lib.Math.min.name, Cond.methodLink RL 149 yX10_duel, Cond.instanceMethod yX10_duel, Cond.selects RX10 yX10_duel yX10_duel, Cond.code yX10_duel cX10_duel 9 (some .int), Cond.methodLink RL 150 yX9_odds, Cond.instanceMethod yX9_odds, Cond.selects RX9 yX9_odds yX9_odds, Cond.code yX9_odds cX9_odds 3 (some .int), Cond.fieldLink RX9 319 "VotedHill$Chance" "weights" "[J", Cond.methodLink RX9 315 yX1_weigh, Cond.instanceMethod yX1_weigh, Cond.selects RX1 yX1_weigh yX1_weigh, Cond.code yX1_weigh cX1_weigh 7 none, Cond.fieldLink RX1 27 "VotedHill$Land" "people" "I", Cond.methodLink RX1 31 yX1_weightOf, Cond.static yX1_weightOf]
def wsL_law_r42 : List Cond := [Cond.code yX1_weightOf cX1_weightOf 8 (some .long), Cond.fieldLink RX1 45 "VotedHill$Ballot" "choices" "[I", Cond.methodLink RX1 35 yX0_heap, Cond.methodLink RX1 41 yX0_winner, Cond.methodLink RX9 323 yX1_tell, Cond.instanceMethod yX1_tell, Cond.selects RX1 yX1_tell yX1_tell, Cond.code yX1_tell cX1_tell 5 none, Cond.methodLink RX1 49 yX1_commonDivisor, Cond.static yX1_commonDivisor, Cond.code yX1_commonDivisor cX1_commonDivisor 11 (some .long), Cond.methodLink RL 153 yX10_odds, Cond.instanceMethod yX10_odds, Cond.selects RX10 yX10_odds yX10_odds, Cond.code yX10_odds cX10_odds 4 (some .int), Cond.fieldLink RX10 265 "VotedHillModel" "waySum" "J", Cond.fieldLink RX10 262 "VotedHillModel" "whole" "J", Cond.methodLink RX10 273 yX10_layParts, Cond.instanceMethod yX10_layParts, Cond.selects RX10 yX10_layParts yX10_layParts, Cond.code yX10_layParts cX10_layParts 8 none, Cond.fieldLink RX10 268 "VotedHillModel" "gainSum" "J", Cond.constantLong RX10 271 (12), Cond.methodLink RX10 276 yX10_fraction]
def wsL_law_r43 : List Cond := [Cond.instanceMethod yX10_fraction, Cond.selects RX10 yX10_fraction yX10_fraction, Cond.code yX10_fraction cX10_fraction 11 (some .int), Cond.fieldLink RX10 96 "VotedHillModel" "upper" "J", Cond.methodLink RL 154 yX9_mid, Cond.instanceMethod yX9_mid, Cond.selects RX9 yX9_mid yX9_mid, Cond.code yX9_mid cX9_mid 5 (some .int), Cond.methodLink RL 157 yX10_mid, Cond.instanceMethod yX10_mid, Cond.selects RX10 yX10_mid yX10_mid, Cond.code yX10_mid cX10_mid 3 (some .int), Cond.methodLink RL 158 yX9_lots, Cond.instanceMethod yX9_lots, Cond.selects RX9 yX9_lots yX9_lots, Cond.code yX9_lots cX9_lots 5 (some .int), Cond.constant RX9 327 (2147483647), Cond.constantLong RX9 328 (48271), Cond.constantLong RX9 330 (2147483647), Cond.methodLink RL 161 yX10_lots, Cond.instanceMethod yX10_lots, Cond.selects RX10 yX10_lots yX10_lots, Cond.code yX10_lots cX10_lots 8 (some .int), Cond.constant RX10 280 (2147483646)]
def wsL_law_r44 : List Cond := [Cond.constantLong RX10 281 (48271), Cond.constantLong RX10 283 (2147483647), Cond.constantLong RX10 285 (3), Cond.constantLong RX10 287 (8), Cond.constantLong RX10 289 (4), Cond.methodLink RL 162 yX9_asked, Cond.instanceMethod yX9_asked, Cond.selects RX9 yX9_asked yX9_asked, Cond.code yX9_asked cX9_asked 1 (some .int), Cond.methodLink RL 165 yX10_asked, Cond.instanceMethod yX10_asked, Cond.selects RX10 yX10_asked yX10_asked, Cond.code yX10_asked cX10_asked 1 (some .int), Cond.methodLink RL 166 yX9_upper, Cond.instanceMethod yX9_upper, Cond.selects RX9 yX9_upper yX9_upper, Cond.code yX9_upper cX9_upper 1 (some .long), Cond.fieldLink RX9 332 "VotedHill$Chance" "upperNumber" "J", Cond.methodLink RL 170 yX10_upper, Cond.instanceMethod yX10_upper, Cond.selects RX10 yX10_upper yX10_upper, Cond.code yX10_upper cX10_upper 1 (some .long), Cond.methodLink RL 171 yX9_lower, Cond.instanceMethod yX9_lower]
def wsL_law_r45 : List Cond := [Cond.selects RX9 yX9_lower yX9_lower, Cond.code yX9_lower cX9_lower 1 (some .long), Cond.fieldLink RX9 336 "VotedHill$Chance" "lowerNumber" "J", Cond.methodLink RL 174 yX10_lower, Cond.instanceMethod yX10_lower, Cond.selects RX10 yX10_lower yX10_lower, Cond.code yX10_lower cX10_lower 1 (some .long), Cond.methodLink RL 175 yX9_count, Cond.instanceMethod yX9_count, Cond.selects RX9 yX9_count yX9_count, Cond.code yX9_count cX9_count 2 (some .int), Cond.fieldLink RX9 339 "VotedHill$Land" "years" "I", Cond.methodLink RX9 341 yX3_allHearths, Cond.methodLink RX9 344 yX3_widows, Cond.instanceMethod yX3_widows, Cond.selects RX3 yX3_widows yX3_widows, Cond.code yX3_widows cX3_widows 3 (some .int), Cond.methodLink RX3 99 yX3_isOf, Cond.methodLink RX9 347 yX9_present, Cond.static yX9_present, Cond.code yX9_present cX9_present 3 (some .int), Cond.methodLink RX9 351 yX9_keptLands, Cond.instanceMethod yX9_keptLands, Cond.selects RX9 yX9_keptLands yX9_keptLands]
def wsL_law_r46 : List Cond := [Cond.code yX9_keptLands cX9_keptLands 3 (some .int), Cond.methodLink RL 178 yX10_count, Cond.instanceMethod yX10_count, Cond.selects RX10 yX10_count yX10_count, Cond.code yX10_count cX10_count 2 (some .int), Cond.methodLink RX10 291 yX10_counted, Cond.instanceMethod yX10_counted, Cond.selects RX10 yX10_counted yX10_counted, Cond.code yX10_counted cX10_counted 4 (some .int), Cond.methodLink RL 179 yX9_finding, Cond.instanceMethod yX9_finding, Cond.selects RX9 yX9_finding yX9_finding, Cond.code yX9_finding cX9_finding 1 (some .int), Cond.methodLink RL 182 yX10_finding, Cond.instanceMethod yX10_finding, Cond.selects RX10 yX10_finding yX10_finding, Cond.code yX10_finding cX10_finding 1 (some .int), Cond.methodLink RL 183 yX9_findings, Cond.instanceMethod yX9_findings, Cond.selects RX9 yX9_findings yX9_findings, Cond.code yX9_findings cX9_findings 2 (some .int), Cond.methodLink RL 186 yX10_findings, Cond.instanceMethod yX10_findings, Cond.selects RX10 yX10_findings yX10_findings]
def wsL_law_r47 : List Cond := [Cond.code yX10_findings cX10_findings 2 (some .int), Cond.methodLink RL 187 yX9_digest, Cond.instanceMethod yX9_digest, Cond.selects RX9 yX9_digest yX9_digest, Cond.code yX9_digest cX9_digest 5 (some .long), Cond.constantLong RX9 354 (17), Cond.constantLong RX9 356 (31), Cond.methodLink RX9 358 yX9_count, Cond.methodLink RX9 361 yX7_mixInto, Cond.instanceMethod yX7_mixInto, Cond.selects RX7 yX7_mixInto yX7_mixInto, Cond.code yX7_mixInto cX7_mixInto 6 (some .long), Cond.constantLong RX7 26 (31), Cond.methodLink RL 190 yX10_digest, Cond.instanceMethod yX10_digest, Cond.selects RX10 yX10_digest yX10_digest, Cond.code yX10_digest cX10_digest 3 (some .long), Cond.constantLong RX10 305 (17), Cond.fieldLink RX10 296 "VotedHillModel" "hash" "J", Cond.methodLink RX10 299 yX10_mix, Cond.instanceMethod yX10_mix, Cond.selects RX10 yX10_mix yX10_mix, Cond.code yX10_mix cX10_mix 3 none, Cond.constantLong RX10 294 (31)]
def wsL_law_r48 : List Cond := [Cond.methodLink RX10 307 yX10_mixLand, Cond.instanceMethod yX10_mixLand, Cond.selects RX10 yX10_mixLand yX10_mixLand, Cond.code yX10_mixLand cX10_mixLand 3 none, Cond.constantLong RX10 303 (-1)]
def wsL_law : List Cond := (wsL_law_r1 ++ (wsL_law_r2 ++ (wsL_law_r3 ++ (wsL_law_r4 ++ (wsL_law_r5 ++ (wsL_law_r6 ++ (wsL_law_r7 ++ (wsL_law_r8 ++ (wsL_law_r9 ++ (wsL_law_r10 ++ (wsL_law_r11 ++ (wsL_law_r12 ++ (wsL_law_r13 ++ (wsL_law_r14 ++ (wsL_law_r15 ++ (wsL_law_r16 ++ (wsL_law_r17 ++ (wsL_law_r18 ++ (wsL_law_r19 ++ (wsL_law_r20 ++ (wsL_law_r21 ++ (wsL_law_r22 ++ (wsL_law_r23 ++ (wsL_law_r24 ++ (wsL_law_r25 ++ (wsL_law_r26 ++ (wsL_law_r27 ++ (wsL_law_r28 ++ (wsL_law_r29 ++ (wsL_law_r30 ++ (wsL_law_r31 ++ (wsL_law_r32 ++ (wsL_law_r33 ++ (wsL_law_r34 ++ (wsL_law_r35 ++ (wsL_law_r36 ++ (wsL_law_r37 ++ (wsL_law_r38 ++ (wsL_law_r39 ++ (wsL_law_r40 ++ (wsL_law_r41 ++ (wsL_law_r42 ++ (wsL_law_r43 ++ (wsL_law_r44 ++ (wsL_law_r45 ++ (wsL_law_r46 ++ (wsL_law_r47 ++ wsL_law_r48))))))))))))))))))))))))))))))))))))))))))))))) ++ wsX90 ++ wsX100 ++ wsX30 ++ wsX60 ++ wsX00 ++ wsX80 ++ wsX50 ++ wsX20 ++ wsX40 ++ wsX10 ++ wsX70 ++ ([] : List Cond)
set_option maxRecDepth 20000 in
theorem WT_good : GoodIn lw_tbl wsL_law := goodIn_p wsL_law [84, 87, 94, 169, 182, 197, 218, 236, 250, 263, 285, 289, 912, 352, 355, 359, 363, 366, 1057, 1060, 1041, 1064, 370, 374, 378, 1068, 1072, 1076, 382, 1080, 386, 390, 1084, 394, 398, 1088, 405, 1092, 409, 412, 1096, 1099, 416, 1103, 420, 424, 428, 432, 436, 440, 444, 448, 452, 455, 461, 1107, 1111, 1115, 1119, 1122, 1126, 1130, 465, 469, 1134, 475, 479, 483, 487, 491, 494, 498, 501, 504, 509, 513, 518, 1138, 1142, 1146, 1150, 1154, 1158, 1161, 1165, 1169, 1173, 524, 531, 535, 540, 544, 1177, 1181, 1185, 549, 553, 1189, 1193, 557, 561, 565, 569, 574, 578, 582, 586, 590, 1197, 1201, 1205, 1209, 1213, 1216, 1220, 1224, 1227, 596, 601, 1231, 605, 609, 1235, 613, 617, 1239, 621, 1243, 625, 1247, 629, 632, 636, 1251, 1255, 640, 644, 1259, 649, 654, 658, 662, 1263, 1267, 669, 673, 677, 685, 1271, 1275, 1279, 689, 1283, 693, 697, 1287, 703, 707, 711, 717, 721, 1291, 1295, 728, 732, 736, 740, 745, 1299, 1303, 1307, 1310, 752, 756, 760, 764, 768, 1314, 1319, 773, 777, 782, 1323, 1327, 787, 791, 1331, 1335, 795, 799, 804, 809, 1339, 1343, 813, 1347, 817, 821, 825, 1351, 831, 835, 838, 844, 847, 1355, 1359, 1364, 851, 1368, 855, 1372, 862, 1045, 866, 1049, 870, 1053, 874, 879, 883, 887, 1382, 1386, 891, 1034, 895, 1038, 899, 906, 1390, 1395, 1400] (by decide +kernel) (by decide +kernel)
theorem wsL_law_in : ∀ w ∈ wsL_law, w ∈ lw_tbl := fun w h => (WT_good w h).1
theorem inlX0 : ∀ w ∈ wsX00, w ∈ wsL_law := fun _ h => List.mem_append_left _ (List.mem_append_left _ (List.mem_append_left _ (List.mem_append_left _ (List.mem_append_left _ (List.mem_append_left _ (List.mem_append_left _ (List.mem_append_right _ h)))))))
theorem inX0 : ∀ w ∈ wsX00, w ∈ lw_tbl := fun w h => wsL_law_in w (inlX0 w h)
theorem inlX1 : ∀ w ∈ wsX10, w ∈ wsL_law := fun _ h => List.mem_append_left _ (List.mem_append_left _ (List.mem_append_right _ h))
theorem inX1 : ∀ w ∈ wsX10, w ∈ lw_tbl := fun w h => wsL_law_in w (inlX1 w h)
theorem inlX2 : ∀ w ∈ wsX20, w ∈ wsL_law := fun _ h => List.mem_append_left _ (List.mem_append_left _ (List.mem_append_left _ (List.mem_append_left _ (List.mem_append_right _ h))))
theorem inX2 : ∀ w ∈ wsX20, w ∈ lw_tbl := fun w h => wsL_law_in w (inlX2 w h)
theorem inlX3 : ∀ w ∈ wsX30, w ∈ wsL_law := fun _ h => List.mem_append_left _ (List.mem_append_left _ (List.mem_append_left _ (List.mem_append_left _ (List.mem_append_left _ (List.mem_append_left _ (List.mem_append_left _ (List.mem_append_left _ (List.mem_append_left _ (List.mem_append_right _ h)))))))))
theorem inX3 : ∀ w ∈ wsX30, w ∈ lw_tbl := fun w h => wsL_law_in w (inlX3 w h)
theorem inlX4 : ∀ w ∈ wsX40, w ∈ wsL_law := fun _ h => List.mem_append_left _ (List.mem_append_left _ (List.mem_append_left _ (List.mem_append_right _ h)))
theorem inX4 : ∀ w ∈ wsX40, w ∈ lw_tbl := fun w h => wsL_law_in w (inlX4 w h)
theorem inlX5 : ∀ w ∈ wsX50, w ∈ wsL_law := fun _ h => List.mem_append_left _ (List.mem_append_left _ (List.mem_append_left _ (List.mem_append_left _ (List.mem_append_left _ (List.mem_append_right _ h)))))
theorem inX5 : ∀ w ∈ wsX50, w ∈ lw_tbl := fun w h => wsL_law_in w (inlX5 w h)
theorem inlX6 : ∀ w ∈ wsX60, w ∈ wsL_law := fun _ h => List.mem_append_left _ (List.mem_append_left _ (List.mem_append_left _ (List.mem_append_left _ (List.mem_append_left _ (List.mem_append_left _ (List.mem_append_left _ (List.mem_append_left _ (List.mem_append_right _ h))))))))
theorem inX6 : ∀ w ∈ wsX60, w ∈ lw_tbl := fun w h => wsL_law_in w (inlX6 w h)
theorem inlX7 : ∀ w ∈ wsX70, w ∈ wsL_law := fun _ h => List.mem_append_left _ (List.mem_append_right _ h)
theorem inX7 : ∀ w ∈ wsX70, w ∈ lw_tbl := fun w h => wsL_law_in w (inlX7 w h)
theorem inlX8 : ∀ w ∈ wsX80, w ∈ wsL_law := fun _ h => List.mem_append_left _ (List.mem_append_left _ (List.mem_append_left _ (List.mem_append_left _ (List.mem_append_left _ (List.mem_append_left _ (List.mem_append_right _ h))))))
theorem inX8 : ∀ w ∈ wsX80, w ∈ lw_tbl := fun w h => wsL_law_in w (inlX8 w h)
theorem inlX9 : ∀ w ∈ wsX90, w ∈ wsL_law := fun _ h => List.mem_append_left _ (List.mem_append_left _ (List.mem_append_left _ (List.mem_append_left _ (List.mem_append_left _ (List.mem_append_left _ (List.mem_append_left _ (List.mem_append_left _ (List.mem_append_left _ (List.mem_append_left _ (List.mem_append_left _ (List.mem_append_right _ h)))))))))))
theorem inX9 : ∀ w ∈ wsX90, w ∈ lw_tbl := fun w h => wsL_law_in w (inlX9 w h)
theorem inlX10 : ∀ w ∈ wsX100, w ∈ wsL_law := fun _ h => List.mem_append_left _ (List.mem_append_left _ (List.mem_append_left _ (List.mem_append_left _ (List.mem_append_left _ (List.mem_append_left _ (List.mem_append_left _ (List.mem_append_left _ (List.mem_append_left _ (List.mem_append_left _ (List.mem_append_right _ h))))))))))
theorem inX10 : ∀ w ∈ wsX100, w ∈ lw_tbl := fun w h => wsL_law_in w (inlX10 w h)
theorem inJ6 : ∀ w ∈ wsJ60, w ∈ lw_tbl := by decide +kernel
theorem inJ9 : ∀ w ∈ wsJ90, w ∈ lw_tbl := by decide +kernel
theorem inJ10 : ∀ w ∈ wsJ100, w ∈ lw_tbl := by decide +kernel
abbrev vwCl : List vw_C := [(RX0, TX0, 2), (RX1, TX1, 4), (RX2, TX2, 2), (RX3, TX3, 15), (RX4, TX4, 2), (RX5, TX5, 3), (RX6, TX6, 2), (RX7, TX7, 2), (RX8, TX8, 4), (RX9, TX9, 15), (RX10, TX10, 38)]
end
