section
-- PART A of the skeleton, and the printed names of the claim (starting texts)
-- ===== PART A: goes FIRST, ahead of the names: the tables' words, and 'selects' of the private methods out of them =====
/-- a private method of a class that the tables say can be made, by its rows of tables_1 -/
def lw_okq (q : MethodName × Nat) : Prop := (q.1.cls ≠ "java/lang/invoke/MethodHandle" ∧ q.1.cls ≠ "java/lang/invoke/VarHandle") ∧ Cond.instantiable q.1.cls q.2 ∈ tables_1 ∧ Cond.privateMethod q.1 ∈ tables_1 ∧ Cond.instanceMethod q.1 ∈ tables_1
theorem lw_p0 : lw_okq (⟨"VotedHill", "refuse", "(I)I"⟩, 15) := ⟨⟨by decide +kernel, by decide +kernel⟩, List.mem_of_getElem? (i := 16) (by decide +kernel), List.mem_of_getElem? (i := 292) (by decide +kernel), List.mem_of_getElem? (i := 293) (by decide +kernel)⟩
theorem lw_p1 : lw_okq (⟨"VotedHill", "placeRefusal", "(LVotedHill$Strip;I)I"⟩, 15) := ⟨⟨by decide +kernel, by decide +kernel⟩, List.mem_of_getElem? (i := 16) (by decide +kernel), List.mem_of_getElem? (i := 307) (by decide +kernel), List.mem_of_getElem? (i := 308) (by decide +kernel)⟩
theorem lw_p2 : lw_okq (⟨"VotedHill$Reader", "readGround", "(LVotedHill$Land;)Z"⟩, 2) := ⟨⟨by decide +kernel, by decide +kernel⟩, List.mem_of_getElem? (i := 101) (by decide +kernel), List.mem_of_getElem? (i := 365) (by decide +kernel), List.mem_of_getElem? (i := 366) (by decide +kernel)⟩
theorem lw_p3 : lw_okq (⟨"VotedHill$Reader", "skipBlanks", "()V"⟩, 2) := ⟨⟨by decide +kernel, by decide +kernel⟩, List.mem_of_getElem? (i := 101) (by decide +kernel), List.mem_of_getElem? (i := 369) (by decide +kernel), List.mem_of_getElem? (i := 370) (by decide +kernel)⟩
theorem lw_p4 : lw_okq (⟨"VotedHill$Reader", "atEnd", "()Z"⟩, 2) := ⟨⟨by decide +kernel, by decide +kernel⟩, List.mem_of_getElem? (i := 101) (by decide +kernel), List.mem_of_getElem? (i := 373) (by decide +kernel), List.mem_of_getElem? (i := 374) (by decide +kernel)⟩
theorem lw_p5 : lw_okq (⟨"VotedHill$Reader", "sign", "()I"⟩, 2) := ⟨⟨by decide +kernel, by decide +kernel⟩, List.mem_of_getElem? (i := 101) (by decide +kernel), List.mem_of_getElem? (i := 377) (by decide +kernel), List.mem_of_getElem? (i := 378) (by decide +kernel)⟩
theorem lw_p6 : lw_okq (⟨"VotedHill$Reader", "figure", "(II)I"⟩, 2) := ⟨⟨by decide +kernel, by decide +kernel⟩, List.mem_of_getElem? (i := 101) (by decide +kernel), List.mem_of_getElem? (i := 381) (by decide +kernel), List.mem_of_getElem? (i := 382) (by decide +kernel)⟩
theorem lw_p7 : lw_okq (⟨"VotedHill$Reader", "readOne", "(LVotedHill$Land;)Z"⟩, 2) := ⟨⟨by decide +kernel, by decide +kernel⟩, List.mem_of_getElem? (i := 101) (by decide +kernel), List.mem_of_getElem? (i := 385) (by decide +kernel), List.mem_of_getElem? (i := 386) (by decide +kernel)⟩
theorem lw_p8 : lw_okq (⟨"VotedHill", "aboutOne", "(II)I"⟩, 15) := ⟨⟨by decide +kernel, by decide +kernel⟩, List.mem_of_getElem? (i := 16) (by decide +kernel), List.mem_of_getElem? (i := 416) (by decide +kernel), List.mem_of_getElem? (i := 417) (by decide +kernel)⟩
theorem lw_p9 : lw_okq (⟨"VotedHill", "abstainersBeside", "(I)I"⟩, 15) := ⟨⟨by decide +kernel, by decide +kernel⟩, List.mem_of_getElem? (i := 16) (by decide +kernel), List.mem_of_getElem? (i := 464) (by decide +kernel), List.mem_of_getElem? (i := 465) (by decide +kernel)⟩
theorem lw_p10 : lw_okq (⟨"VotedHill", "passYear", "()I"⟩, 15) := ⟨⟨by decide +kernel, by decide +kernel⟩, List.mem_of_getElem? (i := 16) (by decide +kernel), List.mem_of_getElem? (i := 498) (by decide +kernel), List.mem_of_getElem? (i := 499) (by decide +kernel)⟩
theorem lw_p11 : lw_okq (⟨"VotedHill$Land", "remember", "(I)Z"⟩, 15) := ⟨⟨by decide +kernel, by decide +kernel⟩, List.mem_of_getElem? (i := 26) (by decide +kernel), List.mem_of_getElem? (i := 519) (by decide +kernel), List.mem_of_getElem? (i := 520) (by decide +kernel)⟩
theorem lw_p12 : lw_okq (⟨"VotedHill$Plans", "weighCells", "(LVotedHill$Land;)V"⟩, 3) := ⟨⟨by decide +kernel, by decide +kernel⟩, List.mem_of_getElem? (i := 150) (by decide +kernel), List.mem_of_getElem? (i := 644) (by decide +kernel), List.mem_of_getElem? (i := 645) (by decide +kernel)⟩
theorem lw_p13 : lw_okq (⟨"VotedHill$Plans", "bestWay", "(LVotedHill$Land;III)I"⟩, 3) := ⟨⟨by decide +kernel, by decide +kernel⟩, List.mem_of_getElem? (i := 150) (by decide +kernel), List.mem_of_getElem? (i := 650) (by decide +kernel), List.mem_of_getElem? (i := 651) (by decide +kernel)⟩
theorem lw_p14 : lw_okq (⟨"VotedHill$Plans", "gainedBy", "(LVotedHill$Land;III)I"⟩, 3) := ⟨⟨by decide +kernel, by decide +kernel⟩, List.mem_of_getElem? (i := 150) (by decide +kernel), List.mem_of_getElem? (i := 654) (by decide +kernel), List.mem_of_getElem? (i := 655) (by decide +kernel)⟩
theorem lw_p15 : lw_okq (⟨"VotedHill", "cellPairsRefusal", "(I)I"⟩, 15) := ⟨⟨by decide +kernel, by decide +kernel⟩, List.mem_of_getElem? (i := 16) (by decide +kernel), List.mem_of_getElem? (i := 665) (by decide +kernel), List.mem_of_getElem? (i := 666) (by decide +kernel)⟩
def lw_privs_1 : List (MethodName × Nat) := [(⟨"VotedHill", "refuse", "(I)I"⟩, 15), (⟨"VotedHill", "placeRefusal", "(LVotedHill$Strip;I)I"⟩, 15), (⟨"VotedHill$Reader", "readGround", "(LVotedHill$Land;)Z"⟩, 2), (⟨"VotedHill$Reader", "skipBlanks", "()V"⟩, 2), (⟨"VotedHill$Reader", "atEnd", "()Z"⟩, 2), (⟨"VotedHill$Reader", "sign", "()I"⟩, 2), (⟨"VotedHill$Reader", "figure", "(II)I"⟩, 2), (⟨"VotedHill$Reader", "readOne", "(LVotedHill$Land;)Z"⟩, 2), (⟨"VotedHill", "aboutOne", "(II)I"⟩, 15), (⟨"VotedHill", "abstainersBeside", "(I)I"⟩, 15), (⟨"VotedHill", "passYear", "()I"⟩, 15), (⟨"VotedHill$Land", "remember", "(I)Z"⟩, 15), (⟨"VotedHill$Plans", "weighCells", "(LVotedHill$Land;)V"⟩, 3), (⟨"VotedHill$Plans", "bestWay", "(LVotedHill$Land;III)I"⟩, 3), (⟨"VotedHill$Plans", "gainedBy", "(LVotedHill$Land;III)I"⟩, 3), (⟨"VotedHill", "cellPairsRefusal", "(I)I"⟩, 15)]
theorem lw_r1 : ∀ q ∈ lw_privs_1, lw_okq q := List.forall_mem_cons.mpr ⟨lw_p0, List.forall_mem_cons.mpr ⟨lw_p1, List.forall_mem_cons.mpr ⟨lw_p2, List.forall_mem_cons.mpr ⟨lw_p3, List.forall_mem_cons.mpr ⟨lw_p4, List.forall_mem_cons.mpr ⟨lw_p5, List.forall_mem_cons.mpr ⟨lw_p6, List.forall_mem_cons.mpr ⟨lw_p7, List.forall_mem_cons.mpr ⟨lw_p8, List.forall_mem_cons.mpr ⟨lw_p9, List.forall_mem_cons.mpr ⟨lw_p10, List.forall_mem_cons.mpr ⟨lw_p11, List.forall_mem_cons.mpr ⟨lw_p12, List.forall_mem_cons.mpr ⟨lw_p13, List.forall_mem_cons.mpr ⟨lw_p14, List.forall_mem_cons.mpr ⟨lw_p15, fun _ h => absurd h List.not_mem_nil⟩⟩⟩⟩⟩⟩⟩⟩⟩⟩⟩⟩⟩⟩⟩⟩
theorem lw_p16 : lw_okq (⟨"VotedHill", "pairsRefusal", "(LVotedHill$Strip;I)I"⟩, 15) := ⟨⟨by decide +kernel, by decide +kernel⟩, List.mem_of_getElem? (i := 16) (by decide +kernel), List.mem_of_getElem? (i := 669) (by decide +kernel), List.mem_of_getElem? (i := 670) (by decide +kernel)⟩
theorem lw_p17 : lw_okq (⟨"VotedHill$Clues", "startTally", "()V"⟩, 2) := ⟨⟨by decide +kernel, by decide +kernel⟩, List.mem_of_getElem? (i := 168) (by decide +kernel), List.mem_of_getElem? (i := 693) (by decide +kernel), List.mem_of_getElem? (i := 694) (by decide +kernel)⟩
theorem lw_p18 : lw_okq (⟨"VotedHill$Clues", "addToTally", "(I)V"⟩, 2) := ⟨⟨by decide +kernel, by decide +kernel⟩, List.mem_of_getElem? (i := 168) (by decide +kernel), List.mem_of_getElem? (i := 697) (by decide +kernel), List.mem_of_getElem? (i := 698) (by decide +kernel)⟩
theorem lw_p19 : lw_okq (⟨"VotedHill$Clues", "takeIfLess", "(II)I"⟩, 2) := ⟨⟨by decide +kernel, by decide +kernel⟩, List.mem_of_getElem? (i := 168) (by decide +kernel), List.mem_of_getElem? (i := 701) (by decide +kernel), List.mem_of_getElem? (i := 702) (by decide +kernel)⟩
theorem lw_p20 : lw_okq (⟨"VotedHill", "kindPairsRefusal", "(II)I"⟩, 15) := ⟨⟨by decide +kernel, by decide +kernel⟩, List.mem_of_getElem? (i := 16) (by decide +kernel), List.mem_of_getElem? (i := 710) (by decide +kernel), List.mem_of_getElem? (i := 711) (by decide +kernel)⟩
theorem lw_p21 : lw_okq (⟨"VotedHill$Paths", "reachBeside", "(LVotedHill$Land;III)I"⟩, 2) := ⟨⟨by decide +kernel, by decide +kernel⟩, List.mem_of_getElem? (i := 182) (by decide +kernel), List.mem_of_getElem? (i := 737) (by decide +kernel), List.mem_of_getElem? (i := 738) (by decide +kernel)⟩
theorem lw_p22 : lw_okq (⟨"VotedHill$Plans", "wanted", "(LVotedHill$Land;II)I"⟩, 3) := ⟨⟨by decide +kernel, by decide +kernel⟩, List.mem_of_getElem? (i := 150) (by decide +kernel), List.mem_of_getElem? (i := 758) (by decide +kernel), List.mem_of_getElem? (i := 759) (by decide +kernel)⟩
theorem lw_p23 : lw_okq (⟨"VotedHill", "keptLands", "()I"⟩, 15) := ⟨⟨by decide +kernel, by decide +kernel⟩, List.mem_of_getElem? (i := 16) (by decide +kernel), List.mem_of_getElem? (i := 820) (by decide +kernel), List.mem_of_getElem? (i := 821) (by decide +kernel)⟩
theorem lw_p24 : lw_okq (⟨"VotedHillModel", "meets", "(I)I"⟩, 38) := ⟨⟨by decide +kernel, by decide +kernel⟩, List.mem_of_getElem? (i := 844) (by decide +kernel), List.mem_of_getElem? (i := 997) (by decide +kernel), List.mem_of_getElem? (i := 998) (by decide +kernel)⟩
theorem lw_p25 : lw_okq (⟨"VotedHillModel", "rowAt", "(II)I"⟩, 38) := ⟨⟨by decide +kernel, by decide +kernel⟩, List.mem_of_getElem? (i := 844) (by decide +kernel), List.mem_of_getElem? (i := 1005) (by decide +kernel), List.mem_of_getElem? (i := 1006) (by decide +kernel)⟩
theorem lw_p26 : lw_okq (⟨"VotedHillModel", "tells", "(II)I"⟩, 38) := ⟨⟨by decide +kernel, by decide +kernel⟩, List.mem_of_getElem? (i := 844) (by decide +kernel), List.mem_of_getElem? (i := 1009) (by decide +kernel), List.mem_of_getElem? (i := 1010) (by decide +kernel)⟩
theorem lw_p27 : lw_okq (⟨"VotedHillModel", "faultOf", "(I)I"⟩, 38) := ⟨⟨by decide +kernel, by decide +kernel⟩, List.mem_of_getElem? (i := 844) (by decide +kernel), List.mem_of_getElem? (i := 1044) (by decide +kernel), List.mem_of_getElem? (i := 1045) (by decide +kernel)⟩
theorem lw_p28 : lw_okq (⟨"VotedHillModel", "byteAt", "(II)I"⟩, 38) := ⟨⟨by decide +kernel, by decide +kernel⟩, List.mem_of_getElem? (i := 844) (by decide +kernel), List.mem_of_getElem? (i := 1048) (by decide +kernel), List.mem_of_getElem? (i := 1049) (by decide +kernel)⟩
theorem lw_p29 : lw_okq (⟨"VotedHillModel", "readsOne", "(I)Z"⟩, 38) := ⟨⟨by decide +kernel, by decide +kernel⟩, List.mem_of_getElem? (i := 844) (by decide +kernel), List.mem_of_getElem? (i := 1052) (by decide +kernel), List.mem_of_getElem? (i := 1053) (by decide +kernel)⟩
theorem lw_p30 : lw_okq (⟨"VotedHillModel", "figure", "(III)I"⟩, 38) := ⟨⟨by decide +kernel, by decide +kernel⟩, List.mem_of_getElem? (i := 844) (by decide +kernel), List.mem_of_getElem? (i := 1059) (by decide +kernel), List.mem_of_getElem? (i := 1060) (by decide +kernel)⟩
theorem lw_p31 : lw_okq (⟨"VotedHillModel", "readsHead", "(I)Z"⟩, 38) := ⟨⟨by decide +kernel, by decide +kernel⟩, List.mem_of_getElem? (i := 844) (by decide +kernel), List.mem_of_getElem? (i := 1063) (by decide +kernel), List.mem_of_getElem? (i := 1064) (by decide +kernel)⟩
def lw_privs_2 : List (MethodName × Nat) := [(⟨"VotedHill", "pairsRefusal", "(LVotedHill$Strip;I)I"⟩, 15), (⟨"VotedHill$Clues", "startTally", "()V"⟩, 2), (⟨"VotedHill$Clues", "addToTally", "(I)V"⟩, 2), (⟨"VotedHill$Clues", "takeIfLess", "(II)I"⟩, 2), (⟨"VotedHill", "kindPairsRefusal", "(II)I"⟩, 15), (⟨"VotedHill$Paths", "reachBeside", "(LVotedHill$Land;III)I"⟩, 2), (⟨"VotedHill$Plans", "wanted", "(LVotedHill$Land;II)I"⟩, 3), (⟨"VotedHill", "keptLands", "()I"⟩, 15), (⟨"VotedHillModel", "meets", "(I)I"⟩, 38), (⟨"VotedHillModel", "rowAt", "(II)I"⟩, 38), (⟨"VotedHillModel", "tells", "(II)I"⟩, 38), (⟨"VotedHillModel", "faultOf", "(I)I"⟩, 38), (⟨"VotedHillModel", "byteAt", "(II)I"⟩, 38), (⟨"VotedHillModel", "readsOne", "(I)Z"⟩, 38), (⟨"VotedHillModel", "figure", "(III)I"⟩, 38), (⟨"VotedHillModel", "readsHead", "(I)Z"⟩, 38)]
theorem lw_r2 : ∀ q ∈ lw_privs_2, lw_okq q := List.forall_mem_cons.mpr ⟨lw_p16, List.forall_mem_cons.mpr ⟨lw_p17, List.forall_mem_cons.mpr ⟨lw_p18, List.forall_mem_cons.mpr ⟨lw_p19, List.forall_mem_cons.mpr ⟨lw_p20, List.forall_mem_cons.mpr ⟨lw_p21, List.forall_mem_cons.mpr ⟨lw_p22, List.forall_mem_cons.mpr ⟨lw_p23, List.forall_mem_cons.mpr ⟨lw_p24, List.forall_mem_cons.mpr ⟨lw_p25, List.forall_mem_cons.mpr ⟨lw_p26, List.forall_mem_cons.mpr ⟨lw_p27, List.forall_mem_cons.mpr ⟨lw_p28, List.forall_mem_cons.mpr ⟨lw_p29, List.forall_mem_cons.mpr ⟨lw_p30, List.forall_mem_cons.mpr ⟨lw_p31, fun _ h => absurd h List.not_mem_nil⟩⟩⟩⟩⟩⟩⟩⟩⟩⟩⟩⟩⟩⟩⟩⟩
theorem lw_p32 : lw_okq (⟨"VotedHillModel", "isOne", "(I)Z"⟩, 38) := ⟨⟨by decide +kernel, by decide +kernel⟩, List.mem_of_getElem? (i := 844) (by decide +kernel), List.mem_of_getElem? (i := 1075) (by decide +kernel), List.mem_of_getElem? (i := 1076) (by decide +kernel)⟩
theorem lw_p33 : lw_okq (⟨"VotedHillModel", "oneTells", "(II)I"⟩, 38) := ⟨⟨by decide +kernel, by decide +kernel⟩, List.mem_of_getElem? (i := 844) (by decide +kernel), List.mem_of_getElem? (i := 1079) (by decide +kernel), List.mem_of_getElem? (i := 1080) (by decide +kernel)⟩
theorem lw_p34 : lw_okq (⟨"VotedHillModel", "gainOn", "(II)I"⟩, 38) := ⟨⟨by decide +kernel, by decide +kernel⟩, List.mem_of_getElem? (i := 844) (by decide +kernel), List.mem_of_getElem? (i := 1083) (by decide +kernel), List.mem_of_getElem? (i := 1084) (by decide +kernel)⟩
theorem lw_p35 : lw_okq (⟨"VotedHillModel", "gainBy", "(III)I"⟩, 38) := ⟨⟨by decide +kernel, by decide +kernel⟩, List.mem_of_getElem? (i := 844) (by decide +kernel), List.mem_of_getElem? (i := 1087) (by decide +kernel), List.mem_of_getElem? (i := 1088) (by decide +kernel)⟩
theorem lw_p36 : lw_okq (⟨"VotedHillModel", "far", "(II)I"⟩, 38) := ⟨⟨by decide +kernel, by decide +kernel⟩, List.mem_of_getElem? (i := 844) (by decide +kernel), List.mem_of_getElem? (i := 1091) (by decide +kernel), List.mem_of_getElem? (i := 1092) (by decide +kernel)⟩
theorem lw_p37 : lw_okq (⟨"VotedHillModel", "voteOn", "(III)I"⟩, 38) := ⟨⟨by decide +kernel, by decide +kernel⟩, List.mem_of_getElem? (i := 844) (by decide +kernel), List.mem_of_getElem? (i := 1098) (by decide +kernel), List.mem_of_getElem? (i := 1099) (by decide +kernel)⟩
theorem lw_p38 : lw_okq (⟨"VotedHillModel", "canBe", "(III)Z"⟩, 38) := ⟨⟨by decide +kernel, by decide +kernel⟩, List.mem_of_getElem? (i := 844) (by decide +kernel), List.mem_of_getElem? (i := 1102) (by decide +kernel), List.mem_of_getElem? (i := 1103) (by decide +kernel)⟩
theorem lw_p39 : lw_okq (⟨"VotedHillModel", "beside", "(II)I"⟩, 38) := ⟨⟨by decide +kernel, by decide +kernel⟩, List.mem_of_getElem? (i := 844) (by decide +kernel), List.mem_of_getElem? (i := 1106) (by decide +kernel), List.mem_of_getElem? (i := 1107) (by decide +kernel)⟩
theorem lw_p40 : lw_okq (⟨"VotedHillModel", "silent", "(I)I"⟩, 38) := ⟨⟨by decide +kernel, by decide +kernel⟩, List.mem_of_getElem? (i := 844) (by decide +kernel), List.mem_of_getElem? (i := 1114) (by decide +kernel), List.mem_of_getElem? (i := 1115) (by decide +kernel)⟩
theorem lw_p41 : lw_okq (⟨"VotedHillModel", "cellsOf", "(I)I"⟩, 38) := ⟨⟨by decide +kernel, by decide +kernel⟩, List.mem_of_getElem? (i := 844) (by decide +kernel), List.mem_of_getElem? (i := 1118) (by decide +kernel), List.mem_of_getElem? (i := 1119) (by decide +kernel)⟩
theorem lw_p42 : lw_okq (⟨"VotedHillModel", "isCell", "(I)Z"⟩, 38) := ⟨⟨by decide +kernel, by decide +kernel⟩, List.mem_of_getElem? (i := 844) (by decide +kernel), List.mem_of_getElem? (i := 1126) (by decide +kernel), List.mem_of_getElem? (i := 1127) (by decide +kernel)⟩
theorem lw_p43 : lw_okq (⟨"VotedHillModel", "remember", "()V"⟩, 38) := ⟨⟨by decide +kernel, by decide +kernel⟩, List.mem_of_getElem? (i := 844) (by decide +kernel), List.mem_of_getElem? (i := 1134) (by decide +kernel), List.mem_of_getElem? (i := 1135) (by decide +kernel)⟩
theorem lw_p44 : lw_okq (⟨"VotedHillModel", "carriedFrom", "(II)I"⟩, 38) := ⟨⟨by decide +kernel, by decide +kernel⟩, List.mem_of_getElem? (i := 844) (by decide +kernel), List.mem_of_getElem? (i := 1138) (by decide +kernel), List.mem_of_getElem? (i := 1139) (by decide +kernel)⟩
theorem lw_p45 : lw_okq (⟨"VotedHillModel", "everybody", "()I"⟩, 38) := ⟨⟨by decide +kernel, by decide +kernel⟩, List.mem_of_getElem? (i := 844) (by decide +kernel), List.mem_of_getElem? (i := 1142) (by decide +kernel), List.mem_of_getElem? (i := 1143) (by decide +kernel)⟩
theorem lw_p46 : lw_okq (⟨"VotedHillModel", "layCounts", "(IIIII)V"⟩, 38) := ⟨⟨by decide +kernel, by decide +kernel⟩, List.mem_of_getElem? (i := 844) (by decide +kernel), List.mem_of_getElem? (i := 1146) (by decide +kernel), List.mem_of_getElem? (i := 1147) (by decide +kernel)⟩
theorem lw_p47 : lw_okq (⟨"VotedHillModel", "carried", "()I"⟩, 38) := ⟨⟨by decide +kernel, by decide +kernel⟩, List.mem_of_getElem? (i := 844) (by decide +kernel), List.mem_of_getElem? (i := 1153) (by decide +kernel), List.mem_of_getElem? (i := 1154) (by decide +kernel)⟩
def lw_privs_3 : List (MethodName × Nat) := [(⟨"VotedHillModel", "isOne", "(I)Z"⟩, 38), (⟨"VotedHillModel", "oneTells", "(II)I"⟩, 38), (⟨"VotedHillModel", "gainOn", "(II)I"⟩, 38), (⟨"VotedHillModel", "gainBy", "(III)I"⟩, 38), (⟨"VotedHillModel", "far", "(II)I"⟩, 38), (⟨"VotedHillModel", "voteOn", "(III)I"⟩, 38), (⟨"VotedHillModel", "canBe", "(III)Z"⟩, 38), (⟨"VotedHillModel", "beside", "(II)I"⟩, 38), (⟨"VotedHillModel", "silent", "(I)I"⟩, 38), (⟨"VotedHillModel", "cellsOf", "(I)I"⟩, 38), (⟨"VotedHillModel", "isCell", "(I)Z"⟩, 38), (⟨"VotedHillModel", "remember", "()V"⟩, 38), (⟨"VotedHillModel", "carriedFrom", "(II)I"⟩, 38), (⟨"VotedHillModel", "everybody", "()I"⟩, 38), (⟨"VotedHillModel", "layCounts", "(IIIII)V"⟩, 38), (⟨"VotedHillModel", "carried", "()I"⟩, 38)]
theorem lw_r3 : ∀ q ∈ lw_privs_3, lw_okq q := List.forall_mem_cons.mpr ⟨lw_p32, List.forall_mem_cons.mpr ⟨lw_p33, List.forall_mem_cons.mpr ⟨lw_p34, List.forall_mem_cons.mpr ⟨lw_p35, List.forall_mem_cons.mpr ⟨lw_p36, List.forall_mem_cons.mpr ⟨lw_p37, List.forall_mem_cons.mpr ⟨lw_p38, List.forall_mem_cons.mpr ⟨lw_p39, List.forall_mem_cons.mpr ⟨lw_p40, List.forall_mem_cons.mpr ⟨lw_p41, List.forall_mem_cons.mpr ⟨lw_p42, List.forall_mem_cons.mpr ⟨lw_p43, List.forall_mem_cons.mpr ⟨lw_p44, List.forall_mem_cons.mpr ⟨lw_p45, List.forall_mem_cons.mpr ⟨lw_p46, List.forall_mem_cons.mpr ⟨lw_p47, fun _ h => absurd h List.not_mem_nil⟩⟩⟩⟩⟩⟩⟩⟩⟩⟩⟩⟩⟩⟩⟩⟩
theorem lw_p48 : lw_okq (⟨"VotedHillModel", "passes", "([I)V"⟩, 38) := ⟨⟨by decide +kernel, by decide +kernel⟩, List.mem_of_getElem? (i := 844) (by decide +kernel), List.mem_of_getElem? (i := 1157) (by decide +kernel), List.mem_of_getElem? (i := 1158) (by decide +kernel)⟩
theorem lw_p49 : lw_okq (⟨"VotedHillModel", "need", "(Z)I"⟩, 38) := ⟨⟨by decide +kernel, by decide +kernel⟩, List.mem_of_getElem? (i := 844) (by decide +kernel), List.mem_of_getElem? (i := 1188) (by decide +kernel), List.mem_of_getElem? (i := 1189) (by decide +kernel)⟩
theorem lw_p50 : lw_okq (⟨"VotedHillModel", "hearthsOf", "(I)I"⟩, 38) := ⟨⟨by decide +kernel, by decide +kernel⟩, List.mem_of_getElem? (i := 844) (by decide +kernel), List.mem_of_getElem? (i := 1200) (by decide +kernel), List.mem_of_getElem? (i := 1201) (by decide +kernel)⟩
theorem lw_p51 : lw_okq (⟨"VotedHillModel", "copyNow", "()V"⟩, 38) := ⟨⟨by decide +kernel, by decide +kernel⟩, List.mem_of_getElem? (i := 844) (by decide +kernel), List.mem_of_getElem? (i := 1208) (by decide +kernel), List.mem_of_getElem? (i := 1209) (by decide +kernel)⟩
theorem lw_p52 : lw_okq (⟨"VotedHillModel", "all", "(I)I"⟩, 38) := ⟨⟨by decide +kernel, by decide +kernel⟩, List.mem_of_getElem? (i := 844) (by decide +kernel), List.mem_of_getElem? (i := 1212) (by decide +kernel), List.mem_of_getElem? (i := 1213) (by decide +kernel)⟩
theorem lw_p53 : lw_okq (⟨"VotedHillModel", "gainedBy", "(II)I"⟩, 38) := ⟨⟨by decide +kernel, by decide +kernel⟩, List.mem_of_getElem? (i := 844) (by decide +kernel), List.mem_of_getElem? (i := 1228) (by decide +kernel), List.mem_of_getElem? (i := 1229) (by decide +kernel)⟩
theorem lw_p54 : lw_okq (⟨"VotedHillModel", "needPairs", "(IZZ)I"⟩, 38) := ⟨⟨by decide +kernel, by decide +kernel⟩, List.mem_of_getElem? (i := 844) (by decide +kernel), List.mem_of_getElem? (i := 1236) (by decide +kernel), List.mem_of_getElem? (i := 1237) (by decide +kernel)⟩
theorem lw_p55 : lw_okq (⟨"VotedHillModel", "fitSet", "(I)I"⟩, 38) := ⟨⟨by decide +kernel, by decide +kernel⟩, List.mem_of_getElem? (i := 844) (by decide +kernel), List.mem_of_getElem? (i := 1240) (by decide +kernel), List.mem_of_getElem? (i := 1241) (by decide +kernel)⟩
theorem lw_p56 : lw_okq (⟨"VotedHillModel", "alike", "(II)I"⟩, 38) := ⟨⟨by decide +kernel, by decide +kernel⟩, List.mem_of_getElem? (i := 844) (by decide +kernel), List.mem_of_getElem? (i := 1252) (by decide +kernel), List.mem_of_getElem? (i := 1253) (by decide +kernel)⟩
theorem lw_p57 : lw_okq (⟨"VotedHillModel", "kindSet", "(II)I"⟩, 38) := ⟨⟨by decide +kernel, by decide +kernel⟩, List.mem_of_getElem? (i := 844) (by decide +kernel), List.mem_of_getElem? (i := 1260) (by decide +kernel), List.mem_of_getElem? (i := 1261) (by decide +kernel)⟩
theorem lw_p58 : lw_okq (⟨"VotedHillModel", "alikeKinds", "(III)I"⟩, 38) := ⟨⟨by decide +kernel, by decide +kernel⟩, List.mem_of_getElem? (i := 844) (by decide +kernel), List.mem_of_getElem? (i := 1268) (by decide +kernel), List.mem_of_getElem? (i := 1269) (by decide +kernel)⟩
theorem lw_p59 : lw_okq (⟨"VotedHillModel", "laySteps", "(II)V"⟩, 38) := ⟨⟨by decide +kernel, by decide +kernel⟩, List.mem_of_getElem? (i := 844) (by decide +kernel), List.mem_of_getElem? (i := 1276) (by decide +kernel), List.mem_of_getElem? (i := 1277) (by decide +kernel)⟩
theorem lw_p60 : lw_okq (⟨"VotedHillModel", "layParts", "(II)V"⟩, 38) := ⟨⟨by decide +kernel, by decide +kernel⟩, List.mem_of_getElem? (i := 844) (by decide +kernel), List.mem_of_getElem? (i := 1292) (by decide +kernel), List.mem_of_getElem? (i := 1293) (by decide +kernel)⟩
theorem lw_p61 : lw_okq (⟨"VotedHillModel", "fraction", "(JJ)I"⟩, 38) := ⟨⟨by decide +kernel, by decide +kernel⟩, List.mem_of_getElem? (i := 844) (by decide +kernel), List.mem_of_getElem? (i := 1297) (by decide +kernel), List.mem_of_getElem? (i := 1298) (by decide +kernel)⟩
theorem lw_p62 : lw_okq (⟨"VotedHillModel", "counted", "(I)I"⟩, 38) := ⟨⟨by decide +kernel, by decide +kernel⟩, List.mem_of_getElem? (i := 844) (by decide +kernel), List.mem_of_getElem? (i := 1319) (by decide +kernel), List.mem_of_getElem? (i := 1320) (by decide +kernel)⟩
theorem lw_p63 : lw_okq (⟨"VotedHillModel", "mix", "(J)V"⟩, 38) := ⟨⟨by decide +kernel, by decide +kernel⟩, List.mem_of_getElem? (i := 844) (by decide +kernel), List.mem_of_getElem? (i := 1328) (by decide +kernel), List.mem_of_getElem? (i := 1329) (by decide +kernel)⟩
def lw_privs_4 : List (MethodName × Nat) := [(⟨"VotedHillModel", "passes", "([I)V"⟩, 38), (⟨"VotedHillModel", "need", "(Z)I"⟩, 38), (⟨"VotedHillModel", "hearthsOf", "(I)I"⟩, 38), (⟨"VotedHillModel", "copyNow", "()V"⟩, 38), (⟨"VotedHillModel", "all", "(I)I"⟩, 38), (⟨"VotedHillModel", "gainedBy", "(II)I"⟩, 38), (⟨"VotedHillModel", "needPairs", "(IZZ)I"⟩, 38), (⟨"VotedHillModel", "fitSet", "(I)I"⟩, 38), (⟨"VotedHillModel", "alike", "(II)I"⟩, 38), (⟨"VotedHillModel", "kindSet", "(II)I"⟩, 38), (⟨"VotedHillModel", "alikeKinds", "(III)I"⟩, 38), (⟨"VotedHillModel", "laySteps", "(II)V"⟩, 38), (⟨"VotedHillModel", "layParts", "(II)V"⟩, 38), (⟨"VotedHillModel", "fraction", "(JJ)I"⟩, 38), (⟨"VotedHillModel", "counted", "(I)I"⟩, 38), (⟨"VotedHillModel", "mix", "(J)V"⟩, 38)]
theorem lw_r4 : ∀ q ∈ lw_privs_4, lw_okq q := List.forall_mem_cons.mpr ⟨lw_p48, List.forall_mem_cons.mpr ⟨lw_p49, List.forall_mem_cons.mpr ⟨lw_p50, List.forall_mem_cons.mpr ⟨lw_p51, List.forall_mem_cons.mpr ⟨lw_p52, List.forall_mem_cons.mpr ⟨lw_p53, List.forall_mem_cons.mpr ⟨lw_p54, List.forall_mem_cons.mpr ⟨lw_p55, List.forall_mem_cons.mpr ⟨lw_p56, List.forall_mem_cons.mpr ⟨lw_p57, List.forall_mem_cons.mpr ⟨lw_p58, List.forall_mem_cons.mpr ⟨lw_p59, List.forall_mem_cons.mpr ⟨lw_p60, List.forall_mem_cons.mpr ⟨lw_p61, List.forall_mem_cons.mpr ⟨lw_p62, List.forall_mem_cons.mpr ⟨lw_p63, fun _ h => absurd h List.not_mem_nil⟩⟩⟩⟩⟩⟩⟩⟩⟩⟩⟩⟩⟩⟩⟩⟩
theorem lw_p64 : lw_okq (⟨"VotedHillModel", "mixLand", "()V"⟩, 38) := ⟨⟨by decide +kernel, by decide +kernel⟩, List.mem_of_getElem? (i := 844) (by decide +kernel), List.mem_of_getElem? (i := 1333) (by decide +kernel), List.mem_of_getElem? (i := 1334) (by decide +kernel)⟩
def lw_privs_5 : List (MethodName × Nat) := [(⟨"VotedHillModel", "mixLand", "()V"⟩, 38)]
theorem lw_r5 : ∀ q ∈ lw_privs_5, lw_okq q := List.forall_mem_cons.mpr ⟨lw_p64, fun _ h => absurd h List.not_mem_nil⟩
def lw_privs : List (MethodName × Nat) := lw_privs_1 ++ (lw_privs_2 ++ (lw_privs_3 ++ (lw_privs_4 ++ (lw_privs_5))))
def lw_tbl : List Cond := k2_sels lw_privs ++ tables_1
theorem lw_privs_ok : ∀ q ∈ lw_privs, lw_okq q := by
  show ∀ q ∈ lw_privs_1 ++ (lw_privs_2 ++ (lw_privs_3 ++ (lw_privs_4 ++ (lw_privs_5)))), lw_okq q
  exact List.forall_mem_append.mpr ⟨lw_r1, List.forall_mem_append.mpr ⟨lw_r2, List.forall_mem_append.mpr ⟨lw_r3, List.forall_mem_append.mpr ⟨lw_r4, lw_r5⟩⟩⟩⟩
def va_AOA (ty : FieldType) (U : State) : Prop := (Cond.arrayOver (.array ty)).before #[] U = true
theorem va_AOA.use {ty : FieldType} {A : Array Value} {U : State} (h : va_AOA ty U) : (Cond.arrayOver (.array ty)).before A U = true := h
/-! ===== BEGIN new T[n][m]: the outer array a place, the inner ones among the pooled ===== -/
/-- f, but v at every address of l -/
def vr_up {α : Type} (f : Nat → α) (l : List Nat) (v : α) : Nat → α := fun a => if a ∈ l then v else f a
theorem vr_up_in {α : Type} {f : Nat → α} {l : List Nat} {v : α} {a : Nat} (h : a ∈ l) : vr_up f l v a = v := if_pos h
theorem vr_up_ne {α : Type} {f : Nat → α} {l : List Nat} {v : α} {a : Nat} (h : a ∉ l) : vr_up f l v a = f a := if_neg h
theorem vr_rows {L l : List Nat} {f : Nat → va_E} {e : va_E} (h : ∀ a, a ∈ l → a ∉ L) : va_pl L f ++ l.map (fun a => (a, e)) = va_pl (L ++ l) (vr_up f l e) := by
  unfold va_pl
  rw [List.map_append]
  congr 1
  · apply List.map_congr_left
    intro a ha
    rw [vr_up_ne (fun q => h a q ha)]
  · apply List.map_congr_left
    intro a ha
    rw [vr_up_in ha]
theorem vr_lay {X rows : va_W} {x : Nat × va_E} {pl : va_W} {D : va_G} {cl : List vw_C} {H : Heap} (hP : va_P D cl (((X ++ pl) ++ [x]) ++ rows) H) : va_P D cl ((X ++ [x]) ++ (pl ++ rows)) H := by
  rw [List.append_assoc (X ++ pl)] at hP
  have h := va_P.swap hP
  rw [← List.append_assoc X] at h
  have h2 := va_P.swap h
  rw [List.append_assoc (X ++ [x])] at h2
  exact h2
theorem vr_layD {X rows : va_W} {x : Nat × va_E} {pl : va_W} {A : Nat → Prop} (hD : va_D A (((X ++ pl) ++ [x]) ++ rows)) : va_D A ((X ++ [x]) ++ (pl ++ rows)) := by
  rw [List.append_assoc (X ++ pl)] at hD
  have h := va_D.swap hD
  rw [← List.append_assoc X] at h
  have h2 := va_D.swap h
  rw [List.append_assoc (X ++ [x])] at h2
  exact h2
theorem vr_outer (c : ClassId) (N h0 : Nat) : ∀ i : Nat, Jvm.Free.Multi.outerC c N h0 i = arrV c N (fun j => va_rf (if j < i then some (h0 + 1 + j) else none))
  | 0 => by
    show ({ cls := c, slots := Array.replicate N .null, vm := .none } : Cell) = _
    rw [arrV_new]
    refine congrArg (arrV c N) (funext fun j => ?_)
    simp [va_rf]
  | i + 1 => by
    show (Jvm.Free.Multi.outerC c N h0 i).setSlot i (.ref (h0 + 1 + i)) = _
    rw [vr_outer c N h0 i, arrV_store]
    refine congrArg (arrV c N) (funext fun j => ?_)
    by_cases e : j = i
    · subst e
      simp [updV, va_rf]
    · by_cases h : j < i
      · simp [updV, e, h, Nat.lt_succ_of_lt h]
      · simp [updV, e, h, show ¬ j < i + 1 by omega]
section VGM
variable {p : Program} {l : Launch} {e : Env} {R : Room} {s : State} {m : MethodId} {args : Array Value} {below : List Frame} {meth : Method} {c : Code} {H : Heap} {locs : List Loc} {cells slots : Nat} {Q : State → Prop}
variable {cc : ByteArray} {pc : Nat} {ls : Array Slot} {rest : List Value} {D : va_G} {cl : List vw_C} {A : Nat → Prop} {a : Nat} {tys : List (ClassId × FieldType)} {ws : va_W} {H0 : Heap}
theorem va_mna {X : va_W} {L : List Nat} {f : Nat → va_E} {cc : ByteArray} (hexec : p.tables.exec = Jvm.exec) (hb : c.code = cc) {own : String} {index : Nat} {ty : FieldType} {cy : ClassId} (hown : s.vm.findClass own = some m.cls) (hclink : (Cond.classLink own index ("[" ++ (FieldType.array ty).toString)).before args s = true) (hover : va_AOA ty s) (harr : (Cond.arrayClass ty).before args s = true) (hcy : s.vm.findClass (FieldType.array ty).toString = some cy)
    (hK : va_K D cl tys s) (hP : va_P D cl (X ++ va_pl L f) H) (hD : va_D A (X ++ va_pl L f)) (hS : va_S A H0 H locs) (hA : ∀ q, H0.size ≤ q → A q) {n k : Int32} {N' K' : Nat} {z : vp_A} (hn : ¬ n < 0) (hk : ¬ k < 0) (hN : n.toNatClampNeg = N') (hM : k.toNatClampNeg = K')
    (hb1 : N' * 4 ≤ 536870912) (hb2 : K' * componentBytes ty ≤ 536870912) (hb3 : K' ≤ 536870912) (hdf : fits ty (defaultValue ty) = true) (hdd : (defaultValue ty).isDefault = true) (hcells : cells + (1 + N') ≤ R.cells) (hslots : slots + (N' + N' * K') ≤ R.slots) (hz : ∀ c : ClassId, Jvm.Free.Multi.innerC c K' (defaultValue ty) = vp_cell c z) (hdg : decode cc pc = .ok (.multianewarray index 2, 4))
    (kk : ∀ (q : Nat) (r : Nat → Nat) (cA : ClassId) (H1 : Heap), (∀ i j : Nat, i < N' → j < N' → r i = r j → i = j) → (∀ i : Nat, i < N' → r i ∉ L) → va_K D cl (tys ++ [(cA, .array ty)]) s →
      va_P D cl ((X ++ [(q, .inl (cA, N', .inr (.inr (.inr (.inr (fun i => if i < N' then some (r i) else none))))))]) ++ va_pl (L ++ (List.range N').map r) (vr_up f ((List.range N').map r) (.inl (cy, z)))) H1 → va_D A ((X ++ [(q, .inl (cA, N', .inr (.inr (.inr (.inr (fun i => if i < N' then some (r i) else none))))))]) ++ va_pl (L ++ (List.range N').map r) (vr_up f ((List.range N').map r) (.inl (cy, z)))) → va_S A H0 H1 locs →
      W p l e R s m args below meth c H1 locs (cells + 1 + N') (slots + N' + N' * K') Q (F0 m (pc + 4) ls (.ref q :: rest))) : W p l e R s m args below meth c H locs cells slots Q (F0 m pc ls (.int k :: .int n :: rest)) := by
  subst hN
  subst hM
  intro T hT Xs
  obtain ⟨vm₁, cA, comp, -, fA, fC, hO, -, X', step⟩ := Xs.multianewarray2F hexec hown hclink (va_AOA.use hover) harr (g := F0 m pc ls (.int k :: .int n :: rest)) rfl (by rw [hb]; exact hdg) rfl hn hk hb1 hb2 hb3 hdf hdd hcells hslots
  have ec : some cy = some comp := hcy.symm.trans fC
  cases ec
  generalize hF : Jvm.Free.Multi.fill (T.setVm vm₁) cA cy n.toNatClampNeg k.toNatClampNeg (defaultValue ty) n.toNatClampNeg = F at X' step
  have hTh : (T.setVm vm₁).heap = H := hT
  obtain ⟨f1, f2, -, -⟩ := Jvm.Free.Multi.fill_facts (T.setVm vm₁) cA cy n.toNatClampNeg k.toNatClampNeg (defaultValue ty) n.toNatClampNeg
  rw [hF, hTh] at f1 f2
  have hold : ∀ x : Nat, x < H.size → F.heap[x]? = H[x]? := fun x hx => by
    have := Jvm.Free.Multi.fill_old (T.setVm vm₁) cA cy n.toNatClampNeg k.toNatClampNeg (defaultValue ty) (a := x) (by rw [hTh]; exact hx) n.toNatClampNeg
    rw [hF, hTh] at this
    exact this
  have hrow : ∀ j : Nat, j < n.toNatClampNeg → F.heap[H.size + 1 + j]? = some (vp_cell cy z) := fun j hj => by
    have := Jvm.Free.Multi.fill_inner (T.setVm vm₁) cA cy n.toNatClampNeg k.toNatClampNeg (defaultValue ty) n.toNatClampNeg j hj
    rw [hF, hTh, hz] at this
    exact this
  have hout : Jvm.Free.Multi.outerC cA n.toNatClampNeg H.size n.toNatClampNeg = vp_cell cA (n.toNatClampNeg, .inr (.inr (.inr (.inr (fun i => if i < n.toNatClampNeg then some (H.size + 1 + i) else none))))) := by
    rw [vp_cell_q]
    exact vr_outer cA n.toNatClampNeg H.size n.toNatClampNeg
  rw [hout] at f2
  have hlt : ∀ a, a ∈ L → a < H.size := fun a ha => by
    obtain ⟨k9, hk9⟩ := va_pl_get (X := X) (f := f) ha
    exact (hP k9 _ hk9).lt
  have hnl : ∀ i : Nat, i < n.toNatClampNeg → H.size + 1 + i ∉ L := fun i _ h => by
    have := hlt _ h
    omega
  have hnm : ∀ a, a ∈ (List.range n.toNatClampNeg).map (fun i => H.size + 1 + i) → a ∉ L := fun a ha h => by
    obtain ⟨i, -, rfl⟩ := List.mem_map.mp ha
    have := hlt _ h
    omega
  have hP0 : va_P D cl (X ++ va_pl L f) F.heap := hP.kept (fun k9 x hx => hold x.1 ((hP k9 x hx).lt))
  have hP1 : va_P D cl ((X ++ va_pl L f) ++ [(H.size, .inl (cA, n.toNatClampNeg, .inr (.inr (.inr (.inr (fun i => if i < n.toNatClampNeg then some (H.size + 1 + i) else none))))))]) F.heap := hP0.app (fun k9 x hx => by
    have h0 : k9 < 1 := (List.getElem?_eq_some_iff.mp hx).1
    rw [show k9 = 0 by omega] at hx
    cases hx
    exact f2)
  have hP2 : va_P D cl (((X ++ va_pl L f) ++ [(H.size, .inl (cA, n.toNatClampNeg, .inr (.inr (.inr (.inr (fun i => if i < n.toNatClampNeg then some (H.size + 1 + i) else none))))))]) ++ ((List.range n.toNatClampNeg).map (fun i => H.size + 1 + i)).map (fun a => (a, .inl (cy, z)))) F.heap := hP1.app (fun k9 x hx => by
    obtain ⟨a, ha, rfl⟩ := List.mem_map.mp (List.mem_of_getElem? hx)
    obtain ⟨i, hi, rfl⟩ := List.mem_map.mp ha
    exact hrow i (List.mem_range.mp hi))
  have hD2 : va_D A (((X ++ va_pl L f) ++ [(H.size, .inl (cA, n.toNatClampNeg, .inr (.inr (.inr (.inr (fun i => if i < n.toNatClampNeg then some (H.size + 1 + i) else none))))))]) ++ ((List.range n.toNatClampNeg).map (fun i => H.size + 1 + i)).map (fun a => (a, .inl (cy, z)))) := by
    have hD1 := hD.push (e := .inl (cA, n.toNatClampNeg, .inr (.inr (.inr (.inr (fun i => if i < n.toNatClampNeg then some (H.size + 1 + i) else none)))))) hP rfl (hA _ hS.1)
    generalize hW1 : (X ++ va_pl L f) ++ [(H.size, .inl (cA, n.toNatClampNeg, .inr (.inr (.inr (.inr (fun i => if i < n.toNatClampNeg then some (H.size + 1 + i) else none))))))] = W1 at hD1 hP1 ⊢
    have hle : ∀ (k9 : Nat) (x : Nat × va_E), W1[k9]? = some x → x.1 ≤ H.size := fun k9 x hx => by
      rw [← hW1] at hx
      by_cases hl : k9 < (X ++ va_pl L f).length
      · rw [List.getElem?_append_left hl] at hx
        exact Nat.le_of_lt ((hP k9 x hx).lt)
      · rw [List.getElem?_append_right (by omega)] at hx
        have h0 : k9 - (X ++ va_pl L f).length < 1 := (List.getElem?_eq_some_iff.mp hx).1
        rw [show k9 - (X ++ va_pl L f).length = 0 by omega] at hx
        cases hx
        exact Nat.le_refl _
    have hr : ∀ (k9 : Nat) (x : Nat × va_E), (((List.range n.toNatClampNeg).map (fun i => H.size + 1 + i)).map (fun a => ((a, .inl (cy, z)) : Nat × va_E)))[k9]? = some x → x.1 = H.size + 1 + k9 := fun k9 x hx => by
      rw [List.getElem?_map, List.getElem?_map] at hx
      by_cases h9 : k9 < n.toNatClampNeg
      · rw [List.getElem?_range h9] at hx
        cases hx
        rfl
      · have hn0 : (List.range n.toNatClampNeg)[k9]? = none := List.getElem?_eq_none (by rw [List.length_range]; omega)
        rw [hn0] at hx
        cases hx
    refine ⟨fun i j x y hi hj hxy => ?_, fun k9 x hx => ?_⟩
    · by_cases h1 : i < W1.length <;> by_cases h2 : j < W1.length
      · rw [List.getElem?_append_left h1] at hi
        rw [List.getElem?_append_left h2] at hj
        exact hD1.1 i j x y hi hj hxy
      · rw [List.getElem?_append_left h1] at hi
        rw [List.getElem?_append_right (by omega)] at hj
        have := hle _ _ hi
        have := hr _ _ hj
        omega
      · rw [List.getElem?_append_right (by omega)] at hi
        rw [List.getElem?_append_left h2] at hj
        have := hle _ _ hj
        have := hr _ _ hi
        omega
      · rw [List.getElem?_append_right (by omega)] at hi hj
        have := hr _ _ hi
        have := hr _ _ hj
        omega
    · by_cases h1 : k9 < W1.length
      · rw [List.getElem?_append_left h1] at hx
        exact hD1.2 k9 x hx
      · rw [List.getElem?_append_right (by omega)] at hx
        have := hr _ _ hx
        exact hA _ (by have := hS.1; omega)
  have hAr : ArrOfT s cA (.array ty) := fun N9 z9 => by
    obtain ⟨-, k9, hk9, cm9, hkk9⟩ := (hO 0 0 0).1
    exact ⟨(fun q hq => by cases hq), k9, hk9, cm9, hkk9⟩
  have hK2 : va_K D cl (tys ++ [(cA, .array ty)]) s := ⟨hK.1, fun k9 x hx => by
    by_cases hl : k9 < tys.length
    · rw [List.getElem?_append_left hl] at hx
      exact hK.2 k9 x hx
    · rw [List.getElem?_append_right (by omega)] at hx
      have h0 : k9 - tys.length < 1 := (List.getElem?_eq_some_iff.mp hx).1
      rw [show k9 - tys.length = 0 by omega] at hx
      cases hx
      exact ⟨hAr, fA⟩⟩
  obtain ⟨t, a1, b1⟩ := kk H.size (fun i => H.size + 1 + i) cA F.heap (fun i j _ _ h => by have h9 : H.size + 1 + i = H.size + 1 + j := h; omega) hnl hK2 (by rw [← vr_rows hnm]; exact vr_lay hP2) (by rw [← vr_rows hnm]; exact vr_layD hD2) ⟨by rw [f1]; have := hS.1; omega, fun x h1 h2 => (hold x (Nat.lt_of_lt_of_le h1 hS.1)).trans (hS.2.1 x h1 h2), hS.2.2⟩ F rfl X'
  refine ⟨t, step t ?_, b1⟩
  have e : T.heap.size = H.size := by rw [hT]
  rw [e]
  exact a1
end VGM
/-! ===== END ===== -/

/-! ===== BEGIN printed: names, fields, word lists, decode rows ===== -/
def RX0 : String := "VotedHill$Ballot"
def TX0 : u_T := fun k => match k with
  | 0 => ("VotedHill$Ballot", "choices", "[I", true)
  | _ => ("VotedHill$Ballot", "heaps", "[I", true)
def tyX0 : Nat → FieldType := fun k => match k with
  | 0 => .array .int
  | _ => .array .int
abbrev wsX00 : List Cond := u_ws RX0 TX0 2
theorem nmX0 : ∀ a, a < 2 → ∀ b, b < 2 → a ≠ b → (TX0 a).2.1 ≠ (TX0 b).2.1 := by decide +kernel
theorem tyX0_ok : ∀ k, k < 2 → parseFieldDescriptor (TX0 k).2.2.1 = some (tyX0 k) := by decide +kernel
abbrev cX0_init : ByteArray := prog_2_method_1_code
def yX0_init : MethodName := ⟨RX0, "<init>", "()V"⟩
abbrev cX0_hold : ByteArray := prog_2_method_2_code
def yX0_hold : MethodName := ⟨RX0, "hold", "(LVotedHill$Land;II)V"⟩
abbrev cX0_choiceOf : ByteArray := prog_2_method_3_code
def yX0_choiceOf : MethodName := ⟨RX0, "choiceOf", "(LVotedHill$Land;III)I"⟩
abbrev cX0_heap : ByteArray := prog_2_method_4_code
def yX0_heap : MethodName := ⟨RX0, "heap", "(LVotedHill$Land;II)V"⟩
abbrev cX0_winner : ByteArray := prog_2_method_5_code
def yX0_winner : MethodName := ⟨RX0, "winner", "()I"⟩
abbrev cX0_lead : ByteArray := prog_2_method_6_code
def yX0_lead : MethodName := ⟨RX0, "lead", "()I"⟩
abbrev cX0_votersFor : ByteArray := prog_2_method_7_code
def yX0_votersFor : MethodName := ⟨RX0, "votersFor", "(LVotedHill$Land;I)I"⟩
abbrev cX0_cheapestBought : ByteArray := prog_2_method_8_code
def yX0_cheapestBought : MethodName := ⟨RX0, "cheapestBought", "(LVotedHill$Land;I)I"⟩
def RX1 : String := "VotedHill$Chance"
def TX1 : u_T := fun k => match k with
  | 0 => ("VotedHill$Chance", "upperNumber", "J", false)
  | 1 => ("VotedHill$Chance", "lowerNumber", "J", false)
  | 2 => ("VotedHill$Chance", "weights", "[J", true)
  | _ => ("VotedHill$Chance", "allWeight", "J", false)
def tyX1 : Nat → FieldType := fun k => match k with
  | 0 => .long
  | 1 => .long
  | 2 => .array .long
  | _ => .long
abbrev wsX10 : List Cond := u_ws RX1 TX1 4
theorem nmX1 : ∀ a, a < 4 → ∀ b, b < 4 → a ≠ b → (TX1 a).2.1 ≠ (TX1 b).2.1 := by decide +kernel
theorem tyX1_ok : ∀ k, k < 4 → parseFieldDescriptor (TX1 k).2.2.1 = some (tyX1 k) := by decide +kernel
abbrev cX1_init : ByteArray := prog_3_method_1_code
def yX1_init : MethodName := ⟨RX1, "<init>", "()V"⟩
abbrev cX1_weigh : ByteArray := prog_3_method_2_code
def yX1_weigh : MethodName := ⟨RX1, "weigh", "(LVotedHill$Land;LVotedHill$Ballot;I)V"⟩
abbrev cX1_weightOf : ByteArray := prog_3_method_3_code
def yX1_weightOf : MethodName := ⟨RX1, "weightOf", "(LVotedHill$Land;LVotedHill$Ballot;II)J"⟩
abbrev cX1_tell : ByteArray := prog_3_method_4_code
def yX1_tell : MethodName := ⟨RX1, "tell", "(J)V"⟩
abbrev cX1_commonDivisor : ByteArray := prog_3_method_5_code
def yX1_commonDivisor : MethodName := ⟨RX1, "commonDivisor", "(JJ)J"⟩
def RX2 : String := "VotedHill$Clues"
def TX2 : u_T := fun k => match k with
  | 0 => ("VotedHill$Clues", "leastPart", "I", false)
  | _ => ("VotedHill$Clues", "tally", "[I", true)
def tyX2 : Nat → FieldType := fun k => match k with
  | 0 => .int
  | _ => .array .int
abbrev wsX20 : List Cond := u_ws RX2 TX2 2
theorem nmX2 : ∀ a, a < 2 → ∀ b, b < 2 → a ≠ b → (TX2 a).2.1 ≠ (TX2 b).2.1 := by decide +kernel
theorem tyX2_ok : ∀ k, k < 2 → parseFieldDescriptor (TX2 k).2.2.1 = some (tyX2 k) := by decide +kernel
abbrev cX2_init : ByteArray := prog_4_method_1_code
def yX2_init : MethodName := ⟨RX2, "<init>", "()V"⟩
abbrev cX2_fittingCells : ByteArray := prog_4_method_2_code
def yX2_fittingCells : MethodName := ⟨RX2, "fittingCells", "(LVotedHill$Land;LVotedHill$Strip;)I"⟩
abbrev cX2_fittingKinds : ByteArray := prog_4_method_3_code
def yX2_fittingKinds : MethodName := ⟨RX2, "fittingKinds", "(LVotedHill$Land;ILVotedHill$Strip;)I"⟩
abbrev cX2_bestTeller : ByteArray := prog_4_method_4_code
def yX2_bestTeller : MethodName := ⟨RX2, "bestTeller", "(LVotedHill$Land;I)I"⟩
abbrev cX2_bestCell : ByteArray := prog_4_method_5_code
def yX2_bestCell : MethodName := ⟨RX2, "bestCell", "(LVotedHill$Land;II)I"⟩
abbrev cX2_startTally : ByteArray := prog_4_method_6_code
def yX2_startTally : MethodName := ⟨RX2, "startTally", "()V"⟩
abbrev cX2_addToTally : ByteArray := prog_4_method_7_code
def yX2_addToTally : MethodName := ⟨RX2, "addToTally", "(I)V"⟩
abbrev cX2_takeIfLess : ByteArray := prog_4_method_8_code
def yX2_takeIfLess : MethodName := ⟨RX2, "takeIfLess", "(II)I"⟩
def RX3 : String := "VotedHill$Land"
def TX3 : u_T := fun k => match k with
  | 0 => ("VotedHill$Land", "columns", "I", false)
  | 1 => ("VotedHill$Land", "lines", "I", false)
  | 2 => ("VotedHill$Land", "people", "I", false)
  | 3 => ("VotedHill$Land", "mountain", "I", false)
  | 4 => ("VotedHill$Land", "back", "I", false)
  | 5 => ("VotedHill$Land", "years", "I", false)
  | 6 => ("VotedHill$Land", "deeds", "I", false)
  | 7 => ("VotedHill$Land", "kind", "[I", true)
  | 8 => ("VotedHill$Land", "house", "[I", true)
  | 9 => ("VotedHill$Land", "hearths", "[I", true)
  | 10 => ("VotedHill$Land", "oldMountain", "[I", true)
  | 11 => ("VotedHill$Land", "oldBack", "[I", true)
  | 12 => ("VotedHill$Land", "oldYears", "[I", true)
  | 13 => ("VotedHill$Land", "movedOne", "[I", true)
  | _ => ("VotedHill$Land", "oldHouse", "[I", true)
def tyX3 : Nat → FieldType := fun k => match k with
  | 0 => .int
  | 1 => .int
  | 2 => .int
  | 3 => .int
  | 4 => .int
  | 5 => .int
  | 6 => .int
  | 7 => .array .int
  | 8 => .array .int
  | 9 => .array .int
  | 10 => .array .int
  | 11 => .array .int
  | 12 => .array .int
  | 13 => .array .int
  | _ => .array .int
abbrev wsX30 : List Cond := u_ws RX3 TX3 15
theorem nmX3 : ∀ a, a < 15 → ∀ b, b < 15 → a ≠ b → (TX3 a).2.1 ≠ (TX3 b).2.1 := by decide +kernel
theorem tyX3_ok : ∀ k, k < 15 → parseFieldDescriptor (TX3 k).2.2.1 = some (tyX3 k) := by decide +kernel
abbrev cX3_init : ByteArray := prog_5_method_1_code
def yX3_init : MethodName := ⟨RX3, "<init>", "()V"⟩
abbrev cX3_clear : ByteArray := prog_5_method_2_code
def yX3_clear : MethodName := ⟨RX3, "clear", "()V"⟩
abbrev cX3_become : ByteArray := prog_5_method_3_code
def yX3_become : MethodName := ⟨RX3, "become", "(LVotedHill$Land;)V"⟩
abbrev cX3_settle : ByteArray := prog_5_method_4_code
def yX3_settle : MethodName := ⟨RX3, "settle", "(III)V"⟩
abbrev cX3_isEmpty : ByteArray := prog_5_method_5_code
def yX3_isEmpty : MethodName := ⟨RX3, "isEmpty", "()Z"⟩
abbrev cX3_cells : ByteArray := prog_5_method_6_code
def yX3_cells : MethodName := ⟨RX3, "cells", "()I"⟩
abbrev cX3_hasCell : ByteArray := prog_5_method_7_code
def yX3_hasCell : MethodName := ⟨RX3, "hasCell", "(I)Z"⟩
abbrev cX3_hasOne : ByteArray := prog_5_method_8_code
def yX3_hasOne : MethodName := ⟨RX3, "hasOne", "(I)Z"⟩
abbrev cX3_far : ByteArray := prog_5_method_9_code
def yX3_far : MethodName := ⟨RX3, "far", "(II)I"⟩
abbrev cX3_beside : ByteArray := prog_5_method_10_code
def yX3_beside : MethodName := ⟨RX3, "beside", "(II)I"⟩
abbrev cX3_canGo : ByteArray := prog_5_method_11_code
def yX3_canGo : MethodName := ⟨RX3, "canGo", "(III)Z"⟩
abbrev cX3_against : ByteArray := prog_5_method_12_code
def yX3_against : MethodName := ⟨RX3, "against", "(I)I"⟩
abbrev cX3_isOf : ByteArray := prog_5_method_13_code
def yX3_isOf : MethodName := ⟨RX3, "isOf", "(II)Z"⟩
abbrev cX3_liesNorth : ByteArray := prog_5_method_14_code
def yX3_liesNorth : MethodName := ⟨RX3, "liesNorth", "(II)Z"⟩
abbrev cX3_gains : ByteArray := prog_5_method_15_code
def yX3_gains : MethodName := ⟨RX3, "gains", "(II)I"⟩
abbrev cX3_gainsAs : ByteArray := prog_5_method_16_code
def yX3_gainsAs : MethodName := ⟨RX3, "gainsAs", "(III)I"⟩
abbrev cX3_gainOf : ByteArray := prog_5_method_17_code
def yX3_gainOf : MethodName := ⟨RX3, "gainOf", "(IIZ)I"⟩
abbrev cX3_gainfulCells : ByteArray := prog_5_method_18_code
def yX3_gainfulCells : MethodName := ⟨RX3, "gainfulCells", "(I)I"⟩
abbrev cX3_worth : ByteArray := prog_5_method_19_code
def yX3_worth : MethodName := ⟨RX3, "worth", "(I)I"⟩
abbrev cX3_hearthsOf : ByteArray := prog_5_method_20_code
def yX3_hearthsOf : MethodName := ⟨RX3, "hearthsOf", "(I)I"⟩
abbrev cX3_allHearths : ByteArray := prog_5_method_21_code
def yX3_allHearths : MethodName := ⟨RX3, "allHearths", "()I"⟩
abbrev cX3_widows : ByteArray := prog_5_method_22_code
def yX3_widows : MethodName := ⟨RX3, "widows", "()I"⟩
abbrev cX3_goInYear : ByteArray := prog_5_method_23_code
def yX3_goInYear : MethodName := ⟨RX3, "goInYear", "(I)V"⟩
abbrev cX3_bePushed : ByteArray := prog_5_method_24_code
def yX3_bePushed : MethodName := ⟨RX3, "bePushed", "(I)V"⟩
abbrev cX3_moveHouse : ByteArray := prog_5_method_25_code
def yX3_moveHouse : MethodName := ⟨RX3, "moveHouse", "(II)V"⟩
abbrev cX3_remember : ByteArray := prog_5_method_26_code
def yX3_remember : MethodName := ⟨RX3, "remember", "(I)Z"⟩
abbrev cX3_undoFrom : ByteArray := prog_5_method_27_code
def yX3_undoFrom : MethodName := ⟨RX3, "undoFrom", "(I)V"⟩
def RX4 : String := "VotedHill$Paths"
def TX4 : u_T := fun k => match k with
  | 0 => ("VotedHill$Paths", "steps", "[I", true)
  | _ => ("VotedHill$Paths", "queue", "[I", true)
def tyX4 : Nat → FieldType := fun k => match k with
  | 0 => .array .int
  | _ => .array .int
abbrev wsX40 : List Cond := u_ws RX4 TX4 2
theorem nmX4 : ∀ a, a < 2 → ∀ b, b < 2 → a ≠ b → (TX4 a).2.1 ≠ (TX4 b).2.1 := by decide +kernel
theorem tyX4_ok : ∀ k, k < 2 → parseFieldDescriptor (TX4 k).2.2.1 = some (tyX4 k) := by decide +kernel
abbrev cX4_init : ByteArray := prog_6_method_1_code
def yX4_init : MethodName := ⟨RX4, "<init>", "()V"⟩
abbrev cX4_steps : ByteArray := prog_6_method_2_code
def yX4_steps : MethodName := ⟨RX4, "steps", "(LVotedHill$Land;III)I"⟩
abbrev cX4_reachBeside : ByteArray := prog_6_method_3_code
def yX4_reachBeside : MethodName := ⟨RX4, "reachBeside", "(LVotedHill$Land;III)I"⟩
abbrev cX4_firstWay : ByteArray := prog_6_method_4_code
def yX4_firstWay : MethodName := ⟨RX4, "firstWay", "(LVotedHill$Land;I)I"⟩
def RX5 : String := "VotedHill$Plans"
def TX5 : u_T := fun k => match k with
  | 0 => ("VotedHill$Plans", "worths", "[I", true)
  | 1 => ("VotedHill$Plans", "bests", "[[I", true)
  | _ => ("VotedHill$Plans", "duels", "[[I", true)
def tyX5 : Nat → FieldType := fun k => match k with
  | 0 => .array .int
  | 1 => .array (.array .int)
  | _ => .array (.array .int)
abbrev wsX50 : List Cond := u_ws RX5 TX5 3
theorem nmX5 : ∀ a, a < 3 → ∀ b, b < 3 → a ≠ b → (TX5 a).2.1 ≠ (TX5 b).2.1 := by decide +kernel
theorem tyX5_ok : ∀ k, k < 3 → parseFieldDescriptor (TX5 k).2.2.1 = some (tyX5 k) := by decide +kernel
abbrev cX5_init : ByteArray := prog_7_method_1_code
def yX5_init : MethodName := ⟨RX5, "<init>", "()V"⟩
abbrev cX5_bestCourse : ByteArray := prog_7_method_2_code
def yX5_bestCourse : MethodName := ⟨RX5, "bestCourse", "(LVotedHill$Land;I[I)I"⟩
abbrev cX5_weighCells : ByteArray := prog_7_method_3_code
def yX5_weighCells : MethodName := ⟨RX5, "weighCells", "(LVotedHill$Land;)V"⟩
abbrev cX5_bestWay : ByteArray := prog_7_method_4_code
def yX5_bestWay : MethodName := ⟨RX5, "bestWay", "(LVotedHill$Land;III)I"⟩
abbrev cX5_gainedBy : ByteArray := prog_7_method_5_code
def yX5_gainedBy : MethodName := ⟨RX5, "gainedBy", "(LVotedHill$Land;III)I"⟩
abbrev cX5_duelWorth : ByteArray := prog_7_method_6_code
def yX5_duelWorth : MethodName := ⟨RX5, "duelWorth", "(LVotedHill$Land;I)I"⟩
abbrev cX5_wanted : ByteArray := prog_7_method_7_code
def yX5_wanted : MethodName := ⟨RX5, "wanted", "(LVotedHill$Land;II)I"⟩
def RX6 : String := "VotedHill$Reader"
def TX6 : u_T := fun k => match k with
  | 0 => ("VotedHill$Reader", "source", "LVotedHill$Strip;", false)
  | _ => ("VotedHill$Reader", "place", "I", false)
def tyX6 : Nat → FieldType := fun k => match k with
  | 0 => .object "VotedHill$Strip"
  | _ => .int
abbrev wsX60 : List Cond := u_ws RX6 TX6 2
theorem nmX6 : ∀ a, a < 2 → ∀ b, b < 2 → a ≠ b → (TX6 a).2.1 ≠ (TX6 b).2.1 := by decide +kernel
theorem tyX6_ok : ∀ k, k < 2 → parseFieldDescriptor (TX6 k).2.2.1 = some (tyX6 k) := by decide +kernel
abbrev cX6_init : ByteArray := prog_8_method_1_code
def yX6_init : MethodName := ⟨RX6, "<init>", "()V"⟩
abbrev cX6_readLand : ByteArray := prog_8_method_2_code
def yX6_readLand : MethodName := ⟨RX6, "readLand", "(LVotedHill$Strip;LVotedHill$Land;)I"⟩
abbrev cX6_readGround : ByteArray := prog_8_method_3_code
def yX6_readGround : MethodName := ⟨RX6, "readGround", "(LVotedHill$Land;)Z"⟩
abbrev cX6_readOne : ByteArray := prog_8_method_4_code
def yX6_readOne : MethodName := ⟨RX6, "readOne", "(LVotedHill$Land;)Z"⟩
abbrev cX6_kindOf : ByteArray := prog_8_method_5_code
def yX6_kindOf : MethodName := ⟨RX6, "kindOf", "(I)I"⟩
abbrev cX6_figure : ByteArray := prog_8_method_6_code
def yX6_figure : MethodName := ⟨RX6, "figure", "(II)I"⟩
abbrev cX6_atEnd : ByteArray := prog_8_method_7_code
def yX6_atEnd : MethodName := ⟨RX6, "atEnd", "()Z"⟩
abbrev cX6_sign : ByteArray := prog_8_method_8_code
def yX6_sign : MethodName := ⟨RX6, "sign", "()I"⟩
abbrev cX6_skipBlanks : ByteArray := prog_8_method_9_code
def yX6_skipBlanks : MethodName := ⟨RX6, "skipBlanks", "()V"⟩
def RX7 : String := "VotedHill$Strip"
def TX7 : u_T := fun k => match k with
  | 0 => ("VotedHill$Strip", "places", "[I", true)
  | _ => ("VotedHill$Strip", "size", "I", false)
def tyX7 : Nat → FieldType := fun k => match k with
  | 0 => .array .int
  | _ => .int
abbrev wsX70 : List Cond := u_ws RX7 TX7 2
theorem nmX7 : ∀ a, a < 2 → ∀ b, b < 2 → a ≠ b → (TX7 a).2.1 ≠ (TX7 b).2.1 := by decide +kernel
theorem tyX7_ok : ∀ k, k < 2 → parseFieldDescriptor (TX7 k).2.2.1 = some (tyX7 k) := by decide +kernel
abbrev cX7_init : ByteArray := prog_9_method_1_code
def yX7_init : MethodName := ⟨RX7, "<init>", "(I)V"⟩
abbrev cX7_isMissing : ByteArray := prog_9_method_2_code
def yX7_isMissing : MethodName := ⟨RX7, "isMissing", "()Z"⟩
abbrev cX7_remove : ByteArray := prog_9_method_3_code
def yX7_remove : MethodName := ⟨RX7, "remove", "()V"⟩
abbrev cX7_renew : ByteArray := prog_9_method_4_code
def yX7_renew : MethodName := ⟨RX7, "renew", "(II)V"⟩
abbrev cX7_holds : ByteArray := prog_9_method_5_code
def yX7_holds : MethodName := ⟨RX7, "holds", "(II)Z"⟩
abbrev cX7_mixInto : ByteArray := prog_9_method_6_code
def yX7_mixInto : MethodName := ⟨RX7, "mixInto", "(J)J"⟩
def RX8 : String := "VotedHill$Years"
def TX8 : u_T := fun k => match k with
  | 0 => ("VotedHill$Years", "cell", "I", false)
  | 1 => ("VotedHill$Years", "period", "I", false)
  | 2 => ("VotedHill$Years", "back", "I", false)
  | _ => ("VotedHill$Years", "seenIn", "[I", true)
def tyX8 : Nat → FieldType := fun k => match k with
  | 0 => .int
  | 1 => .int
  | 2 => .int
  | _ => .array .int
abbrev wsX80 : List Cond := u_ws RX8 TX8 4
theorem nmX8 : ∀ a, a < 4 → ∀ b, b < 4 → a ≠ b → (TX8 a).2.1 ≠ (TX8 b).2.1 := by decide +kernel
theorem tyX8_ok : ∀ k, k < 4 → parseFieldDescriptor (TX8 k).2.2.1 = some (tyX8 k) := by decide +kernel
abbrev cX8_init : ByteArray := prog_10_method_1_code
def yX8_init : MethodName := ⟨RX8, "<init>", "()V"⟩
abbrev cX8_begin : ByteArray := prog_10_method_2_code
def yX8_begin : MethodName := ⟨RX8, "begin", "(LVotedHill$Land;)V"⟩
abbrev cX8_pass : ByteArray := prog_10_method_3_code
def yX8_pass : MethodName := ⟨RX8, "pass", "(LVotedHill$Land;LVotedHill$Ballot;)V"⟩
abbrev cX8_untilRepeat : ByteArray := prog_10_method_4_code
def yX8_untilRepeat : MethodName := ⟨RX8, "untilRepeat", "(LVotedHill$Land;LVotedHill$Ballot;)I"⟩
def RX9 : String := "VotedHill"
def TX9 : u_T := fun k => match k with
  | 0 => ("VotedHill", "rows", "[LVotedHill$Strip;", true)
  | 1 => ("VotedHill", "texts", "[LVotedHill$Strip;", true)
  | 2 => ("VotedHill", "land", "LVotedHill$Land;", true)
  | 3 => ("VotedHill", "draft", "LVotedHill$Land;", true)
  | 4 => ("VotedHill", "kept", "[LVotedHill$Land;", true)
  | 5 => ("VotedHill", "reader", "LVotedHill$Reader;", true)
  | 6 => ("VotedHill", "ballot", "LVotedHill$Ballot;", true)
  | 7 => ("VotedHill", "years", "LVotedHill$Years;", true)
  | 8 => ("VotedHill", "plans", "LVotedHill$Plans;", true)
  | 9 => ("VotedHill", "clues", "LVotedHill$Clues;", true)
  | 10 => ("VotedHill", "paths", "LVotedHill$Paths;", true)
  | 11 => ("VotedHill", "chance", "LVotedHill$Chance;", true)
  | 12 => ("VotedHill", "found", "[I", true)
  | 13 => ("VotedHill", "latestFinding", "I", false)
  | _ => ("VotedHill", "told", "I", false)
def tyX9 : Nat → FieldType := fun k => match k with
  | 0 => .array (.object "VotedHill$Strip")
  | 1 => .array (.object "VotedHill$Strip")
  | 2 => .object "VotedHill$Land"
  | 3 => .object "VotedHill$Land"
  | 4 => .array (.object "VotedHill$Land")
  | 5 => .object "VotedHill$Reader"
  | 6 => .object "VotedHill$Ballot"
  | 7 => .object "VotedHill$Years"
  | 8 => .object "VotedHill$Plans"
  | 9 => .object "VotedHill$Clues"
  | 10 => .object "VotedHill$Paths"
  | 11 => .object "VotedHill$Chance"
  | 12 => .array .int
  | 13 => .int
  | _ => .int
abbrev wsX90 : List Cond := u_ws RX9 TX9 15
theorem nmX9 : ∀ a, a < 15 → ∀ b, b < 15 → a ≠ b → (TX9 a).2.1 ≠ (TX9 b).2.1 := by decide +kernel
theorem tyX9_ok : ∀ k, k < 15 → parseFieldDescriptor (TX9 k).2.2.1 = some (tyX9 k) := by decide +kernel
abbrev cX9_init : ByteArray := prog_1_method_1_code
def yX9_init : MethodName := ⟨RX9, "<init>", "()V"⟩
abbrev cX9_row : ByteArray := prog_1_method_2_code
def yX9_row : MethodName := ⟨RX9, "row", "(II)I"⟩
abbrev cX9_lay : ByteArray := prog_1_method_3_code
def yX9_lay : MethodName := ⟨RX9, "lay", "(III)I"⟩
abbrev cX9_at : ByteArray := prog_1_method_4_code
def yX9_at : MethodName := ⟨RX9, "at", "(II)I"⟩
abbrev cX9_tear : ByteArray := prog_1_method_5_code
def yX9_tear : MethodName := ⟨RX9, "tear", "(I)I"⟩
abbrev cX9_copy : ByteArray := prog_1_method_6_code
def yX9_copy : MethodName := ⟨RX9, "copy", "(IIIII)I"⟩
abbrev cX9_mean : ByteArray := prog_1_method_7_code
def yX9_mean : MethodName := ⟨RX9, "mean", "(I)I"⟩
abbrev cX9_text : ByteArray := prog_1_method_8_code
def yX9_text : MethodName := ⟨RX9, "text", "(II)I"⟩
abbrev cX9_put : ByteArray := prog_1_method_9_code
def yX9_put : MethodName := ⟨RX9, "put", "(III)I"⟩
abbrev cX9_fault : ByteArray := prog_1_method_10_code
def yX9_fault : MethodName := ⟨RX9, "fault", "(I)I"⟩
abbrev cX9_land : ByteArray := prog_1_method_11_code
def yX9_land : MethodName := ⟨RX9, "land", "(I)I"⟩
abbrev cX9_one : ByteArray := prog_1_method_12_code
def yX9_one : MethodName := ⟨RX9, "one", "(II)I"⟩
abbrev cX9_mark : ByteArray := prog_1_method_13_code
def yX9_mark : MethodName := ⟨RX9, "mark", "(II)I"⟩
abbrev cX9_gain : ByteArray := prog_1_method_14_code
def yX9_gain : MethodName := ⟨RX9, "gain", "(II)I"⟩
abbrev cX9_year : ByteArray := prog_1_method_15_code
def yX9_year : MethodName := ⟨RX9, "year", "()I"⟩
abbrev cX9_push : ByteArray := prog_1_method_16_code
def yX9_push : MethodName := ⟨RX9, "push", "(I)I"⟩
abbrev cX9_house : ByteArray := prog_1_method_17_code
def yX9_house : MethodName := ⟨RX9, "house", "(II)I"⟩
abbrev cX9_undo : ByteArray := prog_1_method_18_code
def yX9_undo : MethodName := ⟨RX9, "undo", "(I)I"⟩
abbrev cX9_keep : ByteArray := prog_1_method_19_code
def yX9_keep : MethodName := ⟨RX9, "keep", "(I)I"⟩
abbrev cX9_on : ByteArray := prog_1_method_20_code
def yX9_on : MethodName := ⟨RX9, "on", "(I)I"⟩
abbrev cX9_votes : ByteArray := prog_1_method_21_code
def yX9_votes : MethodName := ⟨RX9, "votes", "(I)I"⟩
abbrev cX9_carries : ByteArray := prog_1_method_22_code
def yX9_carries : MethodName := ⟨RX9, "carries", "()I"⟩
abbrev cX9_buy : ByteArray := prog_1_method_23_code
def yX9_buy : MethodName := ⟨RX9, "buy", "(I)I"⟩
abbrev cX9_then : ByteArray := prog_1_method_24_code
def yX9_then : MethodName := ⟨RX9, "then", "(I)I"⟩
abbrev cX9_when : ByteArray := prog_1_method_25_code
def yX9_when : MethodName := ⟨RX9, "when", "(I)I"⟩
abbrev cX9_round : ByteArray := prog_1_method_26_code
def yX9_round : MethodName := ⟨RX9, "round", "()I"⟩
abbrev cX9_course : ByteArray := prog_1_method_27_code
def yX9_course : MethodName := ⟨RX9, "course", "(II)I"⟩
abbrev cX9_fits : ByteArray := prog_1_method_28_code
def yX9_fits : MethodName := ⟨RX9, "fits", "(I)I"⟩
abbrev cX9_next : ByteArray := prog_1_method_29_code
def yX9_next : MethodName := ⟨RX9, "next", "(I)I"⟩
abbrev cX9_kinds : ByteArray := prog_1_method_30_code
def yX9_kinds : MethodName := ⟨RX9, "kinds", "(II)I"⟩
abbrev cX9_test : ByteArray := prog_1_method_31_code
def yX9_test : MethodName := ⟨RX9, "test", "(II)I"⟩
abbrev cX9_way : ByteArray := prog_1_method_32_code
def yX9_way : MethodName := ⟨RX9, "way", "(II)I"⟩
abbrev cX9_parts : ByteArray := prog_1_method_33_code
def yX9_parts : MethodName := ⟨RX9, "parts", "(II)I"⟩
abbrev cX9_duel : ByteArray := prog_1_method_34_code
def yX9_duel : MethodName := ⟨RX9, "duel", "(I)I"⟩
abbrev cX9_odds : ByteArray := prog_1_method_35_code
def yX9_odds : MethodName := ⟨RX9, "odds", "(II)I"⟩
abbrev cX9_mid : ByteArray := prog_1_method_36_code
def yX9_mid : MethodName := ⟨RX9, "mid", "(I)I"⟩
abbrev cX9_lots : ByteArray := prog_1_method_37_code
def yX9_lots : MethodName := ⟨RX9, "lots", "(II)I"⟩
abbrev cX9_asked : ByteArray := prog_1_method_38_code
def yX9_asked : MethodName := ⟨RX9, "asked", "()I"⟩
abbrev cX9_upper : ByteArray := prog_1_method_39_code
def yX9_upper : MethodName := ⟨RX9, "upper", "()J"⟩
abbrev cX9_lower : ByteArray := prog_1_method_40_code
def yX9_lower : MethodName := ⟨RX9, "lower", "()J"⟩
abbrev cX9_count : ByteArray := prog_1_method_41_code
def yX9_count : MethodName := ⟨RX9, "count", "(I)I"⟩
abbrev cX9_finding : ByteArray := prog_1_method_42_code
def yX9_finding : MethodName := ⟨RX9, "finding", "()I"⟩
abbrev cX9_findings : ByteArray := prog_1_method_43_code
def yX9_findings : MethodName := ⟨RX9, "findings", "(I)I"⟩
abbrev cX9_digest : ByteArray := prog_1_method_44_code
def yX9_digest : MethodName := ⟨RX9, "digest", "()J"⟩
abbrev cX9_isRow : ByteArray := prog_1_method_45_code
def yX9_isRow : MethodName := ⟨RX9, "isRow", "(I)Z"⟩
abbrev cX9_isText : ByteArray := prog_1_method_46_code
def yX9_isText : MethodName := ⟨RX9, "isText", "(I)Z"⟩
abbrev cX9_isWay : ByteArray := prog_1_method_47_code
def yX9_isWay : MethodName := ⟨RX9, "isWay", "(I)Z"⟩
abbrev cX9_refuse : ByteArray := prog_1_method_48_code
def yX9_refuse : MethodName := ⟨RX9, "refuse", "(I)I"⟩
abbrev cX9_placeRefusal : ByteArray := prog_1_method_49_code
def yX9_placeRefusal : MethodName := ⟨RX9, "placeRefusal", "(LVotedHill$Strip;I)I"⟩
abbrev cX9_cellPairsRefusal : ByteArray := prog_1_method_50_code
def yX9_cellPairsRefusal : MethodName := ⟨RX9, "cellPairsRefusal", "(I)I"⟩
abbrev cX9_kindPairsRefusal : ByteArray := prog_1_method_51_code
def yX9_kindPairsRefusal : MethodName := ⟨RX9, "kindPairsRefusal", "(II)I"⟩
abbrev cX9_pairsRefusal : ByteArray := prog_1_method_52_code
def yX9_pairsRefusal : MethodName := ⟨RX9, "pairsRefusal", "(LVotedHill$Strip;I)I"⟩
abbrev cX9_aboutOne : ByteArray := prog_1_method_53_code
def yX9_aboutOne : MethodName := ⟨RX9, "aboutOne", "(II)I"⟩
abbrev cX9_abstainersBeside : ByteArray := prog_1_method_54_code
def yX9_abstainersBeside : MethodName := ⟨RX9, "abstainersBeside", "(I)I"⟩
abbrev cX9_passYear : ByteArray := prog_1_method_55_code
def yX9_passYear : MethodName := ⟨RX9, "passYear", "()I"⟩
abbrev cX9_present : ByteArray := prog_1_method_56_code
def yX9_present : MethodName := ⟨RX9, "present", "([LVotedHill$Strip;)I"⟩
abbrev cX9_keptLands : ByteArray := prog_1_method_57_code
def yX9_keptLands : MethodName := ⟨RX9, "keptLands", "()I"⟩
def RX10 : String := "VotedHillModel"
def TX10 : u_T := fun k => match k with
  | 0 => ("VotedHillModel", "latest", "I", false)
  | 1 => ("VotedHillModel", "came", "[I", true)
  | 2 => ("VotedHillModel", "asked", "I", false)
  | 3 => ("VotedHillModel", "upper", "J", false)
  | 4 => ("VotedHillModel", "lower", "J", false)
  | 5 => ("VotedHillModel", "sizes", "[I", true)
  | 6 => ("VotedHillModel", "rows", "[I", true)
  | 7 => ("VotedHillModel", "copied", "[I", true)
  | 8 => ("VotedHillModel", "textSizes", "[I", true)
  | 9 => ("VotedHillModel", "bytes", "[B", true)
  | 10 => ("VotedHillModel", "n", "I", false)
  | 11 => ("VotedHillModel", "columns", "I", false)
  | 12 => ("VotedHillModel", "lines", "I", false)
  | 13 => ("VotedHillModel", "kindOf", "[I", true)
  | 14 => ("VotedHillModel", "hearths", "[I", true)
  | 15 => ("VotedHillModel", "now", "[I", true)
  | 16 => ("VotedHillModel", "tried", "[I", true)
  | 17 => ("VotedHillModel", "readAt", "I", false)
  | 18 => ("VotedHillModel", "readMany", "I", false)
  | 19 => ("VotedHillModel", "isHead", "Z", false)
  | 20 => ("VotedHillModel", "readHead", "[I", true)
  | 21 => ("VotedHillModel", "readOne", "[I", true)
  | 22 => ("VotedHillModel", "counts", "[I", true)
  | 23 => ("VotedHillModel", "deedMany", "I", false)
  | 24 => ("VotedHillModel", "log", "[I", true)
  | 25 => ("VotedHillModel", "isKept", "[Z", true)
  | 26 => ("VotedHillModel", "keptMany", "[I", true)
  | 27 => ("VotedHillModel", "keptNow", "[I", true)
  | 28 => ("VotedHillModel", "keptLog", "[I", true)
  | 29 => ("VotedHillModel", "met", "[I", true)
  | 30 => ("VotedHillModel", "ways", "[I", true)
  | 31 => ("VotedHillModel", "steps", "[I", true)
  | 32 => ("VotedHillModel", "ends", "[I", true)
  | 33 => ("VotedHillModel", "ahead", "[I", true)
  | 34 => ("VotedHillModel", "whole", "J", false)
  | 35 => ("VotedHillModel", "waySum", "J", false)
  | 36 => ("VotedHillModel", "gainSum", "J", false)
  | _ => ("VotedHillModel", "hash", "J", false)
def tyX10 : Nat → FieldType := fun k => match k with
  | 0 => .int
  | 1 => .array .int
  | 2 => .int
  | 3 => .long
  | 4 => .long
  | 5 => .array .int
  | 6 => .array .int
  | 7 => .array .int
  | 8 => .array .int
  | 9 => .array .byte
  | 10 => .int
  | 11 => .int
  | 12 => .int
  | 13 => .array .int
  | 14 => .array .int
  | 15 => .array .int
  | 16 => .array .int
  | 17 => .int
  | 18 => .int
  | 19 => .boolean
  | 20 => .array .int
  | 21 => .array .int
  | 22 => .array .int
  | 23 => .int
  | 24 => .array .int
  | 25 => .array .boolean
  | 26 => .array .int
  | 27 => .array .int
  | 28 => .array .int
  | 29 => .array .int
  | 30 => .array .int
  | 31 => .array .int
  | 32 => .array .int
  | 33 => .array .int
  | 34 => .long
  | 35 => .long
  | 36 => .long
  | _ => .long
abbrev wsX100 : List Cond := u_ws RX10 TX10 38
theorem nmX10 : ∀ a, a < 38 → ∀ b, b < 38 → a ≠ b → (TX10 a).2.1 ≠ (TX10 b).2.1 := by decide +kernel
theorem tyX10_ok : ∀ k, k < 38 → parseFieldDescriptor (TX10 k).2.2.1 = some (tyX10 k) := by decide +kernel
abbrev cX10_init : ByteArray := prog_12_method_1_code
def yX10_init : MethodName := ⟨RX10, "<init>", "()V"⟩
abbrev cX10_in : ByteArray := prog_12_method_2_code
def yX10_in : MethodName := ⟨RX10, "in", "(III)Z"⟩
abbrev cX10_has : ByteArray := prog_12_method_3_code
def yX10_has : MethodName := ⟨RX10, "has", "(II)Z"⟩
abbrev cX10_bits : ByteArray := prog_12_method_4_code
def yX10_bits : MethodName := ⟨RX10, "bits", "(I)I"⟩
abbrev cX10_meets : ByteArray := prog_12_method_5_code
def yX10_meets : MethodName := ⟨RX10, "meets", "(I)I"⟩
abbrev cX10_finding : ByteArray := prog_12_method_6_code
def yX10_finding : MethodName := ⟨RX10, "finding", "()I"⟩
abbrev cX10_findings : ByteArray := prog_12_method_7_code
def yX10_findings : MethodName := ⟨RX10, "findings", "(I)I"⟩
abbrev cX10_tells : ByteArray := prog_12_method_8_code
def yX10_tells : MethodName := ⟨RX10, "tells", "(II)I"⟩
abbrev cX10_asked : ByteArray := prog_12_method_9_code
def yX10_asked : MethodName := ⟨RX10, "asked", "()I"⟩
abbrev cX10_fraction : ByteArray := prog_12_method_10_code
def yX10_fraction : MethodName := ⟨RX10, "fraction", "(JJ)I"⟩
abbrev cX10_upper : ByteArray := prog_12_method_11_code
def yX10_upper : MethodName := ⟨RX10, "upper", "()J"⟩
abbrev cX10_lower : ByteArray := prog_12_method_12_code
def yX10_lower : MethodName := ⟨RX10, "lower", "()J"⟩
abbrev cX10_isRow : ByteArray := prog_12_method_13_code
def yX10_isRow : MethodName := ⟨RX10, "isRow", "(I)Z"⟩
abbrev cX10_rowAt : ByteArray := prog_12_method_14_code
def yX10_rowAt : MethodName := ⟨RX10, "rowAt", "(II)I"⟩
abbrev cX10_row : ByteArray := prog_12_method_15_code
def yX10_row : MethodName := ⟨RX10, "row", "(II)I"⟩
abbrev cX10_lay : ByteArray := prog_12_method_16_code
def yX10_lay : MethodName := ⟨RX10, "lay", "(III)I"⟩
abbrev cX10_at : ByteArray := prog_12_method_17_code
def yX10_at : MethodName := ⟨RX10, "at", "(II)I"⟩
abbrev cX10_tear : ByteArray := prog_12_method_18_code
def yX10_tear : MethodName := ⟨RX10, "tear", "(I)I"⟩
abbrev cX10_copy : ByteArray := prog_12_method_19_code
def yX10_copy : MethodName := ⟨RX10, "copy", "(IIIII)I"⟩
abbrev cX10_mean : ByteArray := prog_12_method_20_code
def yX10_mean : MethodName := ⟨RX10, "mean", "(I)I"⟩
abbrev cX10_isText : ByteArray := prog_12_method_21_code
def yX10_isText : MethodName := ⟨RX10, "isText", "(I)Z"⟩
abbrev cX10_text : ByteArray := prog_12_method_22_code
def yX10_text : MethodName := ⟨RX10, "text", "(II)I"⟩
abbrev cX10_put : ByteArray := prog_12_method_23_code
def yX10_put : MethodName := ⟨RX10, "put", "(III)I"⟩
abbrev cX10_byteAt : ByteArray := prog_12_method_24_code
def yX10_byteAt : MethodName := ⟨RX10, "byteAt", "(II)I"⟩
abbrev cX10_kindBy : ByteArray := prog_12_method_25_code
def yX10_kindBy : MethodName := ⟨RX10, "kindBy", "(I)I"⟩
abbrev cX10_figure : ByteArray := prog_12_method_26_code
def yX10_figure : MethodName := ⟨RX10, "figure", "(III)I"⟩
abbrev cX10_readsHead : ByteArray := prog_12_method_27_code
def yX10_readsHead : MethodName := ⟨RX10, "readsHead", "(I)Z"⟩
abbrev cX10_readsOne : ByteArray := prog_12_method_28_code
def yX10_readsOne : MethodName := ⟨RX10, "readsOne", "(I)Z"⟩
abbrev cX10_faultOf : ByteArray := prog_12_method_29_code
def yX10_faultOf : MethodName := ⟨RX10, "faultOf", "(I)I"⟩
abbrev cX10_fault : ByteArray := prog_12_method_30_code
def yX10_fault : MethodName := ⟨RX10, "fault", "(I)I"⟩
abbrev cX10_land : ByteArray := prog_12_method_31_code
def yX10_land : MethodName := ⟨RX10, "land", "(I)I"⟩
abbrev cX10_isOne : ByteArray := prog_12_method_32_code
def yX10_isOne : MethodName := ⟨RX10, "isOne", "(I)Z"⟩
abbrev cX10_isCell : ByteArray := prog_12_method_33_code
def yX10_isCell : MethodName := ⟨RX10, "isCell", "(I)Z"⟩
abbrev cX10_apart : ByteArray := prog_12_method_34_code
def yX10_apart : MethodName := ⟨RX10, "apart", "(II)I"⟩
abbrev cX10_far : ByteArray := prog_12_method_35_code
def yX10_far : MethodName := ⟨RX10, "far", "(II)I"⟩
abbrev cX10_beside : ByteArray := prog_12_method_36_code
def yX10_beside : MethodName := ⟨RX10, "beside", "(II)I"⟩
abbrev cX10_against : ByteArray := prog_12_method_37_code
def yX10_against : MethodName := ⟨RX10, "against", "(I)I"⟩
abbrev cX10_gainBy : ByteArray := prog_12_method_38_code
def yX10_gainBy : MethodName := ⟨RX10, "gainBy", "(III)I"⟩
abbrev cX10_gainOn : ByteArray := prog_12_method_39_code
def yX10_gainOn : MethodName := ⟨RX10, "gainOn", "(II)I"⟩
abbrev cX10_all : ByteArray := prog_12_method_40_code
def yX10_all : MethodName := ⟨RX10, "all", "(I)I"⟩
abbrev cX10_canBe : ByteArray := prog_12_method_41_code
def yX10_canBe : MethodName := ⟨RX10, "canBe", "(III)Z"⟩
abbrev cX10_voteOn : ByteArray := prog_12_method_42_code
def yX10_voteOn : MethodName := ⟨RX10, "voteOn", "(III)I"⟩
abbrev cX10_layCounts : ByteArray := prog_12_method_43_code
def yX10_layCounts : MethodName := ⟨RX10, "layCounts", "(IIIII)V"⟩
abbrev cX10_carried : ByteArray := prog_12_method_44_code
def yX10_carried : MethodName := ⟨RX10, "carried", "()I"⟩
abbrev cX10_everybody : ByteArray := prog_12_method_45_code
def yX10_everybody : MethodName := ⟨RX10, "everybody", "()I"⟩
abbrev cX10_carriedFrom : ByteArray := prog_12_method_46_code
def yX10_carriedFrom : MethodName := ⟨RX10, "carriedFrom", "(II)I"⟩
abbrev cX10_passes : ByteArray := prog_12_method_47_code
def yX10_passes : MethodName := ⟨RX10, "passes", "([I)V"⟩
abbrev cX10_copyNow : ByteArray := prog_12_method_48_code
def yX10_copyNow : MethodName := ⟨RX10, "copyNow", "()V"⟩
abbrev cX10_oneTells : ByteArray := prog_12_method_49_code
def yX10_oneTells : MethodName := ⟨RX10, "oneTells", "(II)I"⟩
abbrev cX10_one : ByteArray := prog_12_method_50_code
def yX10_one : MethodName := ⟨RX10, "one", "(II)I"⟩
abbrev cX10_silent : ByteArray := prog_12_method_51_code
def yX10_silent : MethodName := ⟨RX10, "silent", "(I)I"⟩
abbrev cX10_cellsOf : ByteArray := prog_12_method_52_code
def yX10_cellsOf : MethodName := ⟨RX10, "cellsOf", "(I)I"⟩
abbrev cX10_mark : ByteArray := prog_12_method_53_code
def yX10_mark : MethodName := ⟨RX10, "mark", "(II)I"⟩
abbrev cX10_gain : ByteArray := prog_12_method_54_code
def yX10_gain : MethodName := ⟨RX10, "gain", "(II)I"⟩
abbrev cX10_remember : ByteArray := prog_12_method_55_code
def yX10_remember : MethodName := ⟨RX10, "remember", "()V"⟩
abbrev cX10_year : ByteArray := prog_12_method_56_code
def yX10_year : MethodName := ⟨RX10, "year", "()I"⟩
abbrev cX10_push : ByteArray := prog_12_method_57_code
def yX10_push : MethodName := ⟨RX10, "push", "(I)I"⟩
abbrev cX10_house : ByteArray := prog_12_method_58_code
def yX10_house : MethodName := ⟨RX10, "house", "(II)I"⟩
abbrev cX10_undo : ByteArray := prog_12_method_59_code
def yX10_undo : MethodName := ⟨RX10, "undo", "(I)I"⟩
abbrev cX10_keep : ByteArray := prog_12_method_60_code
def yX10_keep : MethodName := ⟨RX10, "keep", "(I)I"⟩
abbrev cX10_on : ByteArray := prog_12_method_61_code
def yX10_on : MethodName := ⟨RX10, "on", "(I)I"⟩
abbrev cX10_need : ByteArray := prog_12_method_62_code
def yX10_need : MethodName := ⟨RX10, "need", "(Z)I"⟩
abbrev cX10_votes : ByteArray := prog_12_method_63_code
def yX10_votes : MethodName := ⟨RX10, "votes", "(I)I"⟩
abbrev cX10_carries : ByteArray := prog_12_method_64_code
def yX10_carries : MethodName := ⟨RX10, "carries", "()I"⟩
abbrev cX10_hearthsOf : ByteArray := prog_12_method_65_code
def yX10_hearthsOf : MethodName := ⟨RX10, "hearthsOf", "(I)I"⟩
abbrev cX10_buy : ByteArray := prog_12_method_66_code
def yX10_buy : MethodName := ⟨RX10, "buy", "(I)I"⟩
abbrev cX10_then : ByteArray := prog_12_method_67_code
def yX10_then : MethodName := ⟨RX10, "then", "(I)I"⟩
abbrev cX10_when : ByteArray := prog_12_method_68_code
def yX10_when : MethodName := ⟨RX10, "when", "(I)I"⟩
abbrev cX10_round : ByteArray := prog_12_method_69_code
def yX10_round : MethodName := ⟨RX10, "round", "()I"⟩
abbrev cX10_gainedBy : ByteArray := prog_12_method_70_code
def yX10_gainedBy : MethodName := ⟨RX10, "gainedBy", "(II)I"⟩
abbrev cX10_course : ByteArray := prog_12_method_71_code
def yX10_course : MethodName := ⟨RX10, "course", "(II)I"⟩
abbrev cX10_needPairs : ByteArray := prog_12_method_72_code
def yX10_needPairs : MethodName := ⟨RX10, "needPairs", "(IZZ)I"⟩
abbrev cX10_fitSet : ByteArray := prog_12_method_73_code
def yX10_fitSet : MethodName := ⟨RX10, "fitSet", "(I)I"⟩
abbrev cX10_fits : ByteArray := prog_12_method_74_code
def yX10_fits : MethodName := ⟨RX10, "fits", "(I)I"⟩
abbrev cX10_alike : ByteArray := prog_12_method_75_code
def yX10_alike : MethodName := ⟨RX10, "alike", "(II)I"⟩
abbrev cX10_next : ByteArray := prog_12_method_76_code
def yX10_next : MethodName := ⟨RX10, "next", "(I)I"⟩
abbrev cX10_kindSet : ByteArray := prog_12_method_77_code
def yX10_kindSet : MethodName := ⟨RX10, "kindSet", "(II)I"⟩
abbrev cX10_kinds : ByteArray := prog_12_method_78_code
def yX10_kinds : MethodName := ⟨RX10, "kinds", "(II)I"⟩
abbrev cX10_alikeKinds : ByteArray := prog_12_method_79_code
def yX10_alikeKinds : MethodName := ⟨RX10, "alikeKinds", "(III)I"⟩
abbrev cX10_test : ByteArray := prog_12_method_80_code
def yX10_test : MethodName := ⟨RX10, "test", "(II)I"⟩
abbrev cX10_laySteps : ByteArray := prog_12_method_81_code
def yX10_laySteps : MethodName := ⟨RX10, "laySteps", "(II)V"⟩
abbrev cX10_way : ByteArray := prog_12_method_82_code
def yX10_way : MethodName := ⟨RX10, "way", "(II)I"⟩
abbrev cX10_parts : ByteArray := prog_12_method_83_code
def yX10_parts : MethodName := ⟨RX10, "parts", "(II)I"⟩
abbrev cX10_duel : ByteArray := prog_12_method_84_code
def yX10_duel : MethodName := ⟨RX10, "duel", "(I)I"⟩
abbrev cX10_layParts : ByteArray := prog_12_method_85_code
def yX10_layParts : MethodName := ⟨RX10, "layParts", "(II)V"⟩
abbrev cX10_odds : ByteArray := prog_12_method_86_code
def yX10_odds : MethodName := ⟨RX10, "odds", "(II)I"⟩
abbrev cX10_mid : ByteArray := prog_12_method_87_code
def yX10_mid : MethodName := ⟨RX10, "mid", "(I)I"⟩
abbrev cX10_lots : ByteArray := prog_12_method_88_code
def yX10_lots : MethodName := ⟨RX10, "lots", "(II)I"⟩
abbrev cX10_counted : ByteArray := prog_12_method_89_code
def yX10_counted : MethodName := ⟨RX10, "counted", "(I)I"⟩
abbrev cX10_count : ByteArray := prog_12_method_90_code
def yX10_count : MethodName := ⟨RX10, "count", "(I)I"⟩
abbrev cX10_mix : ByteArray := prog_12_method_91_code
def yX10_mix : MethodName := ⟨RX10, "mix", "(J)V"⟩
abbrev cX10_mixLand : ByteArray := prog_12_method_92_code
def yX10_mixLand : MethodName := ⟨RX10, "mixLand", "()V"⟩
abbrev cX10_digest : ByteArray := prog_12_method_93_code
def yX10_digest : MethodName := ⟨RX10, "digest", "()J"⟩
def RJ6 : String := "java/lang/Integer"
def TJ6 : u_T := fun k => match k with
  | _ => ("", "", "", false)
def tyJ6 : Nat → FieldType := fun k => match k with
  | _ => .int
abbrev wsJ60 : List Cond := u_ws RJ6 TJ6 0
theorem nmJ6 : ∀ a, a < 0 → ∀ b, b < 0 → a ≠ b → (TJ6 a).2.1 ≠ (TJ6 b).2.1 := by decide +kernel
theorem tyJ6_ok : ∀ k, k < 0 → parseFieldDescriptor (TJ6 k).2.2.1 = some (tyJ6 k) := by decide +kernel
abbrev cJ6_bitCount_0f7a4 : ByteArray := prog_13_method_49_code
def yJ6_bitCount_0f7a4 : MethodName := ⟨RJ6, "bitCount", "(I)I"⟩
def RJ9 : String := "java/lang/Math"
def TJ9 : u_T := fun k => match k with
  | _ => ("", "", "", false)
def tyJ9 : Nat → FieldType := fun k => match k with
  | _ => .int
abbrev wsJ90 : List Cond := u_ws RJ9 TJ9 0
theorem nmJ9 : ∀ a, a < 0 → ∀ b, b < 0 → a ≠ b → (TJ9 a).2.1 ≠ (TJ9 b).2.1 := by decide +kernel
theorem tyJ9_ok : ∀ k, k < 0 → parseFieldDescriptor (TJ9 k).2.2.1 = some (tyJ9 k) := by decide +kernel
abbrev cJ9_abs_0f7a4 : ByteArray := prog_14_method_59_code
def yJ9_abs_0f7a4 : MethodName := ⟨RJ9, "abs", "(I)I"⟩
abbrev cJ9_max_7cf53 : ByteArray := prog_14_method_65_code
def yJ9_max_7cf53 : MethodName := ⟨RJ9, "max", "(II)I"⟩
abbrev cJ9_min_7cf53 : ByteArray := prog_14_method_69_code
def yJ9_min_7cf53 : MethodName := ⟨RJ9, "min", "(II)I"⟩
def RJ10 : String := "java/lang/System"
def TJ10 : u_T := fun k => match k with
  | _ => ("", "", "", false)
def tyJ10 : Nat → FieldType := fun k => match k with
  | _ => .int
abbrev wsJ100 : List Cond := u_ws RJ10 TJ10 0
theorem nmJ10 : ∀ a, a < 0 → ∀ b, b < 0 → a ≠ b → (TJ10 a).2.1 ≠ (TJ10 b).2.1 := by decide +kernel
theorem tyJ10_ok : ∀ k, k < 0 → parseFieldDescriptor (TJ10 k).2.2.1 = some (tyJ10 k) := by decide +kernel
def RL : String := "VotedHillLaw"
abbrev cL_law : ByteArray := code
def yL_law : MethodName := ⟨RL, "law", "([I)Z"⟩
abbrev vwCl : List vw_C := [(RX0, TX0, 2), (RX1, TX1, 4), (RX2, TX2, 2), (RX3, TX3, 15), (RX4, TX4, 2), (RX5, TX5, 3), (RX6, TX6, 2), (RX7, TX7, 2), (RX8, TX8, 4), (RX9, TX9, 15), (RX10, TX10, 38)]
end
section
/-! the rows of every method: place, instruction, length, what it links to, the place of its word in lw_tbl -/
abbrev Row : Type := Nat × Instr × Nat × Int × Nat
def rw_0_0 : List Row := [(0, .new 7, 3, 9, 80), (3, .dup, 1, 0, 0), (4, .invokespecial 9, 3, 79, 82), (7, .astore_n 1, 1, 0, 0), (8, .new 10, 3, 10, 908), (11, .dup, 1, 0, 0), (12, .invokespecial 12, 3, 136, 910), (15, .astore_n 2, 1, 0, 0), (16, .iconst 0, 1, 0, 0), (17, .istore_n 3, 1, 0, 0), (18, .iload_n 3, 1, 0, 0), (19, .aload_n 0, 1, 0, 0), (20, .arraylength, 1, 0, 0), (21, .bipush 6, 2, 0, 0), (23, .isub, 1, 0, 0), (24, .if_icmp .gt 1334, 3, 1358, 0), (27, .aload_n 0, 1, 0, 0), (28, .iload_n 3, 1, 0, 0), (29, .iaload, 1, 0, 0), (30, .bipush 63, 2, 0, 0), (32, .iand, 1, 0, 0), (33, .tableswitch 1319 0 42 #[187, 220, 263, 296, 319, 382, 405, 438, 481, 504, 527, 560, 593, 626, 639, 662, 695, 718, 741, 764, 787, 800, 823, 846, 869, 882, 915, 938, 961, 994, 1027, 1060, 1093, 1116, 1149, 1172, 1205, 1218, 1232, 1246, 1269, 1282, 1305], 187, 0, 0), (220, .aload_n 1, 1, 0, 0), (221, .aload_n 0, 1, 0, 0), (222, .iload_n 3, 1, 0, 0), (223, .iconst 1, 1, 0, 0), (224, .iadd, 1, 0, 0), (225, .iaload, 1, 0, 0), (226, .aload_n 0, 1, 0, 0), (227, .iload_n 3, 1, 0, 0), (228, .iconst 2, 1, 0, 0), (229, .iadd, 1, 0, 0), (230, .iaload, 1, 0, 0), (231, .invokevirtual 13, 3, 80, 349), (234, .aload_n 2, 1, 0, 0), (235, .aload_n 0, 1, 0, 0), (236, .iload_n 3, 1, 0, 0), (237, .iconst 1, 1, 0, 0), (238, .iadd, 1, 0, 0), (239, .iaload, 1, 0, 0), (240, .aload_n 0, 1, 0, 0), (241, .iload_n 3, 1, 0, 0), (242, .iconst 2, 1, 0, 0), (243, .iadd, 1, 0, 0), (244, .iaload, 1, 0, 0), (245, .invokevirtual 17, 3, 150, 1054), (248, .if_icmp .eq 1104, 3, 1352, 0), (251, .iconst 0, 1, 0, 0), (252, .ireturn, 1, 0, 0), (253, .aload_n 1, 1, 0, 0), (254, .aload_n 0, 1, 0, 0), (255, .iload_n 3, 1, 0, 0), (256, .iconst 1, 1, 0, 0), (257, .iadd, 1, 0, 0), (258, .iaload, 1, 0, 0), (259, .aload_n 0, 1, 0, 0), (260, .iload_n 3, 1, 0, 0), (261, .iconst 2, 1, 0, 0), (262, .iadd, 1, 0, 0), (263, .iaload, 1, 0, 0), (264, .aload_n 0, 1, 0, 0), (265, .iload_n 3, 1, 0, 0), (266, .iconst 3, 1, 0, 0), (267, .iadd, 1, 0, 0), (268, .iaload, 1, 0, 0), (269, .invokevirtual 18, 3, 81, 367), (272, .aload_n 2, 1, 0, 0), (273, .aload_n 0, 1, 0, 0), (274, .iload_n 3, 1, 0, 0), (275, .iconst 1, 1, 0, 0), (276, .iadd, 1, 0, 0), (277, .iaload, 1, 0, 0), (278, .aload_n 0, 1, 0, 0), (279, .iload_n 3, 1, 0, 0), (280, .iconst 2, 1, 0, 0), (281, .iadd, 1, 0, 0), (282, .iaload, 1, 0, 0), (283, .aload_n 0, 1, 0, 0), (284, .iload_n 3, 1, 0, 0), (285, .iconst 3, 1, 0, 0), (286, .iadd, 1, 0, 0), (287, .iaload, 1, 0, 0), (288, .invokevirtual 22, 3, 151, 1065), (291, .if_icmp .eq 1061, 3, 1352, 0), (294, .iconst 0, 1, 0, 0), (295, .ireturn, 1, 0, 0), (296, .aload_n 1, 1, 0, 0), (297, .aload_n 0, 1, 0, 0), (298, .iload_n 3, 1, 0, 0), (299, .iconst 1, 1, 0, 0), (300, .iadd, 1, 0, 0), (301, .iaload, 1, 0, 0), (302, .aload_n 0, 1, 0, 0), (303, .iload_n 3, 1, 0, 0), (304, .iconst 2, 1, 0, 0), (305, .iadd, 1, 0, 0), (306, .iaload, 1, 0, 0), (307, .invokevirtual 23, 3, 82, 379), (310, .aload_n 2, 1, 0, 0), (311, .aload_n 0, 1, 0, 0)]
def rw_0_1 : List Row := [(312, .iload_n 3, 1, 0, 0), (313, .iconst 1, 1, 0, 0), (314, .iadd, 1, 0, 0), (315, .iaload, 1, 0, 0), (316, .aload_n 0, 1, 0, 0), (317, .iload_n 3, 1, 0, 0), (318, .iconst 2, 1, 0, 0), (319, .iadd, 1, 0, 0), (320, .iaload, 1, 0, 0), (321, .invokevirtual 26, 3, 152, 1077), (324, .if_icmp .eq 1028, 3, 1352, 0), (327, .iconst 0, 1, 0, 0), (328, .ireturn, 1, 0, 0), (329, .aload_n 1, 1, 0, 0), (330, .aload_n 0, 1, 0, 0), (331, .iload_n 3, 1, 0, 0), (332, .iconst 1, 1, 0, 0), (333, .iadd, 1, 0, 0), (334, .iaload, 1, 0, 0), (335, .invokevirtual 27, 3, 83, 383), (338, .aload_n 2, 1, 0, 0), (339, .aload_n 0, 1, 0, 0), (340, .iload_n 3, 1, 0, 0), (341, .iconst 1, 1, 0, 0), (342, .iadd, 1, 0, 0), (343, .iaload, 1, 0, 0), (344, .invokevirtual 31, 3, 153, 1081), (347, .if_icmp .eq 1005, 3, 1352, 0), (350, .iconst 0, 1, 0, 0), (351, .ireturn, 1, 0, 0), (352, .aload_n 1, 1, 0, 0), (353, .aload_n 0, 1, 0, 0), (354, .iload_n 3, 1, 0, 0), (355, .iconst 1, 1, 0, 0), (356, .iadd, 1, 0, 0), (357, .iaload, 1, 0, 0), (358, .aload_n 0, 1, 0, 0), (359, .iload_n 3, 1, 0, 0), (360, .iconst 2, 1, 0, 0), (361, .iadd, 1, 0, 0), (362, .iaload, 1, 0, 0), (363, .aload_n 0, 1, 0, 0), (364, .iload_n 3, 1, 0, 0), (365, .iconst 3, 1, 0, 0), (366, .iadd, 1, 0, 0), (367, .iaload, 1, 0, 0), (368, .aload_n 0, 1, 0, 0), (369, .iload_n 3, 1, 0, 0), (370, .iconst 4, 1, 0, 0), (371, .iadd, 1, 0, 0), (372, .iaload, 1, 0, 0), (373, .aload_n 0, 1, 0, 0), (374, .iload_n 3, 1, 0, 0), (375, .iconst 5, 1, 0, 0), (376, .iadd, 1, 0, 0), (377, .iaload, 1, 0, 0), (378, .invokevirtual 32, 3, 84, 391), (381, .aload_n 2, 1, 0, 0), (382, .aload_n 0, 1, 0, 0), (383, .iload_n 3, 1, 0, 0), (384, .iconst 1, 1, 0, 0), (385, .iadd, 1, 0, 0), (386, .iaload, 1, 0, 0), (387, .aload_n 0, 1, 0, 0), (388, .iload_n 3, 1, 0, 0), (389, .iconst 2, 1, 0, 0), (390, .iadd, 1, 0, 0), (391, .iaload, 1, 0, 0), (392, .aload_n 0, 1, 0, 0), (393, .iload_n 3, 1, 0, 0), (394, .iconst 3, 1, 0, 0), (395, .iadd, 1, 0, 0), (396, .iaload, 1, 0, 0), (397, .aload_n 0, 1, 0, 0), (398, .iload_n 3, 1, 0, 0), (399, .iconst 4, 1, 0, 0), (400, .iadd, 1, 0, 0), (401, .iaload, 1, 0, 0), (402, .aload_n 0, 1, 0, 0), (403, .iload_n 3, 1, 0, 0), (404, .iconst 5, 1, 0, 0), (405, .iadd, 1, 0, 0), (406, .iaload, 1, 0, 0), (407, .invokevirtual 36, 3, 154, 1085), (410, .if_icmp .eq 942, 3, 1352, 0), (413, .iconst 0, 1, 0, 0), (414, .ireturn, 1, 0, 0), (415, .aload_n 1, 1, 0, 0), (416, .aload_n 0, 1, 0, 0), (417, .iload_n 3, 1, 0, 0), (418, .iconst 1, 1, 0, 0), (419, .iadd, 1, 0, 0), (420, .iaload, 1, 0, 0), (421, .invokevirtual 37, 3, 85, 402), (424, .aload_n 2, 1, 0, 0), (425, .aload_n 0, 1, 0, 0), (426, .iload_n 3, 1, 0, 0), (427, .iconst 1, 1, 0, 0), (428, .iadd, 1, 0, 0), (429, .iaload, 1, 0, 0)]
def rw_0_2 : List Row := [(430, .invokevirtual 40, 3, 155, 1089), (433, .if_icmp .eq 919, 3, 1352, 0), (436, .iconst 0, 1, 0, 0), (437, .ireturn, 1, 0, 0), (438, .aload_n 1, 1, 0, 0), (439, .aload_n 0, 1, 0, 0), (440, .iload_n 3, 1, 0, 0), (441, .iconst 1, 1, 0, 0), (442, .iadd, 1, 0, 0), (443, .iaload, 1, 0, 0), (444, .aload_n 0, 1, 0, 0), (445, .iload_n 3, 1, 0, 0), (446, .iconst 2, 1, 0, 0), (447, .iadd, 1, 0, 0), (448, .iaload, 1, 0, 0), (449, .invokevirtual 41, 3, 86, 406), (452, .aload_n 2, 1, 0, 0), (453, .aload_n 0, 1, 0, 0), (454, .iload_n 3, 1, 0, 0), (455, .iconst 1, 1, 0, 0), (456, .iadd, 1, 0, 0), (457, .iaload, 1, 0, 0), (458, .aload_n 0, 1, 0, 0), (459, .iload_n 3, 1, 0, 0), (460, .iconst 2, 1, 0, 0), (461, .iadd, 1, 0, 0), (462, .iaload, 1, 0, 0), (463, .invokevirtual 44, 3, 157, 1093), (466, .if_icmp .eq 886, 3, 1352, 0), (469, .iconst 0, 1, 0, 0), (470, .ireturn, 1, 0, 0), (471, .aload_n 1, 1, 0, 0), (472, .aload_n 0, 1, 0, 0), (473, .iload_n 3, 1, 0, 0), (474, .iconst 1, 1, 0, 0), (475, .iadd, 1, 0, 0), (476, .iaload, 1, 0, 0), (477, .aload_n 0, 1, 0, 0), (478, .iload_n 3, 1, 0, 0), (479, .iconst 2, 1, 0, 0), (480, .iadd, 1, 0, 0), (481, .iaload, 1, 0, 0), (482, .aload_n 0, 1, 0, 0), (483, .iload_n 3, 1, 0, 0), (484, .iconst 3, 1, 0, 0), (485, .iadd, 1, 0, 0), (486, .iaload, 1, 0, 0), (487, .invokevirtual 45, 3, 87, 413), (490, .aload_n 2, 1, 0, 0), (491, .aload_n 0, 1, 0, 0), (492, .iload_n 3, 1, 0, 0), (493, .iconst 1, 1, 0, 0), (494, .iadd, 1, 0, 0), (495, .iaload, 1, 0, 0), (496, .aload_n 0, 1, 0, 0), (497, .iload_n 3, 1, 0, 0), (498, .iconst 2, 1, 0, 0), (499, .iadd, 1, 0, 0), (500, .iaload, 1, 0, 0), (501, .aload_n 0, 1, 0, 0), (502, .iload_n 3, 1, 0, 0), (503, .iconst 3, 1, 0, 0), (504, .iadd, 1, 0, 0), (505, .iaload, 1, 0, 0), (506, .invokevirtual 48, 3, 158, 1100), (509, .if_icmp .eq 843, 3, 1352, 0), (512, .iconst 0, 1, 0, 0), (513, .ireturn, 1, 0, 0), (514, .aload_n 1, 1, 0, 0), (515, .aload_n 0, 1, 0, 0), (516, .iload_n 3, 1, 0, 0), (517, .iconst 1, 1, 0, 0), (518, .iadd, 1, 0, 0), (519, .iaload, 1, 0, 0), (520, .invokevirtual 49, 3, 88, 417), (523, .aload_n 2, 1, 0, 0), (524, .aload_n 0, 1, 0, 0), (525, .iload_n 3, 1, 0, 0), (526, .iconst 1, 1, 0, 0), (527, .iadd, 1, 0, 0), (528, .iaload, 1, 0, 0), (529, .invokevirtual 52, 3, 165, 1104), (532, .if_icmp .eq 820, 3, 1352, 0), (535, .iconst 0, 1, 0, 0), (536, .ireturn, 1, 0, 0), (537, .aload_n 1, 1, 0, 0), (538, .aload_n 0, 1, 0, 0), (539, .iload_n 3, 1, 0, 0), (540, .iconst 1, 1, 0, 0), (541, .iadd, 1, 0, 0), (542, .iaload, 1, 0, 0), (543, .invokevirtual 53, 3, 89, 462), (546, .aload_n 2, 1, 0, 0), (547, .aload_n 0, 1, 0, 0), (548, .iload_n 3, 1, 0, 0), (549, .iconst 1, 1, 0, 0), (550, .iadd, 1, 0, 0), (551, .iaload, 1, 0, 0), (552, .invokevirtual 56, 3, 166, 1131), (555, .if_icmp .eq 797, 3, 1352, 0)]
def rw_0_3 : List Row := [(558, .iconst 0, 1, 0, 0), (559, .ireturn, 1, 0, 0), (560, .aload_n 1, 1, 0, 0), (561, .aload_n 0, 1, 0, 0), (562, .iload_n 3, 1, 0, 0), (563, .iconst 1, 1, 0, 0), (564, .iadd, 1, 0, 0), (565, .iaload, 1, 0, 0), (566, .aload_n 0, 1, 0, 0), (567, .iload_n 3, 1, 0, 0), (568, .iconst 2, 1, 0, 0), (569, .iadd, 1, 0, 0), (570, .iaload, 1, 0, 0), (571, .invokevirtual 57, 3, 90, 472), (574, .aload_n 2, 1, 0, 0), (575, .aload_n 0, 1, 0, 0), (576, .iload_n 3, 1, 0, 0), (577, .iconst 1, 1, 0, 0), (578, .iadd, 1, 0, 0), (579, .iaload, 1, 0, 0), (580, .aload_n 0, 1, 0, 0), (581, .iload_n 3, 1, 0, 0), (582, .iconst 2, 1, 0, 0), (583, .iadd, 1, 0, 0), (584, .iaload, 1, 0, 0), (585, .invokevirtual 60, 3, 185, 1135), (588, .if_icmp .eq 764, 3, 1352, 0), (591, .iconst 0, 1, 0, 0), (592, .ireturn, 1, 0, 0), (593, .aload_n 1, 1, 0, 0), (594, .aload_n 0, 1, 0, 0), (595, .iload_n 3, 1, 0, 0), (596, .iconst 1, 1, 0, 0), (597, .iadd, 1, 0, 0), (598, .iaload, 1, 0, 0), (599, .aload_n 0, 1, 0, 0), (600, .iload_n 3, 1, 0, 0), (601, .iconst 2, 1, 0, 0), (602, .iadd, 1, 0, 0), (603, .iaload, 1, 0, 0), (604, .invokevirtual 61, 3, 91, 521), (607, .aload_n 2, 1, 0, 0), (608, .aload_n 0, 1, 0, 0), (609, .iload_n 3, 1, 0, 0), (610, .iconst 1, 1, 0, 0), (611, .iadd, 1, 0, 0), (612, .iaload, 1, 0, 0), (613, .aload_n 0, 1, 0, 0), (614, .iload_n 3, 1, 0, 0), (615, .iconst 2, 1, 0, 0), (616, .iadd, 1, 0, 0), (617, .iaload, 1, 0, 0), (618, .invokevirtual 64, 3, 188, 1174), (621, .if_icmp .eq 731, 3, 1352, 0), (624, .iconst 0, 1, 0, 0), (625, .ireturn, 1, 0, 0), (626, .aload_n 1, 1, 0, 0), (627, .aload_n 0, 1, 0, 0), (628, .iload_n 3, 1, 0, 0), (629, .iconst 1, 1, 0, 0), (630, .iadd, 1, 0, 0), (631, .iaload, 1, 0, 0), (632, .aload_n 0, 1, 0, 0), (633, .iload_n 3, 1, 0, 0), (634, .iconst 2, 1, 0, 0), (635, .iadd, 1, 0, 0), (636, .iaload, 1, 0, 0), (637, .invokevirtual 65, 3, 92, 546), (640, .aload_n 2, 1, 0, 0), (641, .aload_n 0, 1, 0, 0), (642, .iload_n 3, 1, 0, 0), (643, .iconst 1, 1, 0, 0), (644, .iadd, 1, 0, 0), (645, .iaload, 1, 0, 0), (646, .aload_n 0, 1, 0, 0), (647, .iload_n 3, 1, 0, 0), (648, .iconst 2, 1, 0, 0), (649, .iadd, 1, 0, 0), (650, .iaload, 1, 0, 0), (651, .invokevirtual 68, 3, 189, 1186), (654, .if_icmp .eq 698, 3, 1352, 0), (657, .iconst 0, 1, 0, 0), (658, .ireturn, 1, 0, 0), (659, .aload_n 1, 1, 0, 0), (660, .invokevirtual 69, 3, 93, 554), (663, .aload_n 2, 1, 0, 0), (664, .invokevirtual 73, 3, 191, 1194), (667, .if_icmp .eq 685, 3, 1352, 0), (670, .iconst 0, 1, 0, 0), (671, .ireturn, 1, 0, 0), (672, .aload_n 1, 1, 0, 0), (673, .aload_n 0, 1, 0, 0), (674, .iload_n 3, 1, 0, 0), (675, .iconst 1, 1, 0, 0), (676, .iadd, 1, 0, 0), (677, .iaload, 1, 0, 0), (678, .invokevirtual 74, 3, 94, 593), (681, .aload_n 2, 1, 0, 0), (682, .aload_n 0, 1, 0, 0), (683, .iload_n 3, 1, 0, 0)]
def rw_0_4 : List Row := [(684, .iconst 1, 1, 0, 0), (685, .iadd, 1, 0, 0), (686, .iaload, 1, 0, 0), (687, .invokevirtual 77, 3, 192, 1228), (690, .if_icmp .eq 662, 3, 1352, 0), (693, .iconst 0, 1, 0, 0), (694, .ireturn, 1, 0, 0), (695, .aload_n 1, 1, 0, 0), (696, .aload_n 0, 1, 0, 0), (697, .iload_n 3, 1, 0, 0), (698, .iconst 1, 1, 0, 0), (699, .iadd, 1, 0, 0), (700, .iaload, 1, 0, 0), (701, .aload_n 0, 1, 0, 0), (702, .iload_n 3, 1, 0, 0), (703, .iconst 2, 1, 0, 0), (704, .iadd, 1, 0, 0), (705, .iaload, 1, 0, 0), (706, .invokevirtual 78, 3, 95, 602), (709, .aload_n 2, 1, 0, 0), (710, .aload_n 0, 1, 0, 0), (711, .iload_n 3, 1, 0, 0), (712, .iconst 1, 1, 0, 0), (713, .iadd, 1, 0, 0), (714, .iaload, 1, 0, 0), (715, .aload_n 0, 1, 0, 0), (716, .iload_n 3, 1, 0, 0), (717, .iconst 2, 1, 0, 0), (718, .iadd, 1, 0, 0), (719, .iaload, 1, 0, 0), (720, .invokevirtual 81, 3, 193, 1232), (723, .if_icmp .eq 629, 3, 1352, 0), (726, .iconst 0, 1, 0, 0), (727, .ireturn, 1, 0, 0), (728, .aload_n 1, 1, 0, 0), (729, .aload_n 0, 1, 0, 0), (730, .iload_n 3, 1, 0, 0), (731, .iconst 1, 1, 0, 0), (732, .iadd, 1, 0, 0), (733, .iaload, 1, 0, 0), (734, .invokevirtual 82, 3, 96, 610), (737, .aload_n 2, 1, 0, 0), (738, .aload_n 0, 1, 0, 0), (739, .iload_n 3, 1, 0, 0), (740, .iconst 1, 1, 0, 0), (741, .iadd, 1, 0, 0), (742, .iaload, 1, 0, 0), (743, .invokevirtual 85, 3, 194, 1236), (746, .if_icmp .eq 606, 3, 1352, 0), (749, .iconst 0, 1, 0, 0), (750, .ireturn, 1, 0, 0), (751, .aload_n 1, 1, 0, 0), (752, .aload_n 0, 1, 0, 0), (753, .iload_n 3, 1, 0, 0), (754, .iconst 1, 1, 0, 0), (755, .iadd, 1, 0, 0), (756, .iaload, 1, 0, 0), (757, .invokevirtual 86, 3, 97, 618), (760, .aload_n 2, 1, 0, 0), (761, .aload_n 0, 1, 0, 0), (762, .iload_n 3, 1, 0, 0), (763, .iconst 1, 1, 0, 0), (764, .iadd, 1, 0, 0), (765, .iaload, 1, 0, 0), (766, .invokevirtual 89, 3, 195, 1240), (769, .if_icmp .eq 583, 3, 1352, 0), (772, .iconst 0, 1, 0, 0), (773, .ireturn, 1, 0, 0), (774, .aload_n 1, 1, 0, 0), (775, .aload_n 0, 1, 0, 0), (776, .iload_n 3, 1, 0, 0), (777, .iconst 1, 1, 0, 0), (778, .iadd, 1, 0, 0), (779, .iaload, 1, 0, 0), (780, .invokevirtual 90, 3, 98, 622), (783, .aload_n 2, 1, 0, 0), (784, .aload_n 0, 1, 0, 0), (785, .iload_n 3, 1, 0, 0), (786, .iconst 1, 1, 0, 0), (787, .iadd, 1, 0, 0), (788, .iaload, 1, 0, 0), (789, .invokevirtual 93, 3, 196, 1244), (792, .if_icmp .eq 560, 3, 1352, 0), (795, .iconst 0, 1, 0, 0), (796, .ireturn, 1, 0, 0), (797, .aload_n 1, 1, 0, 0), (798, .aload_n 0, 1, 0, 0), (799, .iload_n 3, 1, 0, 0), (800, .iconst 1, 1, 0, 0), (801, .iadd, 1, 0, 0), (802, .iaload, 1, 0, 0), (803, .invokevirtual 94, 3, 99, 626), (806, .aload_n 2, 1, 0, 0), (807, .aload_n 0, 1, 0, 0), (808, .iload_n 3, 1, 0, 0), (809, .iconst 1, 1, 0, 0), (810, .iadd, 1, 0, 0), (811, .iaload, 1, 0, 0), (812, .invokevirtual 97, 3, 198, 1248), (815, .if_icmp .eq 537, 3, 1352, 0)]
def rw_0_5 : List Row := [(818, .iconst 0, 1, 0, 0), (819, .ireturn, 1, 0, 0), (820, .aload_n 1, 1, 0, 0), (821, .invokevirtual 98, 3, 100, 637), (824, .aload_n 2, 1, 0, 0), (825, .invokevirtual 101, 3, 199, 1256), (828, .if_icmp .eq 524, 3, 1352, 0), (831, .iconst 0, 1, 0, 0), (832, .ireturn, 1, 0, 0), (833, .aload_n 1, 1, 0, 0), (834, .aload_n 0, 1, 0, 0), (835, .iload_n 3, 1, 0, 0), (836, .iconst 1, 1, 0, 0), (837, .iadd, 1, 0, 0), (838, .iaload, 1, 0, 0), (839, .invokevirtual 102, 3, 101, 646), (842, .aload_n 2, 1, 0, 0), (843, .aload_n 0, 1, 0, 0), (844, .iload_n 3, 1, 0, 0), (845, .iconst 1, 1, 0, 0), (846, .iadd, 1, 0, 0), (847, .iaload, 1, 0, 0), (848, .invokevirtual 105, 3, 201, 1260), (851, .if_icmp .eq 501, 3, 1352, 0), (854, .iconst 0, 1, 0, 0), (855, .ireturn, 1, 0, 0), (856, .aload_n 1, 1, 0, 0), (857, .aload_n 0, 1, 0, 0), (858, .iload_n 3, 1, 0, 0), (859, .iconst 1, 1, 0, 0), (860, .iadd, 1, 0, 0), (861, .iaload, 1, 0, 0), (862, .invokevirtual 106, 3, 102, 666), (865, .aload_n 2, 1, 0, 0), (866, .aload_n 0, 1, 0, 0), (867, .iload_n 3, 1, 0, 0), (868, .iconst 1, 1, 0, 0), (869, .iadd, 1, 0, 0), (870, .iaload, 1, 0, 0), (871, .invokevirtual 109, 3, 202, 1268), (874, .if_icmp .eq 478, 3, 1352, 0), (877, .iconst 0, 1, 0, 0), (878, .ireturn, 1, 0, 0), (879, .aload_n 1, 1, 0, 0), (880, .aload_n 0, 1, 0, 0), (881, .iload_n 3, 1, 0, 0), (882, .iconst 1, 1, 0, 0), (883, .iadd, 1, 0, 0), (884, .iaload, 1, 0, 0), (885, .invokevirtual 110, 3, 103, 686), (888, .aload_n 2, 1, 0, 0), (889, .aload_n 0, 1, 0, 0), (890, .iload_n 3, 1, 0, 0), (891, .iconst 1, 1, 0, 0), (892, .iadd, 1, 0, 0), (893, .iaload, 1, 0, 0), (894, .invokevirtual 113, 3, 203, 1280), (897, .if_icmp .eq 455, 3, 1352, 0), (900, .iconst 0, 1, 0, 0), (901, .ireturn, 1, 0, 0), (902, .aload_n 1, 1, 0, 0), (903, .invokevirtual 114, 3, 104, 690), (906, .aload_n 2, 1, 0, 0), (907, .invokevirtual 117, 3, 204, 1284), (910, .if_icmp .eq 442, 3, 1352, 0), (913, .iconst 0, 1, 0, 0), (914, .ireturn, 1, 0, 0), (915, .aload_n 1, 1, 0, 0), (916, .aload_n 0, 1, 0, 0), (917, .iload_n 3, 1, 0, 0), (918, .iconst 1, 1, 0, 0), (919, .iadd, 1, 0, 0), (920, .iaload, 1, 0, 0), (921, .aload_n 0, 1, 0, 0), (922, .iload_n 3, 1, 0, 0), (923, .iconst 2, 1, 0, 0), (924, .iadd, 1, 0, 0), (925, .iaload, 1, 0, 0), (926, .invokevirtual 118, 3, 105, 700), (929, .aload_n 2, 1, 0, 0), (930, .aload_n 0, 1, 0, 0), (931, .iload_n 3, 1, 0, 0), (932, .iconst 1, 1, 0, 0), (933, .iadd, 1, 0, 0), (934, .iaload, 1, 0, 0), (935, .aload_n 0, 1, 0, 0), (936, .iload_n 3, 1, 0, 0), (937, .iconst 2, 1, 0, 0), (938, .iadd, 1, 0, 0), (939, .iaload, 1, 0, 0), (940, .invokevirtual 121, 3, 206, 1288), (943, .if_icmp .eq 409, 3, 1352, 0), (946, .iconst 0, 1, 0, 0), (947, .ireturn, 1, 0, 0), (948, .aload_n 1, 1, 0, 0), (949, .aload_n 0, 1, 0, 0), (950, .iload_n 3, 1, 0, 0), (951, .iconst 1, 1, 0, 0), (952, .iadd, 1, 0, 0), (953, .iaload, 1, 0, 0)]
def rw_0_6 : List Row := [(954, .invokevirtual 122, 3, 106, 725), (957, .aload_n 2, 1, 0, 0), (958, .aload_n 0, 1, 0, 0), (959, .iload_n 3, 1, 0, 0), (960, .iconst 1, 1, 0, 0), (961, .iadd, 1, 0, 0), (962, .iaload, 1, 0, 0), (963, .invokevirtual 125, 3, 209, 1296), (966, .if_icmp .eq 386, 3, 1352, 0), (969, .iconst 0, 1, 0, 0), (970, .ireturn, 1, 0, 0), (971, .aload_n 1, 1, 0, 0), (972, .aload_n 0, 1, 0, 0), (973, .iload_n 3, 1, 0, 0), (974, .iconst 1, 1, 0, 0), (975, .iadd, 1, 0, 0), (976, .iaload, 1, 0, 0), (977, .invokevirtual 126, 3, 107, 749), (980, .aload_n 2, 1, 0, 0), (981, .aload_n 0, 1, 0, 0), (982, .iload_n 3, 1, 0, 0), (983, .iconst 1, 1, 0, 0), (984, .iadd, 1, 0, 0), (985, .iaload, 1, 0, 0), (986, .invokevirtual 129, 3, 211, 1311), (989, .if_icmp .eq 363, 3, 1352, 0), (992, .iconst 0, 1, 0, 0), (993, .ireturn, 1, 0, 0), (994, .aload_n 1, 1, 0, 0), (995, .aload_n 0, 1, 0, 0), (996, .iload_n 3, 1, 0, 0), (997, .iconst 1, 1, 0, 0), (998, .iadd, 1, 0, 0), (999, .iaload, 1, 0, 0), (1000, .aload_n 0, 1, 0, 0), (1001, .iload_n 3, 1, 0, 0), (1002, .iconst 2, 1, 0, 0), (1003, .iadd, 1, 0, 0), (1004, .iaload, 1, 0, 0), (1005, .invokevirtual 130, 3, 108, 770), (1008, .aload_n 2, 1, 0, 0), (1009, .aload_n 0, 1, 0, 0), (1010, .iload_n 3, 1, 0, 0), (1011, .iconst 1, 1, 0, 0), (1012, .iadd, 1, 0, 0), (1013, .iaload, 1, 0, 0), (1014, .aload_n 0, 1, 0, 0), (1015, .iload_n 3, 1, 0, 0), (1016, .iconst 2, 1, 0, 0), (1017, .iadd, 1, 0, 0), (1018, .iaload, 1, 0, 0), (1019, .invokevirtual 133, 3, 213, 1320), (1022, .if_icmp .eq 330, 3, 1352, 0), (1025, .iconst 0, 1, 0, 0), (1026, .ireturn, 1, 0, 0), (1027, .aload_n 1, 1, 0, 0), (1028, .aload_n 0, 1, 0, 0), (1029, .iload_n 3, 1, 0, 0), (1030, .iconst 1, 1, 0, 0), (1031, .iadd, 1, 0, 0), (1032, .iaload, 1, 0, 0), (1033, .aload_n 0, 1, 0, 0), (1034, .iload_n 3, 1, 0, 0), (1035, .iconst 2, 1, 0, 0), (1036, .iadd, 1, 0, 0), (1037, .iaload, 1, 0, 0), (1038, .invokevirtual 134, 3, 109, 784), (1041, .aload_n 2, 1, 0, 0), (1042, .aload_n 0, 1, 0, 0), (1043, .iload_n 3, 1, 0, 0), (1044, .iconst 1, 1, 0, 0), (1045, .iadd, 1, 0, 0), (1046, .iaload, 1, 0, 0), (1047, .aload_n 0, 1, 0, 0), (1048, .iload_n 3, 1, 0, 0), (1049, .iconst 2, 1, 0, 0), (1050, .iadd, 1, 0, 0), (1051, .iaload, 1, 0, 0), (1052, .invokevirtual 137, 3, 215, 1328), (1055, .if_icmp .eq 297, 3, 1352, 0), (1058, .iconst 0, 1, 0, 0), (1059, .ireturn, 1, 0, 0), (1060, .aload_n 1, 1, 0, 0), (1061, .aload_n 0, 1, 0, 0), (1062, .iload_n 3, 1, 0, 0), (1063, .iconst 1, 1, 0, 0), (1064, .iadd, 1, 0, 0), (1065, .iaload, 1, 0, 0), (1066, .aload_n 0, 1, 0, 0), (1067, .iload_n 3, 1, 0, 0), (1068, .iconst 2, 1, 0, 0), (1069, .iadd, 1, 0, 0), (1070, .iaload, 1, 0, 0), (1071, .invokevirtual 138, 3, 110, 792), (1074, .aload_n 2, 1, 0, 0), (1075, .aload_n 0, 1, 0, 0), (1076, .iload_n 3, 1, 0, 0), (1077, .iconst 1, 1, 0, 0), (1078, .iadd, 1, 0, 0), (1079, .iaload, 1, 0, 0)]
def rw_0_7 : List Row := [(1080, .aload_n 0, 1, 0, 0), (1081, .iload_n 3, 1, 0, 0), (1082, .iconst 2, 1, 0, 0), (1083, .iadd, 1, 0, 0), (1084, .iaload, 1, 0, 0), (1085, .invokevirtual 141, 3, 217, 1336), (1088, .if_icmp .eq 264, 3, 1352, 0), (1091, .iconst 0, 1, 0, 0), (1092, .ireturn, 1, 0, 0), (1093, .aload_n 1, 1, 0, 0), (1094, .aload_n 0, 1, 0, 0), (1095, .iload_n 3, 1, 0, 0), (1096, .iconst 1, 1, 0, 0), (1097, .iadd, 1, 0, 0), (1098, .iaload, 1, 0, 0), (1099, .aload_n 0, 1, 0, 0), (1100, .iload_n 3, 1, 0, 0), (1101, .iconst 2, 1, 0, 0), (1102, .iadd, 1, 0, 0), (1103, .iaload, 1, 0, 0), (1104, .invokevirtual 142, 3, 111, 810), (1107, .aload_n 2, 1, 0, 0), (1108, .aload_n 0, 1, 0, 0), (1109, .iload_n 3, 1, 0, 0), (1110, .iconst 1, 1, 0, 0), (1111, .iadd, 1, 0, 0), (1112, .iaload, 1, 0, 0), (1113, .aload_n 0, 1, 0, 0), (1114, .iload_n 3, 1, 0, 0), (1115, .iconst 2, 1, 0, 0), (1116, .iadd, 1, 0, 0), (1117, .iaload, 1, 0, 0), (1118, .invokevirtual 145, 3, 218, 1344), (1121, .if_icmp .eq 231, 3, 1352, 0), (1124, .iconst 0, 1, 0, 0), (1125, .ireturn, 1, 0, 0), (1126, .aload_n 1, 1, 0, 0), (1127, .aload_n 0, 1, 0, 0), (1128, .iload_n 3, 1, 0, 0), (1129, .iconst 1, 1, 0, 0), (1130, .iadd, 1, 0, 0), (1131, .iaload, 1, 0, 0), (1132, .invokevirtual 146, 3, 112, 814), (1135, .aload_n 2, 1, 0, 0), (1136, .aload_n 0, 1, 0, 0), (1137, .iload_n 3, 1, 0, 0), (1138, .iconst 1, 1, 0, 0), (1139, .iadd, 1, 0, 0), (1140, .iaload, 1, 0, 0), (1141, .invokevirtual 149, 3, 219, 1348), (1144, .if_icmp .eq 208, 3, 1352, 0), (1147, .iconst 0, 1, 0, 0), (1148, .ireturn, 1, 0, 0), (1149, .aload_n 1, 1, 0, 0), (1150, .aload_n 0, 1, 0, 0), (1151, .iload_n 3, 1, 0, 0), (1152, .iconst 1, 1, 0, 0), (1153, .iadd, 1, 0, 0), (1154, .iaload, 1, 0, 0), (1155, .aload_n 0, 1, 0, 0), (1156, .iload_n 3, 1, 0, 0), (1157, .iconst 2, 1, 0, 0), (1158, .iadd, 1, 0, 0), (1159, .iaload, 1, 0, 0), (1160, .invokevirtual 150, 3, 113, 828), (1163, .aload_n 2, 1, 0, 0), (1164, .aload_n 0, 1, 0, 0), (1165, .iload_n 3, 1, 0, 0), (1166, .iconst 1, 1, 0, 0), (1167, .iadd, 1, 0, 0), (1168, .iaload, 1, 0, 0), (1169, .aload_n 0, 1, 0, 0), (1170, .iload_n 3, 1, 0, 0), (1171, .iconst 2, 1, 0, 0), (1172, .iadd, 1, 0, 0), (1173, .iaload, 1, 0, 0), (1174, .invokevirtual 153, 3, 221, 1352), (1177, .if_icmp .eq 175, 3, 1352, 0), (1180, .iconst 0, 1, 0, 0), (1181, .ireturn, 1, 0, 0), (1182, .aload_n 1, 1, 0, 0), (1183, .aload_n 0, 1, 0, 0), (1184, .iload_n 3, 1, 0, 0), (1185, .iconst 1, 1, 0, 0), (1186, .iadd, 1, 0, 0), (1187, .iaload, 1, 0, 0), (1188, .invokevirtual 154, 3, 114, 848), (1191, .aload_n 2, 1, 0, 0), (1192, .aload_n 0, 1, 0, 0), (1193, .iload_n 3, 1, 0, 0), (1194, .iconst 1, 1, 0, 0), (1195, .iadd, 1, 0, 0), (1196, .iaload, 1, 0, 0), (1197, .invokevirtual 157, 3, 222, 1365), (1200, .if_icmp .eq 152, 3, 1352, 0), (1203, .iconst 0, 1, 0, 0), (1204, .ireturn, 1, 0, 0), (1205, .aload_n 1, 1, 0, 0), (1206, .aload_n 0, 1, 0, 0), (1207, .iload_n 3, 1, 0, 0)]
def rw_0_8 : List Row := [(1208, .iconst 1, 1, 0, 0), (1209, .iadd, 1, 0, 0), (1210, .iaload, 1, 0, 0), (1211, .aload_n 0, 1, 0, 0), (1212, .iload_n 3, 1, 0, 0), (1213, .iconst 2, 1, 0, 0), (1214, .iadd, 1, 0, 0), (1215, .iaload, 1, 0, 0), (1216, .invokevirtual 158, 3, 115, 852), (1219, .aload_n 2, 1, 0, 0), (1220, .aload_n 0, 1, 0, 0), (1221, .iload_n 3, 1, 0, 0), (1222, .iconst 1, 1, 0, 0), (1223, .iadd, 1, 0, 0), (1224, .iaload, 1, 0, 0), (1225, .aload_n 0, 1, 0, 0), (1226, .iload_n 3, 1, 0, 0), (1227, .iconst 2, 1, 0, 0), (1228, .iadd, 1, 0, 0), (1229, .iaload, 1, 0, 0), (1230, .invokevirtual 161, 3, 223, 1369), (1233, .if_icmp .eq 119, 3, 1352, 0), (1236, .iconst 0, 1, 0, 0), (1237, .ireturn, 1, 0, 0), (1238, .aload_n 1, 1, 0, 0), (1239, .invokevirtual 162, 3, 116, 859), (1242, .aload_n 2, 1, 0, 0), (1243, .invokevirtual 165, 3, 144, 1042), (1246, .if_icmp .eq 106, 3, 1352, 0), (1249, .iconst 0, 1, 0, 0), (1250, .ireturn, 1, 0, 0), (1251, .aload_n 1, 1, 0, 0), (1252, .invokevirtual 166, 3, 117, 863), (1255, .aload_n 2, 1, 0, 0), (1256, .invokevirtual 170, 3, 146, 1046), (1259, .lcmp, 1, 0, 0), (1260, .ifCond .eq 92, 3, 1352, 0), (1263, .iconst 0, 1, 0, 0), (1264, .ireturn, 1, 0, 0), (1265, .aload_n 1, 1, 0, 0), (1266, .invokevirtual 171, 3, 118, 867), (1269, .aload_n 2, 1, 0, 0), (1270, .invokevirtual 174, 3, 147, 1050), (1273, .lcmp, 1, 0, 0), (1274, .ifCond .eq 78, 3, 1352, 0), (1277, .iconst 0, 1, 0, 0), (1278, .ireturn, 1, 0, 0), (1279, .aload_n 1, 1, 0, 0), (1280, .aload_n 0, 1, 0, 0), (1281, .iload_n 3, 1, 0, 0), (1282, .iconst 1, 1, 0, 0), (1283, .iadd, 1, 0, 0), (1284, .iaload, 1, 0, 0), (1285, .invokevirtual 175, 3, 119, 871), (1288, .aload_n 2, 1, 0, 0), (1289, .aload_n 0, 1, 0, 0), (1290, .iload_n 3, 1, 0, 0), (1291, .iconst 1, 1, 0, 0), (1292, .iadd, 1, 0, 0), (1293, .iaload, 1, 0, 0), (1294, .invokevirtual 178, 3, 225, 1379), (1297, .if_icmp .eq 55, 3, 1352, 0), (1300, .iconst 0, 1, 0, 0), (1301, .ireturn, 1, 0, 0), (1302, .aload_n 1, 1, 0, 0), (1303, .invokevirtual 179, 3, 120, 888), (1306, .aload_n 2, 1, 0, 0), (1307, .invokevirtual 182, 3, 141, 1031), (1310, .if_icmp .eq 42, 3, 1352, 0), (1313, .iconst 0, 1, 0, 0), (1314, .ireturn, 1, 0, 0), (1315, .aload_n 1, 1, 0, 0), (1316, .aload_n 0, 1, 0, 0), (1317, .iload_n 3, 1, 0, 0), (1318, .iconst 1, 1, 0, 0), (1319, .iadd, 1, 0, 0), (1320, .iaload, 1, 0, 0), (1321, .invokevirtual 183, 3, 121, 892), (1324, .aload_n 2, 1, 0, 0), (1325, .aload_n 0, 1, 0, 0), (1326, .iload_n 3, 1, 0, 0), (1327, .iconst 1, 1, 0, 0), (1328, .iadd, 1, 0, 0), (1329, .iaload, 1, 0, 0), (1330, .invokevirtual 186, 3, 142, 1035), (1333, .if_icmp .eq 19, 3, 1352, 0), (1336, .iconst 0, 1, 0, 0), (1337, .ireturn, 1, 0, 0), (1338, .aload_n 1, 1, 0, 0), (1339, .invokevirtual 187, 3, 122, 896), (1342, .aload_n 2, 1, 0, 0), (1343, .invokevirtual 190, 3, 228, 1387), (1346, .lcmp, 1, 0, 0), (1347, .ifCond .eq 5, 3, 1352, 0), (1350, .iconst 0, 1, 0, 0), (1351, .ireturn, 1, 0, 0), (1352, .iinc 3 6, 3, 0, 0), (1355, .goto (-1337), 3, 18, 0), (1358, .iconst 1, 1, 0, 0), (1359, .ireturn, 1, 0, 0)]
def rw_0 : List Row := rw_0_0 ++ (rw_0_1 ++ (rw_0_2 ++ (rw_0_3 ++ (rw_0_4 ++ (rw_0_5 ++ (rw_0_6 ++ (rw_0_7 ++ (rw_0_8))))))))
def rw_1 : List Row := [(0, .aload_n 0, 1, 0, 0), (1, .invokespecial 3, 3, (-1), 183), (4, .aload_n 0, 1, 0, 0), (5, .bipush 6, 2, 0, 0), (7, .newarray .int, 2, 0, 163), (9, .putfield 11, 3, 0, 184), (12, .aload_n 0, 1, 0, 0), (13, .iconst 5, 1, 0, 0), (14, .newarray .int, 2, 0, 163), (16, .putfield 17, 3, 1, 186), (19, .return_, 1, 0, 0)]
def rw_2 : List Row := [(0, .iconst 0, 1, 0, 0), (1, .istore 4, 2, 0, 0), (3, .iload 4, 2, 0, 0), (5, .aload_n 1, 1, 0, 0), (6, .getfield 20, 3, 302, 101), (9, .if_icmp .ge 24, 3, 33, 0), (12, .aload_n 0, 1, 0, 0), (13, .getfield 11, 3, 0, 184), (16, .iload 4, 2, 0, 0), (18, .aload_n 1, 1, 0, 0), (19, .iload 4, 2, 0, 0), (21, .iload_n 2, 1, 0, 0), (22, .iload_n 3, 1, 0, 0), (23, .invokestatic 24, 3, 3, 570), (26, .iastore, 1, 0, 0), (27, .iinc 4 1, 3, 0, 0), (30, .goto (-27), 3, 3, 0), (33, .aload_n 0, 1, 0, 0), (34, .aload_n 1, 1, 0, 0), (35, .iconst 0, 1, 0, 0), (36, .bipush (-9), 2, 0, 0), (38, .invokevirtual 28, 3, 4, 571), (41, .return_, 1, 0, 0)]
def rw_3 : List Row := [(0, .aload_n 0, 1, 0, 0), (1, .iload_n 1, 1, 0, 0), (2, .iload_n 2, 1, 0, 0), (3, .invokevirtual 32, 3, 36, 505), (6, .istore 4, 2, 0, 0), (8, .iload 4, 2, 0, 0), (10, .istore 5, 2, 0, 0), (12, .iconst 0, 1, 0, 0), (13, .istore 6, 2, 0, 0), (15, .iconst 1, 1, 0, 0), (16, .istore 7, 2, 0, 0), (18, .iconst 1, 1, 0, 0), (19, .istore 8, 2, 0, 0), (21, .iload 8, 2, 0, 0), (23, .iconst 4, 1, 0, 0), (24, .if_icmp .gt 71, 3, 95, 0), (27, .aload_n 0, 1, 0, 0), (28, .iload_n 2, 1, 0, 0), (29, .iload_n 3, 1, 0, 0), (30, .iload 8, 2, 0, 0), (32, .invokevirtual 36, 3, 32, 506), (35, .ifCond .ne 6, 3, 41, 0), (38, .goto 51, 3, 89, 0), (41, .aload_n 0, 1, 0, 0), (42, .iload_n 1, 1, 0, 0), (43, .aload_n 0, 1, 0, 0), (44, .iload_n 2, 1, 0, 0), (45, .iload 8, 2, 0, 0), (47, .invokevirtual 40, 3, 31, 514), (50, .invokevirtual 32, 3, 36, 505), (53, .istore 9, 2, 0, 0), (55, .iload 7, 2, 0, 0), (57, .ifCond .eq 14, 3, 71, 0), (60, .iload 9, 2, 0, 0), (62, .iload 4, 2, 0, 0), (64, .if_icmp .ne 7, 3, 71, 0), (67, .iconst 1, 1, 0, 0), (68, .goto 4, 3, 72, 0), (71, .iconst 0, 1, 0, 0), (72, .istore 7, 2, 0, 0), (74, .iload 9, 2, 0, 0), (76, .iload 5, 2, 0, 0), (78, .if_icmp .le 11, 3, 89, 0), (81, .iload 9, 2, 0, 0), (83, .istore 5, 2, 0, 0), (85, .iload 8, 2, 0, 0), (87, .istore 6, 2, 0, 0), (89, .iinc 8 1, 3, 0, 0), (92, .goto (-71), 3, 21, 0), (95, .iload 7, 2, 0, 0), (97, .ifCond .eq 17, 3, 114, 0), (100, .aload_n 0, 1, 0, 0), (101, .iload_n 1, 1, 0, 0), (102, .iconst 3, 1, 0, 0), (103, .invokevirtual 43, 3, 34, 515), (106, .ifCond .eq 8, 3, 114, 0), (109, .bipush (-9), 2, 0, 0), (111, .goto 5, 3, 116, 0), (114, .iload 6, 2, 0, 0), (116, .ireturn, 1, 0, 0)]
def rw_4 : List Row := [(0, .iconst 0, 1, 0, 0), (1, .istore 4, 2, 0, 0), (3, .iload 4, 2, 0, 0), (5, .iconst 5, 1, 0, 0), (6, .if_icmp .ge 17, 3, 23, 0), (9, .aload_n 0, 1, 0, 0), (10, .getfield 17, 3, 1, 186), (13, .iload 4, 2, 0, 0), (15, .iconst 0, 1, 0, 0), (16, .iastore, 1, 0, 0), (17, .iinc 4 1, 3, 0, 0), (20, .goto (-17), 3, 3, 0), (23, .iconst 0, 1, 0, 0), (24, .istore 4, 2, 0, 0), (26, .iload 4, 2, 0, 0), (28, .aload_n 1, 1, 0, 0), (29, .getfield 20, 3, 302, 101), (32, .if_icmp .ge 59, 3, 91, 0), (35, .iload_n 2, 1, 0, 0), (36, .iload 4, 2, 0, 0), (38, .ishr, 1, 0, 0), (39, .iconst 1, 1, 0, 0), (40, .iand, 1, 0, 0), (41, .ifCond .eq 7, 3, 48, 0), (44, .iload_n 3, 1, 0, 0), (45, .goto 10, 3, 55, 0), (48, .aload_n 0, 1, 0, 0), (49, .getfield 11, 3, 0, 184), (52, .iload 4, 2, 0, 0), (54, .iaload, 1, 0, 0), (55, .istore 5, 2, 0, 0), (57, .iload 5, 2, 0, 0), (59, .ifCond .lt 26, 3, 85, 0), (62, .iload 5, 2, 0, 0), (64, .iconst 5, 1, 0, 0), (65, .if_icmp .ge 20, 3, 85, 0), (68, .aload_n 0, 1, 0, 0), (69, .getfield 17, 3, 1, 186), (72, .iload 5, 2, 0, 0), (74, .dup2, 1, 0, 0), (75, .iaload, 1, 0, 0), (76, .aload_n 1, 1, 0, 0), (77, .getfield 47, 3, 309, 125), (80, .iload 4, 2, 0, 0), (82, .iaload, 1, 0, 0), (83, .iadd, 1, 0, 0), (84, .iastore, 1, 0, 0), (85, .iinc 4 1, 3, 0, 0), (88, .goto (-62), 3, 26, 0), (91, .return_, 1, 0, 0)]
def rw_5 : List Row := [(0, .iconst 0, 1, 0, 0), (1, .istore_n 1, 1, 0, 0), (2, .iconst 1, 1, 0, 0), (3, .istore_n 2, 1, 0, 0), (4, .iconst 1, 1, 0, 0), (5, .istore_n 3, 1, 0, 0), (6, .iload_n 3, 1, 0, 0), (7, .iconst 4, 1, 0, 0), (8, .if_icmp .gt 48, 3, 56, 0), (11, .aload_n 0, 1, 0, 0), (12, .getfield 17, 3, 1, 186), (15, .iload_n 3, 1, 0, 0), (16, .iaload, 1, 0, 0), (17, .aload_n 0, 1, 0, 0), (18, .getfield 17, 3, 1, 186), (21, .iload_n 1, 1, 0, 0), (22, .iaload, 1, 0, 0), (23, .if_icmp .le 10, 3, 33, 0), (26, .iload_n 3, 1, 0, 0), (27, .istore_n 1, 1, 0, 0), (28, .iconst 1, 1, 0, 0), (29, .istore_n 2, 1, 0, 0), (30, .goto 20, 3, 50, 0), (33, .aload_n 0, 1, 0, 0), (34, .getfield 17, 3, 1, 186), (37, .iload_n 3, 1, 0, 0), (38, .iaload, 1, 0, 0), (39, .aload_n 0, 1, 0, 0), (40, .getfield 17, 3, 1, 186), (43, .iload_n 1, 1, 0, 0), (44, .iaload, 1, 0, 0), (45, .if_icmp .ne 5, 3, 50, 0), (48, .iconst 0, 1, 0, 0), (49, .istore_n 2, 1, 0, 0), (50, .iinc 3 1, 3, 0, 0), (53, .goto (-47), 3, 6, 0), (56, .iload_n 2, 1, 0, 0), (57, .ifCond .eq 7, 3, 64, 0), (60, .iload_n 1, 1, 0, 0), (61, .goto 4, 3, 65, 0), (64, .iconst 0, 1, 0, 0), (65, .ireturn, 1, 0, 0)]
def rw_6 : List Row := [(0, .iconst 0, 1, 0, 0), (1, .istore_n 1, 1, 0, 0), (2, .iconst 0, 1, 0, 0), (3, .istore_n 2, 1, 0, 0), (4, .iconst 0, 1, 0, 0), (5, .istore_n 3, 1, 0, 0), (6, .iload_n 3, 1, 0, 0), (7, .iconst 5, 1, 0, 0), (8, .if_icmp .ge 42, 3, 50, 0), (11, .aload_n 0, 1, 0, 0), (12, .getfield 17, 3, 1, 186), (15, .iload_n 3, 1, 0, 0), (16, .iaload, 1, 0, 0), (17, .iload_n 1, 1, 0, 0), (18, .if_icmp .le 15, 3, 33, 0), (21, .iload_n 1, 1, 0, 0), (22, .istore_n 2, 1, 0, 0), (23, .aload_n 0, 1, 0, 0), (24, .getfield 17, 3, 1, 186), (27, .iload_n 3, 1, 0, 0), (28, .iaload, 1, 0, 0), (29, .istore_n 1, 1, 0, 0), (30, .goto 14, 3, 44, 0), (33, .iload_n 2, 1, 0, 0), (34, .aload_n 0, 1, 0, 0), (35, .getfield 17, 3, 1, 186), (38, .iload_n 3, 1, 0, 0), (39, .iaload, 1, 0, 0), (40, .invokestatic 50, 3, (-3), 645), (43, .istore_n 2, 1, 0, 0), (44, .iinc 3 1, 3, 0, 0), (47, .goto (-41), 3, 6, 0), (50, .iload_n 1, 1, 0, 0), (51, .iload_n 2, 1, 0, 0), (52, .isub, 1, 0, 0), (53, .ireturn, 1, 0, 0)]
def rw_7 : List Row := [(0, .iconst 0, 1, 0, 0), (1, .istore_n 3, 1, 0, 0), (2, .iconst 0, 1, 0, 0), (3, .istore 4, 2, 0, 0), (5, .iload 4, 2, 0, 0), (7, .aload_n 1, 1, 0, 0), (8, .getfield 20, 3, 302, 101), (11, .if_icmp .ge 31, 3, 42, 0), (14, .iload_n 3, 1, 0, 0), (15, .aload_n 0, 1, 0, 0), (16, .getfield 11, 3, 0, 184), (19, .iload 4, 2, 0, 0), (21, .iaload, 1, 0, 0), (22, .iload_n 2, 1, 0, 0), (23, .if_icmp .ne 10, 3, 33, 0), (26, .iconst 1, 1, 0, 0), (27, .iload 4, 2, 0, 0), (29, .ishl, 1, 0, 0), (30, .goto 4, 3, 34, 0), (33, .iconst 0, 1, 0, 0), (34, .ior, 1, 0, 0), (35, .istore_n 3, 1, 0, 0), (36, .iinc 4 1, 3, 0, 0), (39, .goto (-34), 3, 5, 0), (42, .iload_n 3, 1, 0, 0), (43, .ireturn, 1, 0, 0)]
def rw_8 : List Row := [(0, .bipush (-9), 2, 0, 0), (2, .istore_n 3, 1, 0, 0), (3, .aload_n 1, 1, 0, 0), (4, .invokevirtual 55, 3, 42, 655), (7, .iconst 1, 1, 0, 0), (8, .iadd, 1, 0, 0), (9, .istore 4, 2, 0, 0), (11, .iconst 0, 1, 0, 0), (12, .istore 5, 2, 0, 0), (14, .iload 5, 2, 0, 0), (16, .iconst 1, 1, 0, 0), (17, .aload_n 1, 1, 0, 0), (18, .getfield 20, 3, 302, 101), (21, .ishl, 1, 0, 0), (22, .if_icmp .ge 50, 3, 72, 0), (25, .aload_n 1, 1, 0, 0), (26, .iload 5, 2, 0, 0), (28, .invokevirtual 59, 3, 41, 663), (31, .istore 6, 2, 0, 0), (33, .iload 6, 2, 0, 0), (35, .iload 4, 2, 0, 0), (37, .if_icmp .lt 6, 3, 43, 0), (40, .goto 26, 3, 66, 0), (43, .aload_n 0, 1, 0, 0), (44, .aload_n 1, 1, 0, 0), (45, .iload 5, 2, 0, 0), (47, .iload_n 2, 1, 0, 0), (48, .invokevirtual 28, 3, 4, 571), (51, .aload_n 0, 1, 0, 0), (52, .invokevirtual 63, 3, 5, 664), (55, .iload_n 2, 1, 0, 0), (56, .if_icmp .ne 10, 3, 66, 0), (59, .iload 5, 2, 0, 0), (61, .istore_n 3, 1, 0, 0), (62, .iload 6, 2, 0, 0), (64, .istore 4, 2, 0, 0), (66, .iinc 5 1, 3, 0, 0), (69, .goto (-55), 3, 14, 0), (72, .iload_n 3, 1, 0, 0), (73, .ireturn, 1, 0, 0)]
def rw_9 : List Row := [(0, .aload_n 0, 1, 0, 0), (1, .invokespecial 3, 3, (-1), 264), (4, .aload_n 0, 1, 0, 0), (5, .lconst 0, 1, 0, 0), (6, .putfield 9, 3, 100, 265), (9, .aload_n 0, 1, 0, 0), (10, .lconst 1, 1, 0, 0), (11, .putfield 15, 3, 101, 267), (14, .aload_n 0, 1, 0, 0), (15, .iconst 5, 1, 0, 0), (16, .newarray .long, 2, 0, 281), (18, .putfield 20, 3, 102, 269), (21, .aload_n 0, 1, 0, 0), (22, .lconst 1, 1, 0, 0), (23, .putfield 24, 3, 103, 271), (26, .return_, 1, 0, 0)]
def rw_10 : List Row := [(0, .aload_n 0, 1, 0, 0), (1, .lconst 0, 1, 0, 0), (2, .putfield 24, 3, 103, 271), (5, .iconst 0, 1, 0, 0), (6, .istore 4, 2, 0, 0), (8, .iload 4, 2, 0, 0), (10, .iconst 5, 1, 0, 0), (11, .if_icmp .ge 17, 3, 28, 0), (14, .aload_n 0, 1, 0, 0), (15, .getfield 20, 3, 102, 269), (18, .iload 4, 2, 0, 0), (20, .lconst 0, 1, 0, 0), (21, .lastore, 1, 0, 0), (22, .iinc 4 1, 3, 0, 0), (25, .goto (-17), 3, 8, 0), (28, .iconst 0, 1, 0, 0), (29, .istore 4, 2, 0, 0), (31, .iload 4, 2, 0, 0), (33, .iconst 1, 1, 0, 0), (34, .aload_n 1, 1, 0, 0), (35, .getfield 27, 3, 302, 102), (38, .ishl, 1, 0, 0), (39, .if_icmp .ge 60, 3, 99, 0), (42, .aload_n 1, 1, 0, 0), (43, .aload_n 2, 1, 0, 0), (44, .iload 4, 2, 0, 0), (46, .iload_n 3, 1, 0, 0), (47, .invokestatic 31, 3, 11, 836), (50, .lstore 5, 2, 0, 0), (52, .lload 5, 2, 0, 0), (54, .lconst 0, 1, 0, 0), (55, .lcmp, 1, 0, 0), (56, .ifCond .le 37, 3, 93, 0), (59, .aload_n 2, 1, 0, 0), (60, .aload_n 1, 1, 0, 0), (61, .iload 4, 2, 0, 0), (63, .bipush (-9), 2, 0, 0), (65, .invokevirtual 35, 3, 4, 839), (68, .aload_n 0, 1, 0, 0), (69, .getfield 20, 3, 102, 269), (72, .aload_n 2, 1, 0, 0), (73, .invokevirtual 41, 3, 5, 840), (76, .dup2, 1, 0, 0), (77, .laload, 1, 0, 0), (78, .lload 5, 2, 0, 0), (80, .ladd, 1, 0, 0), (81, .lastore, 1, 0, 0), (82, .aload_n 0, 1, 0, 0), (83, .dup, 1, 0, 0), (84, .getfield 24, 3, 103, 271), (87, .lload 5, 2, 0, 0), (89, .ladd, 1, 0, 0), (90, .putfield 24, 3, 103, 271), (93, .iinc 4 1, 3, 0, 0), (96, .goto (-65), 3, 31, 0), (99, .return_, 1, 0, 0)]
def rw_11 : List Row := [(0, .lconst 1, 1, 0, 0), (1, .lstore 4, 2, 0, 0), (3, .iconst 0, 1, 0, 0), (4, .istore 6, 2, 0, 0), (6, .iload 6, 2, 0, 0), (8, .aload_n 0, 1, 0, 0), (9, .getfield 27, 3, 302, 102), (12, .if_icmp .ge 75, 3, 87, 0), (15, .iload_n 2, 1, 0, 0), (16, .iload 6, 2, 0, 0), (18, .ishr, 1, 0, 0), (19, .iconst 1, 1, 0, 0), (20, .iand, 1, 0, 0), (21, .ifCond .eq 7, 3, 28, 0), (24, .iconst 1, 1, 0, 0), (25, .goto 4, 3, 29, 0), (28, .iconst 0, 1, 0, 0), (29, .istore 7, 2, 0, 0), (31, .aload_n 1, 1, 0, 0), (32, .getfield 45, 3, 0, 185), (35, .iload 6, 2, 0, 0), (37, .iaload, 1, 0, 0), (38, .bipush (-9), 2, 0, 0), (40, .if_icmp .ne 21, 3, 61, 0), (43, .lload 4, 2, 0, 0), (45, .iload 7, 2, 0, 0), (47, .ifCond .eq 7, 3, 54, 0), (50, .lconst 0, 1, 0, 0), (51, .goto 4, 3, 55, 0), (54, .lconst 1, 1, 0, 0), (55, .lmul, 1, 0, 0), (56, .lstore 4, 2, 0, 0), (58, .goto 23, 3, 81, 0), (61, .lload 4, 2, 0, 0), (63, .iload 7, 2, 0, 0), (65, .ifCond .eq 8, 3, 73, 0), (68, .iload_n 3, 1, 0, 0), (69, .i2l, 1, 0, 0), (70, .goto 8, 3, 78, 0), (73, .bipush 12, 2, 0, 0), (75, .iload_n 3, 1, 0, 0), (76, .isub, 1, 0, 0), (77, .i2l, 1, 0, 0), (78, .lmul, 1, 0, 0), (79, .lstore 4, 2, 0, 0), (81, .iinc 6 1, 3, 0, 0), (84, .goto (-78), 3, 6, 0), (87, .lload 4, 2, 0, 0), (89, .lreturn, 1, 0, 0)]
def rw_12 : List Row := [(0, .lload_n 1, 1, 0, 0), (1, .aload_n 0, 1, 0, 0), (2, .getfield 24, 3, 103, 271), (5, .invokestatic 49, 3, 13, 845), (8, .lstore_n 3, 1, 0, 0), (9, .lload_n 3, 1, 0, 0), (10, .lconst 0, 1, 0, 0), (11, .lcmp, 1, 0, 0), (12, .ifCond .le 20, 3, 32, 0), (15, .aload_n 0, 1, 0, 0), (16, .lload_n 1, 1, 0, 0), (17, .lload_n 3, 1, 0, 0), (18, .ldiv, 1, 0, 0), (19, .putfield 9, 3, 100, 265), (22, .aload_n 0, 1, 0, 0), (23, .aload_n 0, 1, 0, 0), (24, .getfield 24, 3, 103, 271), (27, .lload_n 3, 1, 0, 0), (28, .ldiv, 1, 0, 0), (29, .putfield 15, 3, 101, 267), (32, .return_, 1, 0, 0)]
def rw_13 : List Row := [(0, .lload_n 0, 1, 0, 0), (1, .lstore 4, 2, 0, 0), (3, .lload_n 2, 1, 0, 0), (4, .lstore 6, 2, 0, 0), (6, .iconst 0, 1, 0, 0), (7, .istore 8, 2, 0, 0), (9, .iload 8, 2, 0, 0), (11, .sipush 200, 3, 0, 0), (14, .if_icmp .ge 31, 3, 45, 0), (17, .lload 6, 2, 0, 0), (19, .lconst 0, 1, 0, 0), (20, .lcmp, 1, 0, 0), (21, .ifCond .eq 24, 3, 45, 0), (24, .lload 4, 2, 0, 0), (26, .lload 6, 2, 0, 0), (28, .lrem, 1, 0, 0), (29, .lstore 9, 2, 0, 0), (31, .lload 6, 2, 0, 0), (33, .lstore 4, 2, 0, 0), (35, .lload 9, 2, 0, 0), (37, .lstore 6, 2, 0, 0), (39, .iinc 8 1, 3, 0, 0), (42, .goto (-33), 3, 9, 0), (45, .lload 4, 2, 0, 0), (47, .lreturn, 1, 0, 0)]
def rw_14 : List Row := [(0, .aload_n 0, 1, 0, 0), (1, .invokespecial 1, 3, (-1), 237), (4, .aload_n 0, 1, 0, 0), (5, .iconst 0, 1, 0, 0), (6, .putfield 7, 3, 200, 238), (9, .aload_n 0, 1, 0, 0), (10, .bipush 31, 2, 0, 0), (12, .newarray .int, 2, 0, 163), (14, .putfield 13, 3, 201, 240), (17, .return_, 1, 0, 0)]
def rw_15 : List Row := [(0, .iconst 0, 1, 0, 0), (1, .istore_n 3, 1, 0, 0), (2, .iconst 0, 1, 0, 0), (3, .istore 4, 2, 0, 0), (5, .iload 4, 2, 0, 0), (7, .aload_n 1, 1, 0, 0), (8, .invokevirtual 17, 3, 27, 741), (11, .if_icmp .ge 85, 3, 96, 0), (14, .iconst 1, 1, 0, 0), (15, .istore 5, 2, 0, 0), (17, .iconst 0, 1, 0, 0), (18, .istore 6, 2, 0, 0), (20, .iload 6, 2, 0, 0), (22, .iconst 1, 1, 0, 0), (23, .iadd, 1, 0, 0), (24, .aload_n 2, 1, 0, 0), (25, .getfield 23, 3, 701, 295), (28, .if_icmp .ge 46, 3, 74, 0), (31, .iload 5, 2, 0, 0), (33, .ifCond .eq 32, 3, 65, 0), (36, .aload_n 1, 1, 0, 0), (37, .aload_n 2, 1, 0, 0), (38, .getfield 28, 3, 700, 291), (41, .iload 6, 2, 0, 0), (43, .iaload, 1, 0, 0), (44, .iload 4, 2, 0, 0), (46, .invokevirtual 31, 3, 36, 742), (49, .aload_n 2, 1, 0, 0), (50, .getfield 28, 3, 700, 291), (53, .iload 6, 2, 0, 0), (55, .iconst 1, 1, 0, 0), (56, .iadd, 1, 0, 0), (57, .iaload, 1, 0, 0), (58, .if_icmp .ne 7, 3, 65, 0), (61, .iconst 1, 1, 0, 0), (62, .goto 4, 3, 66, 0), (65, .iconst 0, 1, 0, 0), (66, .istore 5, 2, 0, 0), (68, .iinc 6 2, 3, 0, 0), (71, .goto (-51), 3, 20, 0), (74, .iload_n 3, 1, 0, 0), (75, .iload 5, 2, 0, 0), (77, .ifCond .eq 10, 3, 87, 0), (80, .iconst 1, 1, 0, 0), (81, .iload 4, 2, 0, 0), (83, .ishl, 1, 0, 0), (84, .goto 4, 3, 88, 0), (87, .iconst 0, 1, 0, 0), (88, .ior, 1, 0, 0), (89, .istore_n 3, 1, 0, 0), (90, .iinc 4 1, 3, 0, 0), (93, .goto (-88), 3, 5, 0), (96, .iload_n 3, 1, 0, 0), (97, .ireturn, 1, 0, 0)]
def rw_16 : List Row := [(0, .iconst 0, 1, 0, 0), (1, .istore 4, 2, 0, 0), (3, .iconst 0, 1, 0, 0), (4, .istore 5, 2, 0, 0), (6, .iload 5, 2, 0, 0), (8, .bipush 6, 2, 0, 0), (10, .if_icmp .ge 88, 3, 98, 0), (13, .iconst 1, 1, 0, 0), (14, .istore 6, 2, 0, 0), (16, .iconst 0, 1, 0, 0), (17, .istore 7, 2, 0, 0), (19, .iload 7, 2, 0, 0), (21, .iconst 1, 1, 0, 0), (22, .iadd, 1, 0, 0), (23, .aload_n 3, 1, 0, 0), (24, .getfield 23, 3, 701, 295), (27, .if_icmp .ge 47, 3, 74, 0), (30, .iload 6, 2, 0, 0), (32, .ifCond .eq 33, 3, 65, 0), (35, .aload_n 1, 1, 0, 0), (36, .iload 5, 2, 0, 0), (38, .iload_n 2, 1, 0, 0), (39, .aload_n 3, 1, 0, 0), (40, .getfield 28, 3, 700, 291), (43, .iload 7, 2, 0, 0), (45, .iaload, 1, 0, 0), (46, .invokevirtual 35, 3, 37, 783), (49, .aload_n 3, 1, 0, 0), (50, .getfield 28, 3, 700, 291), (53, .iload 7, 2, 0, 0), (55, .iconst 1, 1, 0, 0), (56, .iadd, 1, 0, 0), (57, .iaload, 1, 0, 0), (58, .if_icmp .ne 7, 3, 65, 0), (61, .iconst 1, 1, 0, 0), (62, .goto 4, 3, 66, 0), (65, .iconst 0, 1, 0, 0), (66, .istore 6, 2, 0, 0), (68, .iinc 7 2, 3, 0, 0), (71, .goto (-52), 3, 19, 0), (74, .iload 4, 2, 0, 0), (76, .iload 6, 2, 0, 0), (78, .ifCond .eq 10, 3, 88, 0), (81, .iconst 1, 1, 0, 0), (82, .iload 5, 2, 0, 0), (84, .ishl, 1, 0, 0), (85, .goto 4, 3, 89, 0), (88, .iconst 0, 1, 0, 0), (89, .ior, 1, 0, 0), (90, .istore 4, 2, 0, 0), (92, .iinc 5 1, 3, 0, 0), (95, .goto (-89), 3, 6, 0), (98, .iload 4, 2, 0, 0), (100, .ireturn, 1, 0, 0)]
def rw_17 : List Row := [(0, .iconst 0, 1, 0, 0), (1, .istore_n 3, 1, 0, 0), (2, .aload_n 0, 1, 0, 0), (3, .bipush 26, 2, 0, 0), (5, .putfield 7, 3, 200, 238), (8, .iconst 0, 1, 0, 0), (9, .istore 4, 2, 0, 0), (11, .iload 4, 2, 0, 0), (13, .aload_n 1, 1, 0, 0), (14, .getfield 39, 3, 302, 104), (17, .if_icmp .ge 60, 3, 77, 0), (20, .aload_n 0, 1, 0, 0), (21, .invokevirtual 42, 3, 19, 757), (24, .iconst 0, 1, 0, 0), (25, .istore 5, 2, 0, 0), (27, .iload 5, 2, 0, 0), (29, .aload_n 1, 1, 0, 0), (30, .invokevirtual 17, 3, 27, 741), (33, .if_icmp .ge 30, 3, 63, 0), (36, .iload_n 2, 1, 0, 0), (37, .iload 5, 2, 0, 0), (39, .ishr, 1, 0, 0), (40, .iconst 1, 1, 0, 0), (41, .iand, 1, 0, 0), (42, .ifCond .eq 15, 3, 57, 0), (45, .aload_n 0, 1, 0, 0), (46, .aload_n 1, 1, 0, 0), (47, .iload 4, 2, 0, 0), (49, .iload 5, 2, 0, 0), (51, .invokevirtual 31, 3, 36, 742), (54, .invokevirtual 45, 3, 20, 761), (57, .iinc 5 1, 3, 0, 0), (60, .goto (-33), 3, 27, 0), (63, .aload_n 0, 1, 0, 0), (64, .iload 4, 2, 0, 0), (66, .iload_n 3, 1, 0, 0), (67, .invokevirtual 49, 3, 21, 765), (70, .istore_n 3, 1, 0, 0), (71, .iinc 4 1, 3, 0, 0), (74, .goto (-63), 3, 11, 0), (77, .iload_n 3, 1, 0, 0), (78, .ireturn, 1, 0, 0)]
def rw_18 : List Row := [(0, .iconst 0, 1, 0, 0), (1, .istore 4, 2, 0, 0), (3, .aload_n 0, 1, 0, 0), (4, .bipush 7, 2, 0, 0), (6, .putfield 7, 3, 200, 238), (9, .iconst 0, 1, 0, 0), (10, .istore 5, 2, 0, 0), (12, .iload 5, 2, 0, 0), (14, .aload_n 1, 1, 0, 0), (15, .invokevirtual 17, 3, 27, 741), (18, .if_icmp .ge 61, 3, 79, 0), (21, .aload_n 0, 1, 0, 0), (22, .invokevirtual 42, 3, 19, 757), (25, .iconst 0, 1, 0, 0), (26, .istore 6, 2, 0, 0), (28, .iload 6, 2, 0, 0), (30, .bipush 6, 2, 0, 0), (32, .if_icmp .ge 31, 3, 63, 0), (35, .iload_n 3, 1, 0, 0), (36, .iload 6, 2, 0, 0), (38, .ishr, 1, 0, 0), (39, .iconst 1, 1, 0, 0), (40, .iand, 1, 0, 0), (41, .ifCond .eq 16, 3, 57, 0), (44, .aload_n 0, 1, 0, 0), (45, .aload_n 1, 1, 0, 0), (46, .iload 6, 2, 0, 0), (48, .iload_n 2, 1, 0, 0), (49, .iload 5, 2, 0, 0), (51, .invokevirtual 35, 3, 37, 783), (54, .invokevirtual 45, 3, 20, 761), (57, .iinc 6 1, 3, 0, 0), (60, .goto (-32), 3, 28, 0), (63, .aload_n 0, 1, 0, 0), (64, .iload 5, 2, 0, 0), (66, .iload 4, 2, 0, 0), (68, .invokevirtual 49, 3, 21, 765), (71, .istore 4, 2, 0, 0), (73, .iinc 5 1, 3, 0, 0), (76, .goto (-64), 3, 12, 0), (79, .iload 4, 2, 0, 0), (81, .ireturn, 1, 0, 0)]
def rw_19 : List Row := [(0, .iconst 0, 1, 0, 0), (1, .istore_n 1, 1, 0, 0), (2, .iload_n 1, 1, 0, 0), (3, .bipush 30, 2, 0, 0), (5, .if_icmp .gt 16, 3, 21, 0), (8, .aload_n 0, 1, 0, 0), (9, .getfield 13, 3, 201, 240), (12, .iload_n 1, 1, 0, 0), (13, .iconst 0, 1, 0, 0), (14, .iastore, 1, 0, 0), (15, .iinc 1 1, 3, 0, 0), (18, .goto (-16), 3, 2, 0), (21, .return_, 1, 0, 0)]
def rw_20 : List Row := [(0, .iload_n 1, 1, 0, 0), (1, .ifCond .lt 19, 3, 20, 0), (4, .iload_n 1, 1, 0, 0), (5, .bipush 30, 2, 0, 0), (7, .if_icmp .gt 13, 3, 20, 0), (10, .aload_n 0, 1, 0, 0), (11, .getfield 13, 3, 201, 240), (14, .iload_n 1, 1, 0, 0), (15, .dup2, 1, 0, 0), (16, .iaload, 1, 0, 0), (17, .iconst 1, 1, 0, 0), (18, .iadd, 1, 0, 0), (19, .iastore, 1, 0, 0), (20, .return_, 1, 0, 0)]
def rw_21 : List Row := [(0, .iconst 0, 1, 0, 0), (1, .istore_n 3, 1, 0, 0), (2, .iconst 0, 1, 0, 0), (3, .istore 4, 2, 0, 0), (5, .iload 4, 2, 0, 0), (7, .bipush 30, 2, 0, 0), (9, .if_icmp .gt 21, 3, 30, 0), (12, .iload_n 3, 1, 0, 0), (13, .aload_n 0, 1, 0, 0), (14, .getfield 13, 3, 201, 240), (17, .iload 4, 2, 0, 0), (19, .iaload, 1, 0, 0), (20, .invokestatic 52, 3, (-3), 769), (23, .istore_n 3, 1, 0, 0), (24, .iinc 4 1, 3, 0, 0), (27, .goto (-22), 3, 5, 0), (30, .iload_n 3, 1, 0, 0), (31, .aload_n 0, 1, 0, 0), (32, .getfield 7, 3, 200, 238), (35, .if_icmp .lt 5, 3, 40, 0), (38, .iload_n 2, 1, 0, 0), (39, .ireturn, 1, 0, 0), (40, .aload_n 0, 1, 0, 0), (41, .iload_n 3, 1, 0, 0), (42, .putfield 7, 3, 200, 238), (45, .iload_n 1, 1, 0, 0), (46, .ireturn, 1, 0, 0)]
def rw_22 : List Row := [(0, .aload_n 0, 1, 0, 0), (1, .invokespecial 1, 3, (-1), 95), (4, .aload_n 0, 1, 0, 0), (5, .iconst 0, 1, 0, 0), (6, .putfield 7, 3, 300, 96), (9, .aload_n 0, 1, 0, 0), (10, .iconst 0, 1, 0, 0), (11, .putfield 13, 3, 301, 98), (14, .aload_n 0, 1, 0, 0), (15, .iconst 0, 1, 0, 0), (16, .putfield 16, 3, 302, 100), (19, .aload_n 0, 1, 0, 0), (20, .iconst 0, 1, 0, 0), (21, .putfield 19, 3, 303, 106), (24, .aload_n 0, 1, 0, 0), (25, .iconst 0, 1, 0, 0), (26, .putfield 22, 3, 304, 112), (29, .aload_n 0, 1, 0, 0), (30, .iconst 0, 1, 0, 0), (31, .putfield 25, 3, 305, 116), (34, .aload_n 0, 1, 0, 0), (35, .iconst 0, 1, 0, 0), (36, .putfield 28, 3, 306, 118), (39, .aload_n 0, 1, 0, 0), (40, .bipush 6, 2, 0, 0), (42, .newarray .int, 2, 0, 163), (44, .putfield 31, 3, 307, 120), (47, .aload_n 0, 1, 0, 0), (48, .bipush 6, 2, 0, 0), (50, .newarray .int, 2, 0, 163), (52, .putfield 35, 3, 308, 122), (55, .aload_n 0, 1, 0, 0), (56, .bipush 6, 2, 0, 0), (58, .newarray .int, 2, 0, 163), (60, .putfield 38, 3, 309, 124), (63, .aload_n 0, 1, 0, 0), (64, .bipush 40, 2, 0, 0), (66, .newarray .int, 2, 0, 163), (68, .putfield 41, 3, 310, 127), (71, .aload_n 0, 1, 0, 0), (72, .bipush 40, 2, 0, 0), (74, .newarray .int, 2, 0, 163), (76, .putfield 44, 3, 311, 128), (79, .aload_n 0, 1, 0, 0), (80, .bipush 40, 2, 0, 0), (82, .newarray .int, 2, 0, 163), (84, .putfield 47, 3, 312, 129), (87, .aload_n 0, 1, 0, 0), (88, .bipush 40, 2, 0, 0), (90, .newarray .int, 2, 0, 163), (92, .putfield 50, 3, 313, 130), (95, .aload_n 0, 1, 0, 0), (96, .bipush 40, 2, 0, 0), (98, .newarray .int, 2, 0, 163), (100, .putfield 53, 3, 314, 131), (103, .return_, 1, 0, 0)]
def rw_23 : List Row := [(0, .aload_n 0, 1, 0, 0), (1, .iconst 0, 1, 0, 0), (2, .putfield 7, 3, 300, 96), (5, .aload_n 0, 1, 0, 0), (6, .iconst 0, 1, 0, 0), (7, .putfield 13, 3, 301, 98), (10, .aload_n 0, 1, 0, 0), (11, .iconst 0, 1, 0, 0), (12, .putfield 16, 3, 302, 100), (15, .aload_n 0, 1, 0, 0), (16, .iconst 0, 1, 0, 0), (17, .putfield 19, 3, 303, 106), (20, .aload_n 0, 1, 0, 0), (21, .iconst 0, 1, 0, 0), (22, .putfield 22, 3, 304, 112), (25, .aload_n 0, 1, 0, 0), (26, .iconst 0, 1, 0, 0), (27, .putfield 25, 3, 305, 116), (30, .aload_n 0, 1, 0, 0), (31, .iconst 0, 1, 0, 0), (32, .putfield 28, 3, 306, 118), (35, .return_, 1, 0, 0)]
def rw_24 : List Row := [(0, .aload_n 0, 1, 0, 0), (1, .aload_n 1, 1, 0, 0), (2, .getfield 7, 3, 300, 96), (5, .putfield 7, 3, 300, 96), (8, .aload_n 0, 1, 0, 0), (9, .aload_n 1, 1, 0, 0), (10, .getfield 13, 3, 301, 98), (13, .putfield 13, 3, 301, 98), (16, .aload_n 0, 1, 0, 0), (17, .aload_n 1, 1, 0, 0), (18, .getfield 16, 3, 302, 100), (21, .putfield 16, 3, 302, 100), (24, .aload_n 0, 1, 0, 0), (25, .aload_n 1, 1, 0, 0), (26, .getfield 19, 3, 303, 106), (29, .putfield 19, 3, 303, 106), (32, .aload_n 0, 1, 0, 0), (33, .aload_n 1, 1, 0, 0), (34, .getfield 22, 3, 304, 112), (37, .putfield 22, 3, 304, 112), (40, .aload_n 0, 1, 0, 0), (41, .aload_n 1, 1, 0, 0), (42, .getfield 25, 3, 305, 116), (45, .putfield 25, 3, 305, 116), (48, .aload_n 0, 1, 0, 0), (49, .aload_n 1, 1, 0, 0), (50, .getfield 28, 3, 306, 118), (53, .putfield 28, 3, 306, 118), (56, .aload_n 1, 1, 0, 0), (57, .getfield 31, 3, 307, 120), (60, .iconst 0, 1, 0, 0), (61, .aload_n 0, 1, 0, 0), (62, .getfield 31, 3, 307, 120), (65, .iconst 0, 1, 0, 0), (66, .aload_n 0, 1, 0, 0), (67, .getfield 16, 3, 302, 100), (70, .invokestatic 56, 3, (-2), 470), (73, .aload_n 1, 1, 0, 0), (74, .getfield 35, 3, 308, 122), (77, .iconst 0, 1, 0, 0), (78, .aload_n 0, 1, 0, 0), (79, .getfield 35, 3, 308, 122), (82, .iconst 0, 1, 0, 0), (83, .aload_n 0, 1, 0, 0), (84, .getfield 16, 3, 302, 100), (87, .invokestatic 56, 3, (-2), 470), (90, .aload_n 1, 1, 0, 0), (91, .getfield 38, 3, 309, 124), (94, .iconst 0, 1, 0, 0), (95, .aload_n 0, 1, 0, 0), (96, .getfield 38, 3, 309, 124), (99, .iconst 0, 1, 0, 0), (100, .aload_n 0, 1, 0, 0), (101, .getfield 16, 3, 302, 100), (104, .invokestatic 56, 3, (-2), 470), (107, .aload_n 1, 1, 0, 0), (108, .getfield 41, 3, 310, 127), (111, .iconst 0, 1, 0, 0), (112, .aload_n 0, 1, 0, 0), (113, .getfield 41, 3, 310, 127), (116, .iconst 0, 1, 0, 0), (117, .aload_n 0, 1, 0, 0), (118, .getfield 28, 3, 306, 118), (121, .invokestatic 56, 3, (-2), 470), (124, .aload_n 1, 1, 0, 0), (125, .getfield 44, 3, 311, 128), (128, .iconst 0, 1, 0, 0), (129, .aload_n 0, 1, 0, 0), (130, .getfield 44, 3, 311, 128), (133, .iconst 0, 1, 0, 0), (134, .aload_n 0, 1, 0, 0), (135, .getfield 28, 3, 306, 118), (138, .invokestatic 56, 3, (-2), 470), (141, .aload_n 1, 1, 0, 0), (142, .getfield 47, 3, 312, 129), (145, .iconst 0, 1, 0, 0), (146, .aload_n 0, 1, 0, 0), (147, .getfield 47, 3, 312, 129), (150, .iconst 0, 1, 0, 0), (151, .aload_n 0, 1, 0, 0), (152, .getfield 28, 3, 306, 118), (155, .invokestatic 56, 3, (-2), 470), (158, .aload_n 1, 1, 0, 0), (159, .getfield 50, 3, 313, 130), (162, .iconst 0, 1, 0, 0), (163, .aload_n 0, 1, 0, 0), (164, .getfield 50, 3, 313, 130), (167, .iconst 0, 1, 0, 0), (168, .aload_n 0, 1, 0, 0), (169, .getfield 28, 3, 306, 118), (172, .invokestatic 56, 3, (-2), 470), (175, .aload_n 1, 1, 0, 0), (176, .getfield 53, 3, 314, 131), (179, .iconst 0, 1, 0, 0), (180, .aload_n 0, 1, 0, 0), (181, .getfield 53, 3, 314, 131), (184, .iconst 0, 1, 0, 0), (185, .aload_n 0, 1, 0, 0), (186, .getfield 28, 3, 306, 118), (189, .invokestatic 56, 3, (-2), 470), (192, .return_, 1, 0, 0)]
def rw_25 : List Row := [(0, .aload_n 0, 1, 0, 0), (1, .getfield 16, 3, 302, 100), (4, .bipush 6, 2, 0, 0), (6, .if_icmp .ge 43, 3, 49, 0), (9, .aload_n 0, 1, 0, 0), (10, .getfield 31, 3, 307, 120), (13, .aload_n 0, 1, 0, 0), (14, .getfield 16, 3, 302, 100), (17, .iload_n 1, 1, 0, 0), (18, .iastore, 1, 0, 0), (19, .aload_n 0, 1, 0, 0), (20, .getfield 35, 3, 308, 122), (23, .aload_n 0, 1, 0, 0), (24, .getfield 16, 3, 302, 100), (27, .iload_n 2, 1, 0, 0), (28, .iastore, 1, 0, 0), (29, .aload_n 0, 1, 0, 0), (30, .getfield 38, 3, 309, 124), (33, .aload_n 0, 1, 0, 0), (34, .getfield 16, 3, 302, 100), (37, .iload_n 3, 1, 0, 0), (38, .iastore, 1, 0, 0), (39, .aload_n 0, 1, 0, 0), (40, .dup, 1, 0, 0), (41, .getfield 16, 3, 302, 100), (44, .iconst 1, 1, 0, 0), (45, .iadd, 1, 0, 0), (46, .putfield 16, 3, 302, 100), (49, .return_, 1, 0, 0)]
def rw_26 : List Row := [(0, .aload_n 0, 1, 0, 0), (1, .getfield 7, 3, 300, 96), (4, .ifCond .ne 7, 3, 11, 0), (7, .iconst 1, 1, 0, 0), (8, .goto 4, 3, 12, 0), (11, .iconst 0, 1, 0, 0), (12, .ireturn, 1, 0, 0)]
def rw_27 : List Row := [(0, .aload_n 0, 1, 0, 0), (1, .getfield 7, 3, 300, 96), (4, .aload_n 0, 1, 0, 0), (5, .getfield 13, 3, 301, 98), (8, .imul, 1, 0, 0), (9, .ireturn, 1, 0, 0)]
def rw_28 : List Row := [(0, .iload_n 1, 1, 0, 0), (1, .ifCond .lt 15, 3, 16, 0), (4, .iload_n 1, 1, 0, 0), (5, .aload_n 0, 1, 0, 0), (6, .invokevirtual 62, 3, 27, 541), (9, .if_icmp .ge 7, 3, 16, 0), (12, .iconst 1, 1, 0, 0), (13, .goto 4, 3, 17, 0), (16, .iconst 0, 1, 0, 0), (17, .ireturn, 1, 0, 0)]
def rw_29 : List Row := [(0, .iload_n 1, 1, 0, 0), (1, .ifCond .lt 15, 3, 16, 0), (4, .iload_n 1, 1, 0, 0), (5, .aload_n 0, 1, 0, 0), (6, .getfield 16, 3, 302, 100), (9, .if_icmp .ge 7, 3, 16, 0), (12, .iconst 1, 1, 0, 0), (13, .goto 4, 3, 17, 0), (16, .iconst 0, 1, 0, 0), (17, .ireturn, 1, 0, 0)]
def rw_30 : List Row := [(0, .aload_n 0, 1, 0, 0), (1, .getfield 7, 3, 300, 96), (4, .iconst 1, 1, 0, 0), (5, .if_icmp .ge 5, 3, 10, 0), (8, .iconst 0, 1, 0, 0), (9, .ireturn, 1, 0, 0), (10, .iload_n 1, 1, 0, 0), (11, .aload_n 0, 1, 0, 0), (12, .getfield 7, 3, 300, 96), (15, .irem, 1, 0, 0), (16, .iload_n 2, 1, 0, 0), (17, .aload_n 0, 1, 0, 0), (18, .getfield 7, 3, 300, 96), (21, .irem, 1, 0, 0), (22, .isub, 1, 0, 0), (23, .invokestatic 66, 3, (-5), 492), (26, .iload_n 1, 1, 0, 0), (27, .aload_n 0, 1, 0, 0), (28, .getfield 7, 3, 300, 96), (31, .idiv, 1, 0, 0), (32, .iload_n 2, 1, 0, 0), (33, .aload_n 0, 1, 0, 0), (34, .getfield 7, 3, 300, 96), (37, .idiv, 1, 0, 0), (38, .isub, 1, 0, 0), (39, .invokestatic 66, 3, (-5), 492), (42, .iadd, 1, 0, 0), (43, .ireturn, 1, 0, 0)]
def rw_31 : List Row := [(0, .aload_n 0, 1, 0, 0), (1, .getfield 7, 3, 300, 96), (4, .iconst 1, 1, 0, 0), (5, .if_icmp .ge 5, 3, 10, 0), (8, .iconst (-1), 1, 0, 0), (9, .ireturn, 1, 0, 0), (10, .iload_n 1, 1, 0, 0), (11, .aload_n 0, 1, 0, 0), (12, .getfield 7, 3, 300, 96), (15, .idiv, 1, 0, 0), (16, .istore_n 3, 1, 0, 0), (17, .iload_n 1, 1, 0, 0), (18, .aload_n 0, 1, 0, 0), (19, .getfield 7, 3, 300, 96), (22, .irem, 1, 0, 0), (23, .istore 4, 2, 0, 0), (25, .iload_n 2, 1, 0, 0), (26, .tableswitch 104 0 4 #[34, 36, 51, 70, 91], 34, 0, 0), (60, .iload_n 1, 1, 0, 0), (61, .ireturn, 1, 0, 0), (62, .iload_n 3, 1, 0, 0), (63, .ifCond .le 12, 3, 75, 0), (66, .iload_n 1, 1, 0, 0), (67, .aload_n 0, 1, 0, 0), (68, .getfield 7, 3, 300, 96), (71, .isub, 1, 0, 0), (72, .goto 4, 3, 76, 0), (75, .iconst (-1), 1, 0, 0), (76, .ireturn, 1, 0, 0), (77, .iload 4, 2, 0, 0), (79, .aload_n 0, 1, 0, 0), (80, .getfield 7, 3, 300, 96), (83, .iconst 1, 1, 0, 0), (84, .isub, 1, 0, 0), (85, .if_icmp .ge 9, 3, 94, 0), (88, .iload_n 1, 1, 0, 0), (89, .iconst 1, 1, 0, 0), (90, .iadd, 1, 0, 0), (91, .goto 4, 3, 95, 0), (94, .iconst (-1), 1, 0, 0), (95, .ireturn, 1, 0, 0), (96, .iload_n 3, 1, 0, 0), (97, .aload_n 0, 1, 0, 0), (98, .getfield 13, 3, 301, 98), (101, .iconst 1, 1, 0, 0), (102, .isub, 1, 0, 0), (103, .if_icmp .ge 12, 3, 115, 0), (106, .iload_n 1, 1, 0, 0), (107, .aload_n 0, 1, 0, 0), (108, .getfield 7, 3, 300, 96), (111, .iadd, 1, 0, 0), (112, .goto 4, 3, 116, 0), (115, .iconst (-1), 1, 0, 0), (116, .ireturn, 1, 0, 0), (117, .iload 4, 2, 0, 0), (119, .ifCond .le 9, 3, 128, 0), (122, .iload_n 1, 1, 0, 0), (123, .iconst 1, 1, 0, 0), (124, .isub, 1, 0, 0), (125, .goto 4, 3, 129, 0), (128, .iconst (-1), 1, 0, 0), (129, .ireturn, 1, 0, 0), (130, .iconst (-1), 1, 0, 0), (131, .ireturn, 1, 0, 0)]
def rw_32 : List Row := [(0, .iload_n 3, 1, 0, 0), (1, .ifCond .eq 18, 3, 19, 0), (4, .iload_n 3, 1, 0, 0), (5, .iload_n 2, 1, 0, 0), (6, .if_icmp .eq 17, 3, 23, 0), (9, .aload_n 0, 1, 0, 0), (10, .iload_n 1, 1, 0, 0), (11, .iload_n 3, 1, 0, 0), (12, .invokevirtual 72, 3, 31, 510), (15, .iconst (-1), 1, 0, 0), (16, .if_icmp .eq 7, 3, 23, 0), (19, .iconst 1, 1, 0, 0), (20, .goto 4, 3, 24, 0), (23, .iconst 0, 1, 0, 0), (24, .ireturn, 1, 0, 0)]
def rw_33 : List Row := [(0, .iload_n 0, 1, 0, 0), (1, .ifCond .lt 8, 3, 9, 0), (4, .iload_n 0, 1, 0, 0), (5, .iconst 5, 1, 0, 0), (6, .if_icmp .lt 7, 3, 13, 0), (9, .iconst 0, 1, 0, 0), (10, .goto 8, 3, 18, 0), (13, .getstatic 76, 3, (-5), 591), (16, .iload_n 0, 1, 0, 0), (17, .iaload, 1, 0, 0), (18, .ireturn, 1, 0, 0)]
def rw_34 : List Row := [(0, .aload_n 0, 1, 0, 0), (1, .getfield 31, 3, 307, 120), (4, .iload_n 1, 1, 0, 0), (5, .iaload, 1, 0, 0), (6, .iload_n 2, 1, 0, 0), (7, .if_icmp .eq 17, 3, 24, 0), (10, .getstatic 79, 3, (-4), 519), (13, .aload_n 0, 1, 0, 0), (14, .getfield 31, 3, 307, 120), (17, .iload_n 1, 1, 0, 0), (18, .iaload, 1, 0, 0), (19, .iaload, 1, 0, 0), (20, .iload_n 2, 1, 0, 0), (21, .if_icmp .ne 7, 3, 28, 0), (24, .iconst 1, 1, 0, 0), (25, .goto 4, 3, 29, 0), (28, .iconst 0, 1, 0, 0), (29, .ireturn, 1, 0, 0)]
def rw_35 : List Row := [(0, .aload_n 0, 1, 0, 0), (1, .getfield 7, 3, 300, 96), (4, .ifCond .le 27, 3, 31, 0), (7, .iload_n 2, 1, 0, 0), (8, .aload_n 0, 1, 0, 0), (9, .getfield 7, 3, 300, 96), (12, .idiv, 1, 0, 0), (13, .aload_n 0, 1, 0, 0), (14, .getfield 35, 3, 308, 122), (17, .iload_n 1, 1, 0, 0), (18, .iaload, 1, 0, 0), (19, .aload_n 0, 1, 0, 0), (20, .getfield 7, 3, 300, 96), (23, .idiv, 1, 0, 0), (24, .if_icmp .ge 7, 3, 31, 0), (27, .iconst 1, 1, 0, 0), (28, .goto 4, 3, 32, 0), (31, .iconst 0, 1, 0, 0), (32, .ireturn, 1, 0, 0)]
def rw_36 : List Row := [(0, .aload_n 0, 1, 0, 0), (1, .getfield 31, 3, 307, 120), (4, .iload_n 1, 1, 0, 0), (5, .iaload, 1, 0, 0), (6, .aload_n 0, 1, 0, 0), (7, .iload_n 2, 1, 0, 0), (8, .aload_n 0, 1, 0, 0), (9, .getfield 35, 3, 308, 122), (12, .iload_n 1, 1, 0, 0), (13, .iaload, 1, 0, 0), (14, .invokevirtual 82, 3, 30, 488), (17, .aload_n 0, 1, 0, 0), (18, .iload_n 1, 1, 0, 0), (19, .iload_n 2, 1, 0, 0), (20, .invokevirtual 85, 3, 35, 495), (23, .invokestatic 89, 3, 38, 499), (26, .ireturn, 1, 0, 0)]
def rw_37 : List Row := [(0, .iload_n 1, 1, 0, 0), (1, .aload_n 0, 1, 0, 0), (2, .iload_n 3, 1, 0, 0), (3, .aload_n 0, 1, 0, 0), (4, .getfield 35, 3, 308, 122), (7, .iload_n 2, 1, 0, 0), (8, .iaload, 1, 0, 0), (9, .invokevirtual 82, 3, 30, 488), (12, .aload_n 0, 1, 0, 0), (13, .iload_n 2, 1, 0, 0), (14, .iload_n 3, 1, 0, 0), (15, .invokevirtual 85, 3, 35, 495), (18, .invokestatic 89, 3, 38, 499), (21, .ireturn, 1, 0, 0)]
def rw_38 : List Row := [(0, .iload_n 0, 1, 0, 0), (1, .tableswitch 80 1 5 #[35, 47, 52, 54, 69], 35, 0, 0), (36, .iload_n 2, 1, 0, 0), (37, .ifCond .eq 9, 3, 46, 0), (40, .iload_n 1, 1, 0, 0), (41, .iconst 3, 1, 0, 0), (42, .iadd, 1, 0, 0), (43, .goto 4, 3, 47, 0), (46, .iload_n 1, 1, 0, 0), (47, .ireturn, 1, 0, 0), (48, .bipush 9, 2, 0, 0), (50, .iload_n 1, 1, 0, 0), (51, .isub, 1, 0, 0), (52, .ireturn, 1, 0, 0), (53, .iconst 0, 1, 0, 0), (54, .ireturn, 1, 0, 0), (55, .iload_n 1, 1, 0, 0), (56, .ifCond .ne 7, 3, 63, 0), (59, .iconst 0, 1, 0, 0), (60, .goto 9, 3, 69, 0), (63, .iconst 2, 1, 0, 0), (64, .bipush 9, 2, 0, 0), (66, .iload_n 1, 1, 0, 0), (67, .isub, 1, 0, 0), (68, .imul, 1, 0, 0), (69, .ireturn, 1, 0, 0), (70, .iload_n 1, 1, 0, 0), (71, .iconst 1, 1, 0, 0), (72, .if_icmp .ne 7, 3, 79, 0), (75, .iconst 5, 1, 0, 0), (76, .goto 4, 3, 80, 0), (79, .iconst 0, 1, 0, 0), (80, .ireturn, 1, 0, 0), (81, .iload_n 1, 1, 0, 0), (82, .ireturn, 1, 0, 0)]
def rw_39 : List Row := [(0, .iconst 0, 1, 0, 0), (1, .istore_n 2, 1, 0, 0), (2, .iconst 0, 1, 0, 0), (3, .istore_n 3, 1, 0, 0), (4, .iload_n 3, 1, 0, 0), (5, .aload_n 0, 1, 0, 0), (6, .invokevirtual 62, 3, 27, 541), (9, .if_icmp .ge 26, 3, 35, 0), (12, .iload_n 2, 1, 0, 0), (13, .aload_n 0, 1, 0, 0), (14, .iload_n 1, 1, 0, 0), (15, .iload_n 3, 1, 0, 0), (16, .invokevirtual 93, 3, 36, 545), (19, .ifCond .le 7, 3, 26, 0), (22, .iconst 1, 1, 0, 0), (23, .goto 4, 3, 27, 0), (26, .iconst 0, 1, 0, 0), (27, .iadd, 1, 0, 0), (28, .istore_n 2, 1, 0, 0), (29, .iinc 3 1, 3, 0, 0), (32, .goto (-28), 3, 4, 0), (35, .iload_n 2, 1, 0, 0), (36, .ireturn, 1, 0, 0)]
def rw_40 : List Row := [(0, .iconst 0, 1, 0, 0), (1, .istore_n 2, 1, 0, 0), (2, .iconst 0, 1, 0, 0), (3, .istore_n 3, 1, 0, 0), (4, .iload_n 3, 1, 0, 0), (5, .aload_n 0, 1, 0, 0), (6, .getfield 16, 3, 302, 100), (9, .if_icmp .ge 25, 3, 34, 0), (12, .iload_n 2, 1, 0, 0), (13, .aload_n 0, 1, 0, 0), (14, .getfield 38, 3, 309, 124), (17, .iload_n 3, 1, 0, 0), (18, .iaload, 1, 0, 0), (19, .aload_n 0, 1, 0, 0), (20, .iload_n 3, 1, 0, 0), (21, .iload_n 1, 1, 0, 0), (22, .invokevirtual 93, 3, 36, 545), (25, .imul, 1, 0, 0), (26, .iadd, 1, 0, 0), (27, .istore_n 2, 1, 0, 0), (28, .iinc 3 1, 3, 0, 0), (31, .goto (-27), 3, 4, 0), (34, .iload_n 2, 1, 0, 0), (35, .ireturn, 1, 0, 0)]
def rw_41 : List Row := [(0, .iconst 0, 1, 0, 0), (1, .istore_n 2, 1, 0, 0), (2, .iconst 0, 1, 0, 0), (3, .istore_n 3, 1, 0, 0), (4, .iload_n 3, 1, 0, 0), (5, .aload_n 0, 1, 0, 0), (6, .getfield 16, 3, 302, 100), (9, .if_icmp .ge 24, 3, 33, 0), (12, .iload_n 2, 1, 0, 0), (13, .iload_n 1, 1, 0, 0), (14, .iload_n 3, 1, 0, 0), (15, .ishr, 1, 0, 0), (16, .iconst 1, 1, 0, 0), (17, .iand, 1, 0, 0), (18, .aload_n 0, 1, 0, 0), (19, .getfield 38, 3, 309, 124), (22, .iload_n 3, 1, 0, 0), (23, .iaload, 1, 0, 0), (24, .imul, 1, 0, 0), (25, .iadd, 1, 0, 0), (26, .istore_n 2, 1, 0, 0), (27, .iinc 3 1, 3, 0, 0), (30, .goto (-26), 3, 4, 0), (33, .iload_n 2, 1, 0, 0), (34, .ireturn, 1, 0, 0)]
def rw_42 : List Row := [(0, .aload_n 0, 1, 0, 0), (1, .iconst (-1), 1, 0, 0), (2, .invokevirtual 96, 3, 41, 659), (5, .ireturn, 1, 0, 0)]
def rw_43 : List Row := [(0, .iconst 0, 1, 0, 0), (1, .istore_n 1, 1, 0, 0), (2, .iconst 0, 1, 0, 0), (3, .istore_n 2, 1, 0, 0), (4, .iload_n 2, 1, 0, 0), (5, .aload_n 0, 1, 0, 0), (6, .getfield 16, 3, 302, 100), (9, .if_icmp .ge 26, 3, 35, 0), (12, .iload_n 1, 1, 0, 0), (13, .aload_n 0, 1, 0, 0), (14, .iload_n 2, 1, 0, 0), (15, .iconst 2, 1, 0, 0), (16, .invokevirtual 99, 3, 34, 880), (19, .ifCond .eq 7, 3, 26, 0), (22, .iconst 1, 1, 0, 0), (23, .goto 4, 3, 27, 0), (26, .iconst 0, 1, 0, 0), (27, .iadd, 1, 0, 0), (28, .istore_n 1, 1, 0, 0), (29, .iinc 2 1, 3, 0, 0), (32, .goto (-28), 3, 4, 0), (35, .iload_n 1, 1, 0, 0), (36, .ireturn, 1, 0, 0)]
def rw_44 : List Row := [(0, .aload_n 0, 1, 0, 0), (1, .aload_n 0, 1, 0, 0), (2, .getfield 19, 3, 303, 106), (5, .iload_n 1, 1, 0, 0), (6, .invokevirtual 72, 3, 31, 510), (9, .iconst (-1), 1, 0, 0), (10, .if_icmp .eq 11, 3, 21, 0), (13, .aload_n 0, 1, 0, 0), (14, .iconst (-1), 1, 0, 0), (15, .invokevirtual 102, 3, 47, 583), (18, .ifCond .ne 4, 3, 22, 0), (21, .return_, 1, 0, 0), (22, .aload_n 0, 1, 0, 0), (23, .aload_n 0, 1, 0, 0), (24, .aload_n 0, 1, 0, 0), (25, .getfield 19, 3, 303, 106), (28, .iload_n 1, 1, 0, 0), (29, .invokevirtual 72, 3, 31, 510), (32, .putfield 19, 3, 303, 106), (35, .aload_n 0, 1, 0, 0), (36, .iload_n 1, 1, 0, 0), (37, .invokestatic 106, 3, 33, 588), (40, .putfield 22, 3, 304, 112), (43, .aload_n 0, 1, 0, 0), (44, .dup, 1, 0, 0), (45, .getfield 25, 3, 305, 116), (48, .iconst 1, 1, 0, 0), (49, .iadd, 1, 0, 0), (50, .putfield 25, 3, 305, 116), (53, .return_, 1, 0, 0)]
def rw_45 : List Row := [(0, .aload_n 0, 1, 0, 0), (1, .iconst (-1), 1, 0, 0), (2, .invokevirtual 102, 3, 47, 583), (5, .ifCond .ne 4, 3, 9, 0), (8, .return_, 1, 0, 0), (9, .aload_n 0, 1, 0, 0), (10, .aload_n 0, 1, 0, 0), (11, .getfield 19, 3, 303, 106), (14, .iload_n 1, 1, 0, 0), (15, .invokevirtual 72, 3, 31, 510), (18, .istore_n 2, 1, 0, 0), (19, .aload_n 0, 1, 0, 0), (20, .iload_n 2, 1, 0, 0), (21, .iconst (-1), 1, 0, 0), (22, .if_icmp .ne 10, 3, 32, 0), (25, .aload_n 0, 1, 0, 0), (26, .getfield 19, 3, 303, 106), (29, .goto 4, 3, 33, 0), (32, .iload_n 2, 1, 0, 0), (33, .putfield 19, 3, 303, 106), (36, .aload_n 0, 1, 0, 0), (37, .iconst 0, 1, 0, 0), (38, .putfield 22, 3, 304, 112), (41, .return_, 1, 0, 0)]
def rw_46 : List Row := [(0, .aload_n 0, 1, 0, 0), (1, .iload_n 1, 1, 0, 0), (2, .invokevirtual 102, 3, 47, 583), (5, .ifCond .eq 10, 3, 15, 0), (8, .aload_n 0, 1, 0, 0), (9, .getfield 35, 3, 308, 122), (12, .iload_n 1, 1, 0, 0), (13, .iload_n 2, 1, 0, 0), (14, .iastore, 1, 0, 0), (15, .return_, 1, 0, 0)]
def rw_47 : List Row := [(0, .aload_n 0, 1, 0, 0), (1, .getfield 28, 3, 306, 118), (4, .bipush 40, 2, 0, 0), (6, .if_icmp .lt 5, 3, 11, 0), (9, .iconst 0, 1, 0, 0), (10, .ireturn, 1, 0, 0), (11, .aload_n 0, 1, 0, 0), (12, .getfield 41, 3, 310, 127), (15, .aload_n 0, 1, 0, 0), (16, .getfield 28, 3, 306, 118), (19, .aload_n 0, 1, 0, 0), (20, .getfield 19, 3, 303, 106), (23, .iastore, 1, 0, 0), (24, .aload_n 0, 1, 0, 0), (25, .getfield 44, 3, 311, 128), (28, .aload_n 0, 1, 0, 0), (29, .getfield 28, 3, 306, 118), (32, .aload_n 0, 1, 0, 0), (33, .getfield 22, 3, 304, 112), (36, .iastore, 1, 0, 0), (37, .aload_n 0, 1, 0, 0), (38, .getfield 47, 3, 312, 129), (41, .aload_n 0, 1, 0, 0), (42, .getfield 28, 3, 306, 118), (45, .aload_n 0, 1, 0, 0), (46, .getfield 25, 3, 305, 116), (49, .iastore, 1, 0, 0), (50, .aload_n 0, 1, 0, 0), (51, .getfield 50, 3, 313, 130), (54, .aload_n 0, 1, 0, 0), (55, .getfield 28, 3, 306, 118), (58, .iload_n 1, 1, 0, 0), (59, .iastore, 1, 0, 0), (60, .aload_n 0, 1, 0, 0), (61, .getfield 53, 3, 314, 131), (64, .aload_n 0, 1, 0, 0), (65, .getfield 28, 3, 306, 118), (68, .aload_n 0, 1, 0, 0), (69, .iload_n 1, 1, 0, 0), (70, .invokevirtual 109, 3, 29, 587), (73, .ifCond .eq 12, 3, 85, 0), (76, .aload_n 0, 1, 0, 0), (77, .getfield 35, 3, 308, 122), (80, .iload_n 1, 1, 0, 0), (81, .iaload, 1, 0, 0), (82, .goto 4, 3, 86, 0), (85, .iconst (-1), 1, 0, 0), (86, .iastore, 1, 0, 0), (87, .aload_n 0, 1, 0, 0), (88, .dup, 1, 0, 0), (89, .getfield 28, 3, 306, 118), (92, .iconst 1, 1, 0, 0), (93, .iadd, 1, 0, 0), (94, .putfield 28, 3, 306, 118), (97, .iconst 1, 1, 0, 0), (98, .ireturn, 1, 0, 0)]
def rw_48 : List Row := [(0, .aload_n 0, 1, 0, 0), (1, .getfield 28, 3, 306, 118), (4, .iconst 1, 1, 0, 0), (5, .isub, 1, 0, 0), (6, .istore_n 2, 1, 0, 0), (7, .iload_n 2, 1, 0, 0), (8, .iload_n 1, 1, 0, 0), (9, .if_icmp .lt 78, 3, 87, 0), (12, .iload_n 2, 1, 0, 0), (13, .ifCond .lt 74, 3, 87, 0), (16, .aload_n 0, 1, 0, 0), (17, .aload_n 0, 1, 0, 0), (18, .getfield 41, 3, 310, 127), (21, .iload_n 2, 1, 0, 0), (22, .iaload, 1, 0, 0), (23, .putfield 19, 3, 303, 106), (26, .aload_n 0, 1, 0, 0), (27, .aload_n 0, 1, 0, 0), (28, .getfield 44, 3, 311, 128), (31, .iload_n 2, 1, 0, 0), (32, .iaload, 1, 0, 0), (33, .putfield 22, 3, 304, 112), (36, .aload_n 0, 1, 0, 0), (37, .aload_n 0, 1, 0, 0), (38, .getfield 47, 3, 312, 129), (41, .iload_n 2, 1, 0, 0), (42, .iaload, 1, 0, 0), (43, .putfield 25, 3, 305, 116), (46, .aload_n 0, 1, 0, 0), (47, .aload_n 0, 1, 0, 0), (48, .getfield 50, 3, 313, 130), (51, .iload_n 2, 1, 0, 0), (52, .iaload, 1, 0, 0), (53, .invokevirtual 109, 3, 29, 587), (56, .ifCond .eq 20, 3, 76, 0), (59, .aload_n 0, 1, 0, 0), (60, .getfield 35, 3, 308, 122), (63, .aload_n 0, 1, 0, 0), (64, .getfield 50, 3, 313, 130), (67, .iload_n 2, 1, 0, 0), (68, .iaload, 1, 0, 0), (69, .aload_n 0, 1, 0, 0), (70, .getfield 53, 3, 314, 131), (73, .iload_n 2, 1, 0, 0), (74, .iaload, 1, 0, 0), (75, .iastore, 1, 0, 0), (76, .aload_n 0, 1, 0, 0), (77, .iload_n 2, 1, 0, 0), (78, .putfield 28, 3, 306, 118), (81, .iinc 2 (-1), 3, 0, 0), (84, .goto (-77), 3, 7, 0), (87, .return_, 1, 0, 0)]
def rw_49 : List Row := [(0, .aload_n 0, 1, 0, 0), (1, .invokespecial 1, 3, (-1), 251), (4, .aload_n 0, 1, 0, 0), (5, .bipush 25, 2, 0, 0), (7, .newarray .int, 2, 0, 163), (9, .putfield 9, 3, 400, 252), (12, .aload_n 0, 1, 0, 0), (13, .bipush 25, 2, 0, 0), (15, .newarray .int, 2, 0, 163), (17, .putfield 15, 3, 401, 253), (20, .return_, 1, 0, 0)]
def rw_50 : List Row := [(0, .iconst 0, 1, 0, 0), (1, .istore 5, 2, 0, 0), (3, .iload 5, 2, 0, 0), (5, .aload_n 1, 1, 0, 0), (6, .invokevirtual 18, 3, 27, 800), (9, .if_icmp .ge 17, 3, 26, 0), (12, .aload_n 0, 1, 0, 0), (13, .getfield 9, 3, 400, 252), (16, .iload 5, 2, 0, 0), (18, .iconst (-1), 1, 0, 0), (19, .iastore, 1, 0, 0), (20, .iinc 5 1, 3, 0, 0), (23, .goto (-20), 3, 3, 0), (26, .iload_n 2, 1, 0, 0), (27, .aload_n 1, 1, 0, 0), (28, .getfield 22, 3, 303, 108), (31, .if_icmp .eq 11, 3, 42, 0), (34, .iload_n 3, 1, 0, 0), (35, .aload_n 1, 1, 0, 0), (36, .getfield 22, 3, 303, 108), (39, .if_icmp .ne 5, 3, 44, 0), (42, .iconst (-1), 1, 0, 0), (43, .ireturn, 1, 0, 0), (44, .aload_n 0, 1, 0, 0), (45, .getfield 9, 3, 400, 252), (48, .iload_n 3, 1, 0, 0), (49, .iconst 0, 1, 0, 0), (50, .iastore, 1, 0, 0), (51, .aload_n 0, 1, 0, 0), (52, .getfield 15, 3, 401, 253), (55, .iconst 0, 1, 0, 0), (56, .iload_n 3, 1, 0, 0), (57, .iastore, 1, 0, 0), (58, .iconst 1, 1, 0, 0), (59, .istore 5, 2, 0, 0), (61, .iconst 0, 1, 0, 0), (62, .istore 6, 2, 0, 0), (64, .iload 6, 2, 0, 0), (66, .iload 5, 2, 0, 0), (68, .if_icmp .ge 34, 3, 102, 0), (71, .iload 6, 2, 0, 0), (73, .bipush 25, 2, 0, 0), (75, .if_icmp .ge 27, 3, 102, 0), (78, .aload_n 0, 1, 0, 0), (79, .aload_n 1, 1, 0, 0), (80, .aload_n 0, 1, 0, 0), (81, .getfield 15, 3, 401, 253), (84, .iload 6, 2, 0, 0), (86, .iaload, 1, 0, 0), (87, .iload 4, 2, 0, 0), (89, .iload 5, 2, 0, 0), (91, .invokevirtual 26, 3, 51, 801), (94, .istore 5, 2, 0, 0), (96, .iinc 6 1, 3, 0, 0), (99, .goto (-35), 3, 64, 0), (102, .aload_n 0, 1, 0, 0), (103, .getfield 9, 3, 400, 252), (106, .iload_n 2, 1, 0, 0), (107, .iaload, 1, 0, 0), (108, .ireturn, 1, 0, 0)]
def rw_51 : List Row := [(0, .iload 4, 2, 0, 0), (2, .istore 5, 2, 0, 0), (4, .iconst 1, 1, 0, 0), (5, .istore 6, 2, 0, 0), (7, .iload 6, 2, 0, 0), (9, .iconst 4, 1, 0, 0), (10, .if_icmp .gt 96, 3, 106, 0), (13, .aload_n 1, 1, 0, 0), (14, .iload_n 2, 1, 0, 0), (15, .iload 6, 2, 0, 0), (17, .invokevirtual 30, 3, 31, 805), (20, .istore 7, 2, 0, 0), (22, .iload 7, 2, 0, 0), (24, .iconst (-1), 1, 0, 0), (25, .if_icmp .eq 22, 3, 47, 0), (28, .iload 7, 2, 0, 0), (30, .aload_n 1, 1, 0, 0), (31, .getfield 22, 3, 303, 108), (34, .if_icmp .eq 13, 3, 47, 0), (37, .iload 7, 2, 0, 0), (39, .iload_n 3, 1, 0, 0), (40, .if_icmp .eq 7, 3, 47, 0), (43, .iconst 1, 1, 0, 0), (44, .goto 4, 3, 48, 0), (47, .iconst 0, 1, 0, 0), (48, .istore 8, 2, 0, 0), (50, .iload 8, 2, 0, 0), (52, .ifCond .eq 48, 3, 100, 0), (55, .aload_n 0, 1, 0, 0), (56, .getfield 9, 3, 400, 252), (59, .iload 7, 2, 0, 0), (61, .iaload, 1, 0, 0), (62, .iconst (-1), 1, 0, 0), (63, .if_icmp .ne 37, 3, 100, 0), (66, .iload 5, 2, 0, 0), (68, .bipush 25, 2, 0, 0), (70, .if_icmp .ge 30, 3, 100, 0), (73, .aload_n 0, 1, 0, 0), (74, .getfield 9, 3, 400, 252), (77, .iload 7, 2, 0, 0), (79, .aload_n 0, 1, 0, 0), (80, .getfield 9, 3, 400, 252), (83, .iload_n 2, 1, 0, 0), (84, .iaload, 1, 0, 0), (85, .iconst 1, 1, 0, 0), (86, .iadd, 1, 0, 0), (87, .iastore, 1, 0, 0), (88, .aload_n 0, 1, 0, 0), (89, .getfield 15, 3, 401, 253), (92, .iload 5, 2, 0, 0), (94, .iload 7, 2, 0, 0), (96, .iastore, 1, 0, 0), (97, .iinc 5 1, 3, 0, 0), (100, .iinc 6 1, 3, 0, 0), (103, .goto (-96), 3, 7, 0), (106, .iload 5, 2, 0, 0), (108, .ireturn, 1, 0, 0)]
def rw_52 : List Row := [(0, .iconst 1, 1, 0, 0), (1, .istore_n 3, 1, 0, 0), (2, .iload_n 3, 1, 0, 0), (3, .iconst 4, 1, 0, 0), (4, .if_icmp .gt 54, 3, 58, 0), (7, .aload_n 1, 1, 0, 0), (8, .iload_n 2, 1, 0, 0), (9, .iload_n 3, 1, 0, 0), (10, .invokevirtual 30, 3, 31, 805), (13, .istore 4, 2, 0, 0), (15, .iload 4, 2, 0, 0), (17, .iconst (-1), 1, 0, 0), (18, .if_icmp .eq 34, 3, 52, 0), (21, .aload_n 0, 1, 0, 0), (22, .getfield 9, 3, 400, 252), (25, .iload 4, 2, 0, 0), (27, .iaload, 1, 0, 0), (28, .iconst (-1), 1, 0, 0), (29, .if_icmp .eq 23, 3, 52, 0), (32, .aload_n 0, 1, 0, 0), (33, .getfield 9, 3, 400, 252), (36, .iload 4, 2, 0, 0), (38, .iaload, 1, 0, 0), (39, .aload_n 0, 1, 0, 0), (40, .getfield 9, 3, 400, 252), (43, .iload_n 2, 1, 0, 0), (44, .iaload, 1, 0, 0), (45, .iconst 1, 1, 0, 0), (46, .isub, 1, 0, 0), (47, .if_icmp .ne 5, 3, 52, 0), (50, .iload_n 3, 1, 0, 0), (51, .ireturn, 1, 0, 0), (52, .iinc 3 1, 3, 0, 0), (55, .goto (-53), 3, 2, 0), (58, .iconst 0, 1, 0, 0), (59, .ireturn, 1, 0, 0)]
def rw_53 : List Row := [(0, .aload_n 0, 1, 0, 0), (1, .invokespecial 5, 3, (-1), 219), (4, .aload_n 0, 1, 0, 0), (5, .bipush 25, 2, 0, 0), (7, .newarray .int, 2, 0, 163), (9, .putfield 11, 3, 500, 222), (12, .aload_n 0, 1, 0, 0), (13, .bipush 6, 2, 0, 0), (15, .bipush 125, 2, 0, 0), (17, .multianewarray 17 2, 4, 0, 220), (21, .putfield 19, 3, 501, 223), (24, .aload_n 0, 1, 0, 0), (25, .bipush 7, 2, 0, 0), (27, .bipush 25, 2, 0, 0), (29, .multianewarray 17 2, 4, 0, 220), (33, .putfield 22, 3, 502, 224), (36, .return_, 1, 0, 0)]
def rw_54 : List Row := [(0, .aload_n 0, 1, 0, 0), (1, .aload_n 1, 1, 0, 0), (2, .invokevirtual 25, 3, 55, 708), (5, .iconst 1, 1, 0, 0), (6, .istore 4, 2, 0, 0), (8, .iload 4, 2, 0, 0), (10, .iload_n 2, 1, 0, 0), (11, .if_icmp .gt 81, 3, 92, 0), (14, .iconst 0, 1, 0, 0), (15, .istore 5, 2, 0, 0), (17, .iload 5, 2, 0, 0), (19, .aload_n 1, 1, 0, 0), (20, .invokevirtual 29, 3, 27, 712), (23, .if_icmp .ge 63, 3, 86, 0), (26, .iconst 0, 1, 0, 0), (27, .istore 6, 2, 0, 0), (29, .iload 6, 2, 0, 0), (31, .iconst 5, 1, 0, 0), (32, .if_icmp .ge 48, 3, 80, 0), (35, .aload_n 0, 1, 0, 0), (36, .aload_n 1, 1, 0, 0), (37, .iload 4, 2, 0, 0), (39, .iload 5, 2, 0, 0), (41, .iload 6, 2, 0, 0), (43, .invokevirtual 33, 3, 56, 714), (46, .istore 7, 2, 0, 0), (48, .aload_n 0, 1, 0, 0), (49, .getfield 19, 3, 501, 223), (52, .iload 4, 2, 0, 0), (54, .aaload, 1, 0, 0), (55, .iload 5, 2, 0, 0), (57, .iconst 5, 1, 0, 0), (58, .imul, 1, 0, 0), (59, .iload 6, 2, 0, 0), (61, .iadd, 1, 0, 0), (62, .aload_n 0, 1, 0, 0), (63, .aload_n 1, 1, 0, 0), (64, .iload 4, 2, 0, 0), (66, .iload 5, 2, 0, 0), (68, .iload 7, 2, 0, 0), (70, .invokevirtual 37, 3, 57, 718), (73, .iastore, 1, 0, 0), (74, .iinc 6 1, 3, 0, 0), (77, .goto (-48), 3, 29, 0), (80, .iinc 5 1, 3, 0, 0), (83, .goto (-66), 3, 17, 0), (86, .iinc 4 1, 3, 0, 0), (89, .goto (-81), 3, 8, 0), (92, .aload_n 1, 1, 0, 0), (93, .getfield 40, 3, 303, 109), (96, .istore 4, 2, 0, 0), (98, .aload_n 1, 1, 0, 0), (99, .getfield 44, 3, 304, 114), (102, .istore 5, 2, 0, 0), (104, .iconst 0, 1, 0, 0), (105, .istore 6, 2, 0, 0), (107, .iload 6, 2, 0, 0), (109, .iload_n 2, 1, 0, 0), (110, .if_icmp .ge 54, 3, 164, 0), (113, .iload 6, 2, 0, 0), (115, .aload_n 3, 1, 0, 0), (116, .arraylength, 1, 0, 0), (117, .if_icmp .ge 47, 3, 164, 0), (120, .aload_n 3, 1, 0, 0), (121, .iload 6, 2, 0, 0), (123, .aload_n 0, 1, 0, 0), (124, .aload_n 1, 1, 0, 0), (125, .iload_n 2, 1, 0, 0), (126, .iload 6, 2, 0, 0), (128, .isub, 1, 0, 0), (129, .iload 4, 2, 0, 0), (131, .iload 5, 2, 0, 0), (133, .invokevirtual 33, 3, 56, 714), (136, .iastore, 1, 0, 0), (137, .aload_n 1, 1, 0, 0), (138, .iload 4, 2, 0, 0), (140, .aload_n 3, 1, 0, 0), (141, .iload 6, 2, 0, 0), (143, .iaload, 1, 0, 0), (144, .invokevirtual 47, 3, 31, 722), (147, .istore 4, 2, 0, 0), (149, .aload_n 3, 1, 0, 0), (150, .iload 6, 2, 0, 0), (152, .iaload, 1, 0, 0), (153, .invokestatic 51, 3, 33, 723), (156, .istore 5, 2, 0, 0), (158, .iinc 6 1, 3, 0, 0), (161, .goto (-54), 3, 107, 0), (164, .aload_n 0, 1, 0, 0), (165, .getfield 19, 3, 501, 223), (168, .iload_n 2, 1, 0, 0), (169, .aaload, 1, 0, 0), (170, .aload_n 1, 1, 0, 0), (171, .getfield 40, 3, 303, 109), (174, .iconst 5, 1, 0, 0), (175, .imul, 1, 0, 0), (176, .aload_n 1, 1, 0, 0), (177, .getfield 44, 3, 304, 114), (180, .iadd, 1, 0, 0), (181, .iaload, 1, 0, 0), (182, .ireturn, 1, 0, 0)]
def rw_55 : List Row := [(0, .iconst 0, 1, 0, 0), (1, .istore_n 2, 1, 0, 0), (2, .iload_n 2, 1, 0, 0), (3, .aload_n 1, 1, 0, 0), (4, .invokevirtual 29, 3, 27, 712), (7, .if_icmp .ge 20, 3, 27, 0), (10, .aload_n 0, 1, 0, 0), (11, .getfield 11, 3, 500, 222), (14, .iload_n 2, 1, 0, 0), (15, .aload_n 1, 1, 0, 0), (16, .iload_n 2, 1, 0, 0), (17, .invokevirtual 55, 3, 40, 713), (20, .iastore, 1, 0, 0), (21, .iinc 2 1, 3, 0, 0), (24, .goto (-22), 3, 2, 0), (27, .return_, 1, 0, 0)]
def rw_56 : List Row := [(0, .iconst 0, 1, 0, 0), (1, .istore 5, 2, 0, 0), (3, .aload_n 0, 1, 0, 0), (4, .aload_n 1, 1, 0, 0), (5, .iload_n 2, 1, 0, 0), (6, .iload_n 3, 1, 0, 0), (7, .iconst 0, 1, 0, 0), (8, .invokevirtual 37, 3, 57, 718), (11, .istore 6, 2, 0, 0), (13, .iconst 1, 1, 0, 0), (14, .istore 7, 2, 0, 0), (16, .iload 7, 2, 0, 0), (18, .iconst 4, 1, 0, 0), (19, .if_icmp .gt 50, 3, 69, 0), (22, .aload_n 1, 1, 0, 0), (23, .iload_n 3, 1, 0, 0), (24, .iload 4, 2, 0, 0), (26, .iload 7, 2, 0, 0), (28, .invokevirtual 58, 3, 32, 724), (31, .ifCond .ne 6, 3, 37, 0), (34, .goto 29, 3, 63, 0), (37, .aload_n 0, 1, 0, 0), (38, .aload_n 1, 1, 0, 0), (39, .iload_n 2, 1, 0, 0), (40, .iload_n 3, 1, 0, 0), (41, .iload 7, 2, 0, 0), (43, .invokevirtual 37, 3, 57, 718), (46, .istore 8, 2, 0, 0), (48, .iload 8, 2, 0, 0), (50, .iload 6, 2, 0, 0), (52, .if_icmp .le 11, 3, 63, 0), (55, .iload 8, 2, 0, 0), (57, .istore 6, 2, 0, 0), (59, .iload 7, 2, 0, 0), (61, .istore 5, 2, 0, 0), (63, .iinc 7 1, 3, 0, 0), (66, .goto (-50), 3, 16, 0), (69, .iload 5, 2, 0, 0), (71, .ireturn, 1, 0, 0)]
def rw_57 : List Row := [(0, .aload_n 1, 1, 0, 0), (1, .iload_n 3, 1, 0, 0), (2, .iload 4, 2, 0, 0), (4, .invokevirtual 47, 3, 31, 722), (7, .istore 5, 2, 0, 0), (9, .iload 5, 2, 0, 0), (11, .iconst (-1), 1, 0, 0), (12, .if_icmp .eq 8, 3, 20, 0), (15, .iload_n 2, 1, 0, 0), (16, .iconst 1, 1, 0, 0), (17, .if_icmp .ge 5, 3, 22, 0), (20, .iconst 0, 1, 0, 0), (21, .ireturn, 1, 0, 0), (22, .aload_n 0, 1, 0, 0), (23, .getfield 11, 3, 500, 222), (26, .iload 5, 2, 0, 0), (28, .iaload, 1, 0, 0), (29, .aload_n 0, 1, 0, 0), (30, .getfield 19, 3, 501, 223), (33, .iload_n 2, 1, 0, 0), (34, .iconst 1, 1, 0, 0), (35, .isub, 1, 0, 0), (36, .aaload, 1, 0, 0), (37, .iload 5, 2, 0, 0), (39, .iconst 5, 1, 0, 0), (40, .imul, 1, 0, 0), (41, .iload 4, 2, 0, 0), (43, .invokestatic 51, 3, 33, 723), (46, .iadd, 1, 0, 0), (47, .iaload, 1, 0, 0), (48, .iadd, 1, 0, 0), (49, .ireturn, 1, 0, 0)]
def rw_58 : List Row := [(0, .iconst 0, 1, 0, 0), (1, .istore_n 3, 1, 0, 0), (2, .iload_n 3, 1, 0, 0), (3, .aload_n 1, 1, 0, 0), (4, .invokevirtual 29, 3, 27, 712), (7, .if_icmp .ge 22, 3, 29, 0), (10, .aload_n 0, 1, 0, 0), (11, .getfield 22, 3, 502, 224), (14, .iload_n 2, 1, 0, 0), (15, .aaload, 1, 0, 0), (16, .iload_n 3, 1, 0, 0), (17, .aload_n 1, 1, 0, 0), (18, .iload_n 3, 1, 0, 0), (19, .invokevirtual 55, 3, 40, 713), (22, .iastore, 1, 0, 0), (23, .iinc 3 1, 3, 0, 0), (26, .goto (-24), 3, 2, 0), (29, .iload_n 2, 1, 0, 0), (30, .iconst 1, 1, 0, 0), (31, .isub, 1, 0, 0), (32, .istore_n 3, 1, 0, 0), (33, .iload_n 3, 1, 0, 0), (34, .ifCond .lt 44, 3, 78, 0), (37, .iconst 0, 1, 0, 0), (38, .istore 4, 2, 0, 0), (40, .iload 4, 2, 0, 0), (42, .aload_n 1, 1, 0, 0), (43, .invokevirtual 29, 3, 27, 712), (46, .if_icmp .ge 26, 3, 72, 0), (49, .aload_n 0, 1, 0, 0), (50, .getfield 22, 3, 502, 224), (53, .iload_n 3, 1, 0, 0), (54, .aaload, 1, 0, 0), (55, .iload 4, 2, 0, 0), (57, .aload_n 0, 1, 0, 0), (58, .aload_n 1, 1, 0, 0), (59, .iload_n 3, 1, 0, 0), (60, .iload 4, 2, 0, 0), (62, .invokevirtual 62, 3, 59, 822), (65, .iastore, 1, 0, 0), (66, .iinc 4 1, 3, 0, 0), (69, .goto (-29), 3, 40, 0), (72, .iinc 3 (-1), 3, 0, 0), (75, .goto (-42), 3, 33, 0), (78, .aload_n 0, 1, 0, 0), (79, .getfield 22, 3, 502, 224), (82, .iconst 0, 1, 0, 0), (83, .aaload, 1, 0, 0), (84, .aload_n 1, 1, 0, 0), (85, .getfield 40, 3, 303, 109), (88, .iaload, 1, 0, 0), (89, .ireturn, 1, 0, 0)]
def rw_59 : List Row := [(0, .aload_n 0, 1, 0, 0), (1, .getfield 22, 3, 502, 224), (4, .iload_n 2, 1, 0, 0), (5, .iconst 1, 1, 0, 0), (6, .iadd, 1, 0, 0), (7, .aaload, 1, 0, 0), (8, .iload_n 3, 1, 0, 0), (9, .iaload, 1, 0, 0), (10, .istore 4, 2, 0, 0), (12, .iconst 1, 1, 0, 0), (13, .istore 5, 2, 0, 0), (15, .iload 5, 2, 0, 0), (17, .iconst 4, 1, 0, 0), (18, .if_icmp .gt 62, 3, 80, 0), (21, .aload_n 1, 1, 0, 0), (22, .iload_n 3, 1, 0, 0), (23, .iload 5, 2, 0, 0), (25, .invokevirtual 47, 3, 31, 722), (28, .istore 6, 2, 0, 0), (30, .iload 6, 2, 0, 0), (32, .iconst (-1), 1, 0, 0), (33, .if_icmp .eq 41, 3, 74, 0), (36, .aload_n 0, 1, 0, 0), (37, .getfield 22, 3, 502, 224), (40, .iload_n 2, 1, 0, 0), (41, .iconst 1, 1, 0, 0), (42, .iadd, 1, 0, 0), (43, .aaload, 1, 0, 0), (44, .iload 6, 2, 0, 0), (46, .iaload, 1, 0, 0), (47, .istore 7, 2, 0, 0), (49, .iload_n 2, 1, 0, 0), (50, .iconst 2, 1, 0, 0), (51, .irem, 1, 0, 0), (52, .ifCond .ne 13, 3, 65, 0), (55, .iload 4, 2, 0, 0), (57, .iload 7, 2, 0, 0), (59, .invokestatic 66, 3, (-3), 826), (62, .goto 10, 3, 72, 0), (65, .iload 4, 2, 0, 0), (67, .iload 7, 2, 0, 0), (69, .invokestatic 71, 3, (-4), 827), (72, .istore 4, 2, 0, 0), (74, .iinc 5 1, 3, 0, 0), (77, .goto (-62), 3, 15, 0), (80, .iload 4, 2, 0, 0), (82, .ireturn, 1, 0, 0)]
def rw_60 : List Row := [(0, .aload_n 0, 1, 0, 0), (1, .invokespecial 3, 3, (-1), 170), (4, .aload_n 0, 1, 0, 0), (5, .aconst_null, 1, 0, 0), (6, .putfield 9, 3, 600, 171), (9, .aload_n 0, 1, 0, 0), (10, .iconst 0, 1, 0, 0), (11, .putfield 15, 3, 601, 172), (14, .return_, 1, 0, 0)]
def rw_61 : List Row := [(0, .aload_n 0, 1, 0, 0), (1, .aload_n 1, 1, 0, 0), (2, .putfield 9, 3, 600, 171), (5, .aload_n 0, 1, 0, 0), (6, .iconst 0, 1, 0, 0), (7, .putfield 15, 3, 601, 172), (10, .aload_n 2, 1, 0, 0), (11, .invokevirtual 19, 3, 23, 425), (14, .aload_n 0, 1, 0, 0), (15, .aload_n 2, 1, 0, 0), (16, .invokevirtual 24, 3, 62, 429), (19, .ifCond .ne 8, 3, 27, 0), (22, .aload_n 0, 1, 0, 0), (23, .getfield 15, 3, 601, 172), (26, .ireturn, 1, 0, 0), (27, .aload_n 0, 1, 0, 0), (28, .invokevirtual 28, 3, 68, 433), (31, .iconst 0, 1, 0, 0), (32, .istore_n 3, 1, 0, 0), (33, .iload_n 3, 1, 0, 0), (34, .bipush 6, 2, 0, 0), (36, .if_icmp .ge 33, 3, 69, 0), (39, .aload_n 0, 1, 0, 0), (40, .invokevirtual 31, 3, 66, 437), (43, .ifCond .ne 26, 3, 69, 0), (46, .aload_n 0, 1, 0, 0), (47, .aload_n 2, 1, 0, 0), (48, .invokevirtual 35, 3, 63, 449), (51, .ifCond .ne 8, 3, 59, 0), (54, .aload_n 0, 1, 0, 0), (55, .getfield 15, 3, 601, 172), (58, .ireturn, 1, 0, 0), (59, .aload_n 0, 1, 0, 0), (60, .invokevirtual 28, 3, 68, 433), (63, .iinc 3 1, 3, 0, 0), (66, .goto (-33), 3, 33, 0), (69, .aload_n 0, 1, 0, 0), (70, .invokevirtual 31, 3, 66, 437), (73, .ifCond .eq 15, 3, 88, 0), (76, .aload_n 2, 1, 0, 0), (77, .getfield 38, 3, 302, 103), (80, .ifCond .le 8, 3, 88, 0), (83, .bipush (-9), 2, 0, 0), (85, .goto 7, 3, 92, 0), (88, .aload_n 0, 1, 0, 0), (89, .getfield 15, 3, 601, 172), (92, .ireturn, 1, 0, 0)]
def rw_62 : List Row := [(0, .aload_n 0, 1, 0, 0), (1, .invokevirtual 28, 3, 68, 433), (4, .aload_n 0, 1, 0, 0), (5, .invokevirtual 31, 3, 66, 437), (8, .ifCond .ne 12, 3, 20, 0), (11, .aload_n 0, 1, 0, 0), (12, .invokevirtual 41, 3, 67, 441), (15, .bipush 108, 2, 0, 0), (17, .if_icmp .eq 5, 3, 22, 0), (20, .iconst 0, 1, 0, 0), (21, .ireturn, 1, 0, 0), (22, .aload_n 0, 1, 0, 0), (23, .dup, 1, 0, 0), (24, .getfield 15, 3, 601, 172), (27, .iconst 1, 1, 0, 0), (28, .iadd, 1, 0, 0), (29, .putfield 15, 3, 601, 172), (32, .aload_n 0, 1, 0, 0), (33, .iconst 3, 1, 0, 0), (34, .iconst 5, 1, 0, 0), (35, .invokevirtual 45, 3, 65, 445), (38, .istore_n 2, 1, 0, 0), (39, .iload_n 2, 1, 0, 0), (40, .iconst (-1), 1, 0, 0), (41, .if_icmp .ne 7, 3, 48, 0), (44, .iconst (-1), 1, 0, 0), (45, .goto 9, 3, 54, 0), (48, .aload_n 0, 1, 0, 0), (49, .iconst 3, 1, 0, 0), (50, .iconst 5, 1, 0, 0), (51, .invokevirtual 45, 3, 65, 445), (54, .istore_n 3, 1, 0, 0), (55, .iload_n 3, 1, 0, 0), (56, .iconst (-1), 1, 0, 0), (57, .if_icmp .ne 7, 3, 64, 0), (60, .iconst (-1), 1, 0, 0), (61, .goto 11, 3, 72, 0), (64, .aload_n 0, 1, 0, 0), (65, .iconst 0, 1, 0, 0), (66, .iload_n 2, 1, 0, 0), (67, .iconst 1, 1, 0, 0), (68, .isub, 1, 0, 0), (69, .invokevirtual 45, 3, 65, 445), (72, .istore 4, 2, 0, 0), (74, .iload 4, 2, 0, 0), (76, .iconst (-1), 1, 0, 0), (77, .if_icmp .ne 7, 3, 84, 0), (80, .iconst (-1), 1, 0, 0), (81, .goto 11, 3, 92, 0), (84, .aload_n 0, 1, 0, 0), (85, .iconst 0, 1, 0, 0), (86, .iload_n 3, 1, 0, 0), (87, .iconst 1, 1, 0, 0), (88, .isub, 1, 0, 0), (89, .invokevirtual 45, 3, 65, 445), (92, .istore 5, 2, 0, 0), (94, .iload 5, 2, 0, 0), (96, .iconst (-1), 1, 0, 0), (97, .if_icmp .ne 5, 3, 102, 0), (100, .iconst 0, 1, 0, 0), (101, .ireturn, 1, 0, 0), (102, .aload_n 1, 1, 0, 0), (103, .iload_n 2, 1, 0, 0), (104, .putfield 49, 3, 300, 97), (107, .aload_n 1, 1, 0, 0), (108, .iload_n 3, 1, 0, 0), (109, .putfield 52, 3, 301, 99), (112, .aload_n 1, 1, 0, 0), (113, .iload_n 2, 1, 0, 0), (114, .iload 5, 2, 0, 0), (116, .imul, 1, 0, 0), (117, .iload 4, 2, 0, 0), (119, .iadd, 1, 0, 0), (120, .putfield 55, 3, 303, 110), (123, .iconst 1, 1, 0, 0), (124, .ireturn, 1, 0, 0)]
def rw_63 : List Row := [(0, .aload_n 0, 1, 0, 0), (1, .invokevirtual 31, 3, 66, 437), (4, .ifCond .eq 7, 3, 11, 0), (7, .iconst (-1), 1, 0, 0), (8, .goto 10, 3, 18, 0), (11, .aload_n 0, 1, 0, 0), (12, .invokevirtual 41, 3, 67, 441), (15, .invokestatic 58, 3, 64, 453), (18, .istore_n 2, 1, 0, 0), (19, .iload_n 2, 1, 0, 0), (20, .iconst (-1), 1, 0, 0), (21, .if_icmp .ne 5, 3, 26, 0), (24, .iconst 0, 1, 0, 0), (25, .ireturn, 1, 0, 0), (26, .aload_n 0, 1, 0, 0), (27, .dup, 1, 0, 0), (28, .getfield 15, 3, 601, 172), (31, .iconst 1, 1, 0, 0), (32, .iadd, 1, 0, 0), (33, .putfield 15, 3, 601, 172), (36, .aload_n 0, 1, 0, 0), (37, .iconst 0, 1, 0, 0), (38, .aload_n 1, 1, 0, 0), (39, .getfield 49, 3, 300, 97), (42, .iconst 1, 1, 0, 0), (43, .isub, 1, 0, 0), (44, .invokevirtual 45, 3, 65, 445), (47, .istore_n 3, 1, 0, 0), (48, .iload_n 3, 1, 0, 0), (49, .iconst (-1), 1, 0, 0), (50, .if_icmp .ne 7, 3, 57, 0), (53, .iconst (-1), 1, 0, 0), (54, .goto 14, 3, 68, 0), (57, .aload_n 0, 1, 0, 0), (58, .iconst 0, 1, 0, 0), (59, .aload_n 1, 1, 0, 0), (60, .getfield 52, 3, 301, 99), (63, .iconst 1, 1, 0, 0), (64, .isub, 1, 0, 0), (65, .invokevirtual 45, 3, 65, 445), (68, .istore 4, 2, 0, 0), (70, .iload 4, 2, 0, 0), (72, .iconst (-1), 1, 0, 0), (73, .if_icmp .ne 7, 3, 80, 0), (76, .iconst (-1), 1, 0, 0), (77, .goto 10, 3, 87, 0), (80, .aload_n 0, 1, 0, 0), (81, .iconst 1, 1, 0, 0), (82, .bipush 9, 2, 0, 0), (84, .invokevirtual 45, 3, 65, 445), (87, .istore 5, 2, 0, 0), (89, .iload 5, 2, 0, 0), (91, .iconst (-1), 1, 0, 0), (92, .if_icmp .ne 5, 3, 97, 0), (95, .iconst 0, 1, 0, 0), (96, .ireturn, 1, 0, 0), (97, .aload_n 1, 1, 0, 0), (98, .iload_n 2, 1, 0, 0), (99, .aload_n 1, 1, 0, 0), (100, .getfield 49, 3, 300, 97), (103, .iload 4, 2, 0, 0), (105, .imul, 1, 0, 0), (106, .iload_n 3, 1, 0, 0), (107, .iadd, 1, 0, 0), (108, .iload 5, 2, 0, 0), (110, .invokevirtual 62, 3, 25, 458), (113, .iconst 1, 1, 0, 0), (114, .ireturn, 1, 0, 0)]
def rw_64 : List Row := [(0, .iconst 0, 1, 0, 0), (1, .istore_n 1, 1, 0, 0), (2, .iload_n 1, 1, 0, 0), (3, .getstatic 66, 3, (-3), 456), (6, .arraylength, 1, 0, 0), (7, .if_icmp .ge 20, 3, 27, 0), (10, .getstatic 66, 3, (-3), 456), (13, .iload_n 1, 1, 0, 0), (14, .caload, 1, 0, 0), (15, .iload_n 0, 1, 0, 0), (16, .if_icmp .ne 5, 3, 21, 0), (19, .iload_n 1, 1, 0, 0), (20, .ireturn, 1, 0, 0), (21, .iinc 1 1, 3, 0, 0), (24, .goto (-22), 3, 2, 0), (27, .iconst (-1), 1, 0, 0), (28, .ireturn, 1, 0, 0)]
def rw_65 : List Row := [(0, .aload_n 0, 1, 0, 0), (1, .invokevirtual 31, 3, 66, 437), (4, .ifCond .eq 7, 3, 11, 0), (7, .iconst (-1), 1, 0, 0), (8, .goto 10, 3, 18, 0), (11, .aload_n 0, 1, 0, 0), (12, .invokevirtual 41, 3, 67, 441), (15, .bipush 48, 2, 0, 0), (17, .isub, 1, 0, 0), (18, .istore_n 3, 1, 0, 0), (19, .iload_n 3, 1, 0, 0), (20, .iload_n 1, 1, 0, 0), (21, .if_icmp .lt 8, 3, 29, 0), (24, .iload_n 3, 1, 0, 0), (25, .iload_n 2, 1, 0, 0), (26, .if_icmp .le 5, 3, 31, 0), (29, .iconst (-1), 1, 0, 0), (30, .ireturn, 1, 0, 0), (31, .aload_n 0, 1, 0, 0), (32, .dup, 1, 0, 0), (33, .getfield 15, 3, 601, 172), (36, .iconst 1, 1, 0, 0), (37, .iadd, 1, 0, 0), (38, .putfield 15, 3, 601, 172), (41, .iload_n 3, 1, 0, 0), (42, .ireturn, 1, 0, 0)]
def rw_66 : List Row := [(0, .aload_n 0, 1, 0, 0), (1, .getfield 9, 3, 600, 171), (4, .ifnull 17, 3, 21, 0), (7, .aload_n 0, 1, 0, 0), (8, .getfield 15, 3, 601, 172), (11, .aload_n 0, 1, 0, 0), (12, .getfield 9, 3, 600, 171), (15, .getfield 70, 3, 701, 296), (18, .if_icmp .lt 7, 3, 25, 0), (21, .iconst 1, 1, 0, 0), (22, .goto 4, 3, 26, 0), (25, .iconst 0, 1, 0, 0), (26, .ireturn, 1, 0, 0)]
def rw_67 : List Row := [(0, .aload_n 0, 1, 0, 0), (1, .getfield 9, 3, 600, 171), (4, .ifnull 24, 3, 28, 0), (7, .aload_n 0, 1, 0, 0), (8, .getfield 15, 3, 601, 172), (11, .ifCond .lt 17, 3, 28, 0), (14, .aload_n 0, 1, 0, 0), (15, .getfield 15, 3, 601, 172), (18, .aload_n 0, 1, 0, 0), (19, .getfield 9, 3, 600, 171), (22, .getfield 70, 3, 701, 296), (25, .if_icmp .lt 8, 3, 33, 0), (28, .bipush 32, 2, 0, 0), (30, .goto 15, 3, 45, 0), (33, .aload_n 0, 1, 0, 0), (34, .getfield 9, 3, 600, 171), (37, .getfield 75, 3, 700, 293), (40, .aload_n 0, 1, 0, 0), (41, .getfield 15, 3, 601, 172), (44, .iaload, 1, 0, 0), (45, .ireturn, 1, 0, 0)]
def rw_68 : List Row := [(0, .iconst 0, 1, 0, 0), (1, .istore_n 1, 1, 0, 0), (2, .iload_n 1, 1, 0, 0), (3, .bipush 60, 2, 0, 0), (5, .if_icmp .ge 35, 3, 40, 0), (8, .aload_n 0, 1, 0, 0), (9, .invokevirtual 31, 3, 66, 437), (12, .ifCond .ne 28, 3, 40, 0), (15, .aload_n 0, 1, 0, 0), (16, .invokevirtual 41, 3, 67, 441), (19, .bipush 32, 2, 0, 0), (21, .if_icmp .ne 19, 3, 40, 0), (24, .aload_n 0, 1, 0, 0), (25, .dup, 1, 0, 0), (26, .getfield 15, 3, 601, 172), (29, .iconst 1, 1, 0, 0), (30, .iadd, 1, 0, 0), (31, .putfield 15, 3, 601, 172), (34, .iinc 1 1, 3, 0, 0), (37, .goto (-35), 3, 2, 0), (40, .return_, 1, 0, 0)]
def rw_69 : List Row := [(0, .aload_n 0, 1, 0, 0), (1, .invokespecial 1, 3, (-1), 286), (4, .aload_n 0, 1, 0, 0), (5, .iconst (-1), 1, 0, 0), (6, .putfield 9, 3, 701, 294), (9, .aload_n 0, 1, 0, 0), (10, .iconst 0, 1, 0, 0), (11, .iload_n 1, 1, 0, 0), (12, .invokestatic 13, 3, (-3), 287), (15, .newarray .int, 2, 0, 163), (17, .putfield 19, 3, 700, 290), (20, .return_, 1, 0, 0)]
def rw_70 : List Row := [(0, .aload_n 0, 1, 0, 0), (1, .getfield 9, 3, 701, 294), (4, .iconst (-1), 1, 0, 0), (5, .if_icmp .ne 7, 3, 12, 0), (8, .iconst 1, 1, 0, 0), (9, .goto 4, 3, 13, 0), (12, .iconst 0, 1, 0, 0), (13, .ireturn, 1, 0, 0)]
def rw_71 : List Row := [(0, .aload_n 0, 1, 0, 0), (1, .iconst (-1), 1, 0, 0), (2, .putfield 9, 3, 701, 294), (5, .return_, 1, 0, 0)]
def rw_72 : List Row := [(0, .aload_n 0, 1, 0, 0), (1, .iconst 0, 1, 0, 0), (2, .iload_n 1, 1, 0, 0), (3, .aload_n 0, 1, 0, 0), (4, .getfield 19, 3, 700, 290), (7, .arraylength, 1, 0, 0), (8, .invokestatic 23, 3, (-4), 364), (11, .invokestatic 13, 3, (-3), 287), (14, .putfield 9, 3, 701, 294), (17, .iconst 0, 1, 0, 0), (18, .istore_n 3, 1, 0, 0), (19, .iload_n 3, 1, 0, 0), (20, .aload_n 0, 1, 0, 0), (21, .getfield 9, 3, 701, 294), (24, .if_icmp .ge 16, 3, 40, 0), (27, .aload_n 0, 1, 0, 0), (28, .getfield 19, 3, 700, 290), (31, .iload_n 3, 1, 0, 0), (32, .iload_n 2, 1, 0, 0), (33, .iastore, 1, 0, 0), (34, .iinc 3 1, 3, 0, 0), (37, .goto (-18), 3, 19, 0), (40, .return_, 1, 0, 0)]
def rw_73 : List Row := [(0, .iload_n 1, 1, 0, 0), (1, .ifCond .lt 21, 3, 22, 0), (4, .iload_n 2, 1, 0, 0), (5, .ifCond .lt 17, 3, 22, 0), (8, .iload_n 1, 1, 0, 0), (9, .aload_n 0, 1, 0, 0), (10, .getfield 9, 3, 701, 294), (13, .iload_n 2, 1, 0, 0), (14, .isub, 1, 0, 0), (15, .if_icmp .gt 7, 3, 22, 0), (18, .iconst 1, 1, 0, 0), (19, .goto 4, 3, 23, 0), (22, .iconst 0, 1, 0, 0), (23, .ireturn, 1, 0, 0)]
def rw_74 : List Row := [(0, .ldc2_w 26, 3, 31, 907), (3, .lload_n 1, 1, 0, 0), (4, .lmul, 1, 0, 0), (5, .aload_n 0, 1, 0, 0), (6, .getfield 9, 3, 701, 294), (9, .i2l, 1, 0, 0), (10, .ladd, 1, 0, 0), (11, .lstore_n 3, 1, 0, 0), (12, .iconst 0, 1, 0, 0), (13, .istore 5, 2, 0, 0), (15, .iload 5, 2, 0, 0), (17, .aload_n 0, 1, 0, 0), (18, .getfield 9, 3, 701, 294), (21, .if_icmp .ge 24, 3, 45, 0), (24, .ldc2_w 26, 3, 31, 907), (27, .lload_n 3, 1, 0, 0), (28, .lmul, 1, 0, 0), (29, .aload_n 0, 1, 0, 0), (30, .getfield 19, 3, 700, 290), (33, .iload 5, 2, 0, 0), (35, .iaload, 1, 0, 0), (36, .i2l, 1, 0, 0), (37, .ladd, 1, 0, 0), (38, .lstore_n 3, 1, 0, 0), (39, .iinc 5 1, 3, 0, 0), (42, .goto (-27), 3, 15, 0), (45, .lload_n 3, 1, 0, 0), (46, .lreturn, 1, 0, 0)]
def rw_75 : List Row := [(0, .aload_n 0, 1, 0, 0), (1, .invokespecial 5, 3, (-1), 198), (4, .aload_n 0, 1, 0, 0), (5, .iconst 0, 1, 0, 0), (6, .putfield 11, 3, 800, 199), (9, .aload_n 0, 1, 0, 0), (10, .iconst 0, 1, 0, 0), (11, .putfield 17, 3, 801, 201), (14, .aload_n 0, 1, 0, 0), (15, .iconst 0, 1, 0, 0), (16, .putfield 20, 3, 802, 203), (19, .aload_n 0, 1, 0, 0), (20, .bipush 125, 2, 0, 0), (22, .newarray .int, 2, 0, 163), (24, .putfield 23, 3, 803, 204), (27, .return_, 1, 0, 0)]
def rw_76 : List Row := [(0, .aload_n 0, 1, 0, 0), (1, .aload_n 1, 1, 0, 0), (2, .getfield 27, 3, 303, 107), (5, .putfield 11, 3, 800, 199), (8, .aload_n 0, 1, 0, 0), (9, .aload_n 1, 1, 0, 0), (10, .getfield 30, 3, 304, 113), (13, .putfield 20, 3, 802, 203), (16, .return_, 1, 0, 0)]
def rw_77 : List Row := [(0, .aload_n 2, 1, 0, 0), (1, .aload_n 1, 1, 0, 0), (2, .aload_n 0, 1, 0, 0), (3, .getfield 11, 3, 800, 199), (6, .aload_n 0, 1, 0, 0), (7, .getfield 20, 3, 802, 203), (10, .invokevirtual 31, 3, 2, 678), (13, .aload_n 2, 1, 0, 0), (14, .invokevirtual 37, 3, 5, 679), (17, .istore_n 3, 1, 0, 0), (18, .aload_n 1, 1, 0, 0), (19, .aload_n 0, 1, 0, 0), (20, .getfield 11, 3, 800, 199), (23, .iload_n 3, 1, 0, 0), (24, .invokevirtual 41, 3, 31, 680), (27, .istore 4, 2, 0, 0), (29, .aload_n 0, 1, 0, 0), (30, .iload 4, 2, 0, 0), (32, .iconst (-1), 1, 0, 0), (33, .if_icmp .ne 10, 3, 43, 0), (36, .aload_n 0, 1, 0, 0), (37, .getfield 11, 3, 800, 199), (40, .goto 5, 3, 45, 0), (43, .iload 4, 2, 0, 0), (45, .putfield 11, 3, 800, 199), (48, .aload_n 0, 1, 0, 0), (49, .iload_n 3, 1, 0, 0), (50, .invokestatic 45, 3, 33, 681), (53, .putfield 20, 3, 802, 203), (56, .return_, 1, 0, 0)]
def rw_78 : List Row := [(0, .iconst 0, 1, 0, 0), (1, .istore_n 3, 1, 0, 0), (2, .iload_n 3, 1, 0, 0), (3, .bipush 125, 2, 0, 0), (5, .if_icmp .ge 16, 3, 21, 0), (8, .aload_n 0, 1, 0, 0), (9, .getfield 23, 3, 803, 204), (12, .iload_n 3, 1, 0, 0), (13, .iconst (-1), 1, 0, 0), (14, .iastore, 1, 0, 0), (15, .iinc 3 1, 3, 0, 0), (18, .goto (-16), 3, 2, 0), (21, .aload_n 0, 1, 0, 0), (22, .aload_n 1, 1, 0, 0), (23, .invokevirtual 49, 3, 76, 698), (26, .iconst 0, 1, 0, 0), (27, .istore_n 3, 1, 0, 0), (28, .iload_n 3, 1, 0, 0), (29, .bipush 125, 2, 0, 0), (31, .if_icmp .gt 62, 3, 93, 0), (34, .aload_n 0, 1, 0, 0), (35, .getfield 11, 3, 800, 199), (38, .iconst 5, 1, 0, 0), (39, .imul, 1, 0, 0), (40, .aload_n 0, 1, 0, 0), (41, .getfield 20, 3, 802, 203), (44, .iadd, 1, 0, 0), (45, .istore 4, 2, 0, 0), (47, .aload_n 0, 1, 0, 0), (48, .getfield 23, 3, 803, 204), (51, .iload 4, 2, 0, 0), (53, .iaload, 1, 0, 0), (54, .iconst (-1), 1, 0, 0), (55, .if_icmp .eq 18, 3, 73, 0), (58, .aload_n 0, 1, 0, 0), (59, .iload_n 3, 1, 0, 0), (60, .aload_n 0, 1, 0, 0), (61, .getfield 23, 3, 803, 204), (64, .iload 4, 2, 0, 0), (66, .iaload, 1, 0, 0), (67, .isub, 1, 0, 0), (68, .putfield 17, 3, 801, 201), (71, .iload_n 3, 1, 0, 0), (72, .ireturn, 1, 0, 0), (73, .aload_n 0, 1, 0, 0), (74, .getfield 23, 3, 803, 204), (77, .iload 4, 2, 0, 0), (79, .iload_n 3, 1, 0, 0), (80, .iastore, 1, 0, 0), (81, .aload_n 0, 1, 0, 0), (82, .aload_n 1, 1, 0, 0), (83, .aload_n 2, 1, 0, 0), (84, .invokevirtual 53, 3, 77, 699), (87, .iinc 3 1, 3, 0, 0), (90, .goto (-62), 3, 28, 0), (93, .bipush (-9), 2, 0, 0), (95, .ireturn, 1, 0, 0)]
def rw_79 : List Row := [(0, .aload_n 0, 1, 0, 0), (1, .invokespecial 1, 3, (-1), 85), (4, .aload_n 0, 1, 0, 0), (5, .bipush 6, 2, 0, 0), (7, .anewarray 9, 3, 5, 88), (10, .putfield 11, 3, 900, 303), (13, .aload_n 0, 1, 0, 0), (14, .iconst 4, 1, 0, 0), (15, .anewarray 9, 3, 5, 88), (18, .putfield 15, 3, 901, 304), (21, .aload_n 0, 1, 0, 0), (22, .new 18, 3, 3, 90), (25, .dup, 1, 0, 0), (26, .invokespecial 20, 3, 22, 92), (29, .putfield 21, 3, 902, 305), (32, .aload_n 0, 1, 0, 0), (33, .new 18, 3, 3, 90), (36, .dup, 1, 0, 0), (37, .invokespecial 20, 3, 22, 92), (40, .putfield 25, 3, 903, 306), (43, .aload_n 0, 1, 0, 0), (44, .iconst 3, 1, 0, 0), (45, .anewarray 18, 3, 6, 90), (48, .putfield 28, 3, 904, 307), (51, .aload_n 0, 1, 0, 0), (52, .new 32, 3, 6, 165), (55, .dup, 1, 0, 0), (56, .invokespecial 34, 3, 60, 167), (59, .putfield 35, 3, 905, 308), (62, .aload_n 0, 1, 0, 0), (63, .new 39, 3, 0, 178), (66, .dup, 1, 0, 0), (67, .invokespecial 41, 3, 1, 180), (70, .putfield 42, 3, 906, 309), (73, .aload_n 0, 1, 0, 0), (74, .new 46, 3, 8, 193), (77, .dup, 1, 0, 0), (78, .invokespecial 48, 3, 75, 195), (81, .putfield 49, 3, 907, 310), (84, .aload_n 0, 1, 0, 0), (85, .new 53, 3, 5, 214), (88, .dup, 1, 0, 0), (89, .invokespecial 55, 3, 53, 216), (92, .putfield 56, 3, 908, 311), (95, .aload_n 0, 1, 0, 0), (96, .new 60, 3, 2, 232), (99, .dup, 1, 0, 0), (100, .invokespecial 62, 3, 14, 234), (103, .putfield 63, 3, 909, 312), (106, .aload_n 0, 1, 0, 0), (107, .new 67, 3, 4, 246), (110, .dup, 1, 0, 0), (111, .invokespecial 69, 3, 49, 248), (114, .putfield 70, 3, 910, 313), (117, .aload_n 0, 1, 0, 0), (118, .new 74, 3, 1, 259), (121, .dup, 1, 0, 0), (122, .invokespecial 76, 3, 9, 261), (125, .putfield 77, 3, 911, 314), (128, .aload_n 0, 1, 0, 0), (129, .bipush 6, 2, 0, 0), (131, .newarray .int, 2, 0, 163), (133, .putfield 81, 3, 912, 315), (136, .aload_n 0, 1, 0, 0), (137, .iconst 0, 1, 0, 0), (138, .putfield 85, 3, 913, 316), (141, .aload_n 0, 1, 0, 0), (142, .iconst 0, 1, 0, 0), (143, .putfield 89, 3, 914, 317), (146, .iconst 0, 1, 0, 0), (147, .istore_n 1, 1, 0, 0), (148, .iload_n 1, 1, 0, 0), (149, .bipush 6, 2, 0, 0), (151, .if_icmp .ge 24, 3, 175, 0), (154, .aload_n 0, 1, 0, 0), (155, .getfield 11, 3, 900, 303), (158, .iload_n 1, 1, 0, 0), (159, .new 9, 3, 7, 88), (162, .dup, 1, 0, 0), (163, .bipush 40, 2, 0, 0), (165, .invokespecial 92, 3, 69, 283), (168, .aastore, 1, 0, 0), (169, .iinc 1 1, 3, 0, 0), (172, .goto (-24), 3, 148, 0), (175, .iconst 0, 1, 0, 0), (176, .istore_n 1, 1, 0, 0), (177, .iload_n 1, 1, 0, 0), (178, .iconst 4, 1, 0, 0), (179, .if_icmp .ge 24, 3, 203, 0), (182, .aload_n 0, 1, 0, 0), (183, .getfield 15, 3, 901, 304), (186, .iload_n 1, 1, 0, 0), (187, .new 9, 3, 7, 88), (190, .dup, 1, 0, 0), (191, .bipush 60, 2, 0, 0), (193, .invokespecial 92, 3, 69, 283), (196, .aastore, 1, 0, 0), (197, .iinc 1 1, 3, 0, 0), (200, .goto (-23), 3, 177, 0), (203, .iconst 0, 1, 0, 0), (204, .istore_n 1, 1, 0, 0), (205, .iload_n 1, 1, 0, 0), (206, .iconst 3, 1, 0, 0), (207, .if_icmp .ge 22, 3, 229, 0), (210, .aload_n 0, 1, 0, 0), (211, .getfield 28, 3, 904, 307), (214, .iload_n 1, 1, 0, 0), (215, .new 18, 3, 3, 90), (218, .dup, 1, 0, 0), (219, .invokespecial 20, 3, 22, 92), (222, .aastore, 1, 0, 0), (223, .iinc 1 1, 3, 0, 0), (226, .goto (-21), 3, 205, 0), (229, .return_, 1, 0, 0)]
def rw_80 : List Row := [(0, .iload_n 1, 1, 0, 0), (1, .invokestatic 95, 3, 123, 353), (4, .ifCond .eq 9, 3, 13, 0), (7, .iload_n 2, 1, 0, 0), (8, .bipush 40, 2, 0, 0), (10, .if_icmp .le 5, 3, 15, 0), (13, .iconst (-1), 1, 0, 0), (14, .ireturn, 1, 0, 0), (15, .iload_n 2, 1, 0, 0), (16, .ifCond .ge 9, 3, 25, 0), (19, .aload_n 0, 1, 0, 0), (20, .iconst 5, 1, 0, 0), (21, .invokevirtual 99, 3, 126, 356), (24, .ireturn, 1, 0, 0), (25, .aload_n 0, 1, 0, 0), (26, .getfield 11, 3, 900, 303), (29, .iload_n 1, 1, 0, 0), (30, .aaload, 1, 0, 0), (31, .iload_n 2, 1, 0, 0), (32, .iconst 0, 1, 0, 0), (33, .invokevirtual 103, 3, 72, 360), (36, .iload_n 2, 1, 0, 0), (37, .ireturn, 1, 0, 0)]
def rw_81 : List Row := [(0, .iload_n 1, 1, 0, 0), (1, .invokestatic 95, 3, 123, 353), (4, .ifCond .eq 17, 3, 21, 0), (7, .aload_n 0, 1, 0, 0), (8, .aload_n 0, 1, 0, 0), (9, .getfield 11, 3, 900, 303), (12, .iload_n 1, 1, 0, 0), (13, .aaload, 1, 0, 0), (14, .iload_n 2, 1, 0, 0), (15, .invokevirtual 107, 3, 127, 371), (18, .goto 4, 3, 22, 0), (21, .iconst (-1), 1, 0, 0), (22, .istore 4, 2, 0, 0), (24, .iload 4, 2, 0, 0), (26, .ifCond .eq 6, 3, 32, 0), (29, .iload 4, 2, 0, 0), (31, .ireturn, 1, 0, 0), (32, .aload_n 0, 1, 0, 0), (33, .aload_n 0, 1, 0, 0), (34, .getfield 11, 3, 900, 303), (37, .iload_n 1, 1, 0, 0), (38, .aaload, 1, 0, 0), (39, .getfield 111, 3, 700, 292), (42, .iload_n 2, 1, 0, 0), (43, .iaload, 1, 0, 0), (44, .putfield 89, 3, 914, 317), (47, .aload_n 0, 1, 0, 0), (48, .getfield 11, 3, 900, 303), (51, .iload_n 1, 1, 0, 0), (52, .aaload, 1, 0, 0), (53, .getfield 111, 3, 700, 292), (56, .iload_n 2, 1, 0, 0), (57, .iload_n 3, 1, 0, 0), (58, .iastore, 1, 0, 0), (59, .iconst 1, 1, 0, 0), (60, .ireturn, 1, 0, 0)]
def rw_82 : List Row := [(0, .iload_n 1, 1, 0, 0), (1, .invokestatic 95, 3, 123, 353), (4, .ifCond .eq 17, 3, 21, 0), (7, .aload_n 0, 1, 0, 0), (8, .aload_n 0, 1, 0, 0), (9, .getfield 11, 3, 900, 303), (12, .iload_n 1, 1, 0, 0), (13, .aaload, 1, 0, 0), (14, .iload_n 2, 1, 0, 0), (15, .invokevirtual 107, 3, 127, 371), (18, .goto 4, 3, 22, 0), (21, .iconst (-1), 1, 0, 0), (22, .istore_n 3, 1, 0, 0), (23, .iload_n 3, 1, 0, 0), (24, .ifCond .eq 5, 3, 29, 0), (27, .iload_n 3, 1, 0, 0), (28, .ireturn, 1, 0, 0), (29, .aload_n 0, 1, 0, 0), (30, .aload_n 0, 1, 0, 0), (31, .getfield 11, 3, 900, 303), (34, .iload_n 1, 1, 0, 0), (35, .aaload, 1, 0, 0), (36, .getfield 111, 3, 700, 292), (39, .iload_n 2, 1, 0, 0), (40, .iaload, 1, 0, 0), (41, .putfield 89, 3, 914, 317), (44, .iconst 1, 1, 0, 0), (45, .ireturn, 1, 0, 0)]
def rw_83 : List Row := [(0, .iload_n 1, 1, 0, 0), (1, .invokestatic 95, 3, 123, 353), (4, .ifCond .ne 5, 3, 9, 0), (7, .iconst (-1), 1, 0, 0), (8, .ireturn, 1, 0, 0), (9, .aload_n 0, 1, 0, 0), (10, .getfield 11, 3, 900, 303), (13, .iload_n 1, 1, 0, 0), (14, .aaload, 1, 0, 0), (15, .invokevirtual 114, 3, 70, 375), (18, .ifCond .eq 9, 3, 27, 0), (21, .aload_n 0, 1, 0, 0), (22, .iconst 1, 1, 0, 0), (23, .invokevirtual 99, 3, 126, 356), (26, .ireturn, 1, 0, 0), (27, .aload_n 0, 1, 0, 0), (28, .getfield 11, 3, 900, 303), (31, .iload_n 1, 1, 0, 0), (32, .aaload, 1, 0, 0), (33, .invokevirtual 118, 3, 71, 387), (36, .iconst 1, 1, 0, 0), (37, .ireturn, 1, 0, 0)]
def rw_84 : List Row := [(0, .iload_n 1, 1, 0, 0), (1, .invokestatic 95, 3, 123, 353), (4, .ifCond .eq 10, 3, 14, 0), (7, .iload_n 3, 1, 0, 0), (8, .invokestatic 95, 3, 123, 353), (11, .ifCond .ne 5, 3, 16, 0), (14, .iconst (-1), 1, 0, 0), (15, .ireturn, 1, 0, 0), (16, .iload 5, 2, 0, 0), (18, .ifCond .ge 9, 3, 27, 0), (21, .aload_n 0, 1, 0, 0), (22, .iconst 5, 1, 0, 0), (23, .invokevirtual 99, 3, 126, 356), (26, .ireturn, 1, 0, 0), (27, .aload_n 0, 1, 0, 0), (28, .getfield 11, 3, 900, 303), (31, .iload_n 1, 1, 0, 0), (32, .aaload, 1, 0, 0), (33, .invokevirtual 114, 3, 70, 375), (36, .ifCond .ne 15, 3, 51, 0), (39, .aload_n 0, 1, 0, 0), (40, .getfield 11, 3, 900, 303), (43, .iload_n 3, 1, 0, 0), (44, .aaload, 1, 0, 0), (45, .invokevirtual 114, 3, 70, 375), (48, .ifCond .eq 9, 3, 57, 0), (51, .aload_n 0, 1, 0, 0), (52, .iconst 1, 1, 0, 0), (53, .invokevirtual 99, 3, 126, 356), (56, .ireturn, 1, 0, 0), (57, .aload_n 0, 1, 0, 0), (58, .getfield 11, 3, 900, 303), (61, .iload_n 1, 1, 0, 0), (62, .aaload, 1, 0, 0), (63, .iload_n 2, 1, 0, 0), (64, .iload 5, 2, 0, 0), (66, .invokevirtual 121, 3, 73, 395), (69, .ifCond .eq 19, 3, 88, 0), (72, .aload_n 0, 1, 0, 0), (73, .getfield 11, 3, 900, 303), (76, .iload_n 3, 1, 0, 0), (77, .aaload, 1, 0, 0), (78, .iload 4, 2, 0, 0), (80, .iload 5, 2, 0, 0), (82, .invokevirtual 121, 3, 73, 395), (85, .ifCond .ne 9, 3, 94, 0), (88, .aload_n 0, 1, 0, 0), (89, .iconst 2, 1, 0, 0), (90, .invokevirtual 99, 3, 126, 356), (93, .ireturn, 1, 0, 0), (94, .aload_n 0, 1, 0, 0), (95, .getfield 11, 3, 900, 303), (98, .iload_n 1, 1, 0, 0), (99, .aaload, 1, 0, 0), (100, .getfield 111, 3, 700, 292), (103, .iload_n 2, 1, 0, 0), (104, .aload_n 0, 1, 0, 0), (105, .getfield 11, 3, 900, 303), (108, .iload_n 3, 1, 0, 0), (109, .aaload, 1, 0, 0), (110, .getfield 111, 3, 700, 292), (113, .iload 4, 2, 0, 0), (115, .iload 5, 2, 0, 0), (117, .invokestatic 125, 3, (-2), 399), (120, .iconst 1, 1, 0, 0), (121, .ireturn, 1, 0, 0)]
def rw_85 : List Row := [(0, .iload_n 1, 1, 0, 0), (1, .invokestatic 95, 3, 123, 353), (4, .ifCond .ne 5, 3, 9, 0), (7, .iconst (-1), 1, 0, 0), (8, .ireturn, 1, 0, 0), (9, .aload_n 0, 1, 0, 0), (10, .getfield 11, 3, 900, 303), (13, .iload_n 1, 1, 0, 0), (14, .aaload, 1, 0, 0), (15, .astore_n 2, 1, 0, 0), (16, .aload_n 2, 1, 0, 0), (17, .invokevirtual 114, 3, 70, 375), (20, .ifCond .eq 9, 3, 29, 0), (23, .aload_n 0, 1, 0, 0), (24, .iconst 1, 1, 0, 0), (25, .invokevirtual 99, 3, 126, 356), (28, .ireturn, 1, 0, 0), (29, .aload_n 2, 1, 0, 0), (30, .getfield 131, 3, 701, 297), (33, .ifCond .ne 9, 3, 42, 0), (36, .aload_n 0, 1, 0, 0), (37, .iconst 4, 1, 0, 0), (38, .invokevirtual 99, 3, 126, 356), (41, .ireturn, 1, 0, 0), (42, .lconst 0, 1, 0, 0), (43, .lstore_n 3, 1, 0, 0), (44, .iconst 0, 1, 0, 0), (45, .istore 5, 2, 0, 0), (47, .iload 5, 2, 0, 0), (49, .aload_n 2, 1, 0, 0), (50, .getfield 131, 3, 701, 297), (53, .if_icmp .ge 20, 3, 73, 0), (56, .lload_n 3, 1, 0, 0), (57, .aload_n 2, 1, 0, 0), (58, .getfield 111, 3, 700, 292), (61, .iload 5, 2, 0, 0), (63, .iaload, 1, 0, 0), (64, .i2l, 1, 0, 0), (65, .ladd, 1, 0, 0), (66, .lstore_n 3, 1, 0, 0), (67, .iinc 5 1, 3, 0, 0), (70, .goto (-23), 3, 47, 0), (73, .aload_n 0, 1, 0, 0), (74, .lload_n 3, 1, 0, 0), (75, .aload_n 2, 1, 0, 0), (76, .getfield 131, 3, 701, 297), (79, .i2l, 1, 0, 0), (80, .ldiv, 1, 0, 0), (81, .l2i, 1, 0, 0), (82, .putfield 89, 3, 914, 317), (85, .iconst 1, 1, 0, 0), (86, .ireturn, 1, 0, 0)]
def rw_86 : List Row := [(0, .iload_n 1, 1, 0, 0), (1, .invokestatic 134, 3, 124, 410), (4, .ifCond .eq 9, 3, 13, 0), (7, .iload_n 2, 1, 0, 0), (8, .bipush 60, 2, 0, 0), (10, .if_icmp .le 5, 3, 15, 0), (13, .iconst (-1), 1, 0, 0), (14, .ireturn, 1, 0, 0), (15, .iload_n 2, 1, 0, 0), (16, .ifCond .ge 9, 3, 25, 0), (19, .aload_n 0, 1, 0, 0), (20, .iconst 5, 1, 0, 0), (21, .invokevirtual 99, 3, 126, 356), (24, .ireturn, 1, 0, 0), (25, .aload_n 0, 1, 0, 0), (26, .getfield 15, 3, 901, 304), (29, .iload_n 1, 1, 0, 0), (30, .aaload, 1, 0, 0), (31, .iload_n 2, 1, 0, 0), (32, .bipush 32, 2, 0, 0), (34, .invokevirtual 103, 3, 72, 360), (37, .iload_n 2, 1, 0, 0), (38, .ireturn, 1, 0, 0)]
def rw_87 : List Row := [(0, .iload_n 1, 1, 0, 0), (1, .invokestatic 134, 3, 124, 410), (4, .ifCond .eq 17, 3, 21, 0), (7, .aload_n 0, 1, 0, 0), (8, .aload_n 0, 1, 0, 0), (9, .getfield 15, 3, 901, 304), (12, .iload_n 1, 1, 0, 0), (13, .aaload, 1, 0, 0), (14, .iload_n 2, 1, 0, 0), (15, .invokevirtual 107, 3, 127, 371), (18, .goto 4, 3, 22, 0), (21, .iconst (-1), 1, 0, 0), (22, .istore 4, 2, 0, 0), (24, .iload 4, 2, 0, 0), (26, .ifCond .eq 6, 3, 32, 0), (29, .iload 4, 2, 0, 0), (31, .ireturn, 1, 0, 0), (32, .aload_n 0, 1, 0, 0), (33, .getfield 15, 3, 901, 304), (36, .iload_n 1, 1, 0, 0), (37, .aaload, 1, 0, 0), (38, .getfield 111, 3, 700, 292), (41, .iload_n 2, 1, 0, 0), (42, .iaload, 1, 0, 0), (43, .istore 5, 2, 0, 0), (45, .aload_n 0, 1, 0, 0), (46, .getfield 15, 3, 901, 304), (49, .iload_n 1, 1, 0, 0), (50, .aaload, 1, 0, 0), (51, .getfield 111, 3, 700, 292), (54, .iload_n 2, 1, 0, 0), (55, .iload_n 3, 1, 0, 0), (56, .i2b, 1, 0, 0), (57, .iastore, 1, 0, 0), (58, .iload 5, 2, 0, 0), (60, .sipush 1000, 3, 0, 0), (63, .iadd, 1, 0, 0), (64, .ireturn, 1, 0, 0)]
def rw_88 : List Row := [(0, .iload_n 1, 1, 0, 0), (1, .invokestatic 134, 3, 124, 410), (4, .ifCond .ne 5, 3, 9, 0), (7, .iconst (-1), 1, 0, 0), (8, .ireturn, 1, 0, 0), (9, .aload_n 0, 1, 0, 0), (10, .getfield 15, 3, 901, 304), (13, .iload_n 1, 1, 0, 0), (14, .aaload, 1, 0, 0), (15, .invokevirtual 114, 3, 70, 375), (18, .ifCond .eq 9, 3, 27, 0), (21, .aload_n 0, 1, 0, 0), (22, .iconst 1, 1, 0, 0), (23, .invokevirtual 99, 3, 126, 356), (26, .ireturn, 1, 0, 0), (27, .aload_n 0, 1, 0, 0), (28, .getfield 35, 3, 905, 308), (31, .aload_n 0, 1, 0, 0), (32, .getfield 15, 3, 901, 304), (35, .iload_n 1, 1, 0, 0), (36, .aaload, 1, 0, 0), (37, .aload_n 0, 1, 0, 0), (38, .getfield 25, 3, 903, 306), (41, .invokevirtual 137, 3, 61, 421), (44, .ireturn, 1, 0, 0)]
def rw_89 : List Row := [(0, .iload_n 1, 1, 0, 0), (1, .invokestatic 134, 3, 124, 410), (4, .ifCond .ne 5, 3, 9, 0), (7, .iconst (-1), 1, 0, 0), (8, .ireturn, 1, 0, 0), (9, .aload_n 0, 1, 0, 0), (10, .getfield 15, 3, 901, 304), (13, .iload_n 1, 1, 0, 0), (14, .aaload, 1, 0, 0), (15, .invokevirtual 114, 3, 70, 375), (18, .ifCond .eq 9, 3, 27, 0), (21, .aload_n 0, 1, 0, 0), (22, .iconst 1, 1, 0, 0), (23, .invokevirtual 99, 3, 126, 356), (26, .ireturn, 1, 0, 0), (27, .aload_n 0, 1, 0, 0), (28, .getfield 35, 3, 905, 308), (31, .aload_n 0, 1, 0, 0), (32, .getfield 15, 3, 901, 304), (35, .iload_n 1, 1, 0, 0), (36, .aaload, 1, 0, 0), (37, .aload_n 0, 1, 0, 0), (38, .getfield 25, 3, 903, 306), (41, .invokevirtual 137, 3, 61, 421), (44, .bipush (-9), 2, 0, 0), (46, .if_icmp .eq 6, 3, 52, 0), (49, .bipush (-4), 2, 0, 0), (51, .ireturn, 1, 0, 0), (52, .aload_n 0, 1, 0, 0), (53, .getfield 21, 3, 902, 305), (56, .aload_n 0, 1, 0, 0), (57, .getfield 25, 3, 903, 306), (60, .invokevirtual 141, 3, 24, 466), (63, .iconst 0, 1, 0, 0), (64, .istore_n 2, 1, 0, 0), (65, .iload_n 2, 1, 0, 0), (66, .iconst 3, 1, 0, 0), (67, .if_icmp .ge 18, 3, 85, 0), (70, .aload_n 0, 1, 0, 0), (71, .getfield 28, 3, 904, 307), (74, .iload_n 2, 1, 0, 0), (75, .aaload, 1, 0, 0), (76, .invokevirtual 145, 3, 23, 471), (79, .iinc 2 1, 3, 0, 0), (82, .goto (-17), 3, 65, 0), (85, .aload_n 0, 1, 0, 0), (86, .getfield 21, 3, 902, 305), (89, .getfield 148, 3, 302, 105), (92, .ireturn, 1, 0, 0)]
def rw_90 : List Row := [(0, .aload_n 0, 1, 0, 0), (1, .getfield 21, 3, 902, 305), (4, .iload_n 1, 1, 0, 0), (5, .invokevirtual 151, 3, 29, 476), (8, .ifCond .eq 12, 3, 20, 0), (11, .iload_n 2, 1, 0, 0), (12, .ifCond .lt 8, 3, 20, 0), (15, .iload_n 2, 1, 0, 0), (16, .iconst 4, 1, 0, 0), (17, .if_icmp .le 5, 3, 22, 0), (20, .iconst (-1), 1, 0, 0), (21, .ireturn, 1, 0, 0), (22, .aload_n 0, 1, 0, 0), (23, .aload_n 0, 1, 0, 0), (24, .iload_n 1, 1, 0, 0), (25, .iload_n 2, 1, 0, 0), (26, .invokevirtual 154, 3, 131, 480), (29, .putfield 89, 3, 914, 317), (32, .iconst 1, 1, 0, 0), (33, .ireturn, 1, 0, 0)]
def rw_91 : List Row := [(0, .aload_n 0, 1, 0, 0), (1, .getfield 21, 3, 902, 305), (4, .iload_n 1, 1, 0, 0), (5, .invokevirtual 151, 3, 29, 476), (8, .ifCond .eq 13, 3, 21, 0), (11, .iload_n 2, 1, 0, 0), (12, .iconst 1, 1, 0, 0), (13, .if_icmp .lt 8, 3, 21, 0), (16, .iload_n 2, 1, 0, 0), (17, .iconst 5, 1, 0, 0), (18, .if_icmp .le 5, 3, 23, 0), (21, .iconst (-1), 1, 0, 0), (22, .ireturn, 1, 0, 0), (23, .aload_n 0, 1, 0, 0), (24, .getfield 21, 3, 902, 305), (27, .iload_n 1, 1, 0, 0), (28, .iload_n 2, 1, 0, 0), (29, .invokevirtual 158, 3, 34, 525), (32, .ifCond .ne 9, 3, 41, 0), (35, .aload_n 0, 1, 0, 0), (36, .iconst 3, 1, 0, 0), (37, .invokevirtual 99, 3, 126, 356), (40, .ireturn, 1, 0, 0), (41, .iload_n 2, 1, 0, 0), (42, .tableswitch 121 1 4 #[30, 54, 78, 84], 30, 0, 0), (72, .aload_n 0, 1, 0, 0), (73, .getfield 21, 3, 902, 305), (76, .iload_n 1, 1, 0, 0), (77, .aload_n 0, 1, 0, 0), (78, .getfield 21, 3, 902, 305), (81, .getfield 161, 3, 303, 111), (84, .invokevirtual 164, 3, 35, 526), (87, .ifCond .eq 7, 3, 94, 0), (90, .iconst 1, 1, 0, 0), (91, .goto 4, 3, 95, 0), (94, .iconst 0, 1, 0, 0), (95, .ireturn, 1, 0, 0), (96, .aload_n 0, 1, 0, 0), (97, .getfield 21, 3, 902, 305), (100, .aload_n 0, 1, 0, 0), (101, .getfield 21, 3, 902, 305), (104, .getfield 161, 3, 303, 111), (107, .aload_n 0, 1, 0, 0), (108, .getfield 21, 3, 902, 305), (111, .getfield 167, 3, 308, 123), (114, .iload_n 1, 1, 0, 0), (115, .iaload, 1, 0, 0), (116, .invokevirtual 170, 3, 30, 527), (119, .ireturn, 1, 0, 0), (120, .aload_n 0, 1, 0, 0), (121, .iload_n 1, 1, 0, 0), (122, .invokevirtual 173, 3, 132, 528), (125, .ireturn, 1, 0, 0), (126, .iconst 0, 1, 0, 0), (127, .aload_n 0, 1, 0, 0), (128, .getfield 21, 3, 902, 305), (131, .iload_n 1, 1, 0, 0), (132, .aload_n 0, 1, 0, 0), (133, .getfield 21, 3, 902, 305), (136, .getfield 161, 3, 303, 111), (139, .invokevirtual 176, 3, 36, 484), (142, .aload_n 0, 1, 0, 0), (143, .getfield 21, 3, 902, 305), (146, .iconst 2, 1, 0, 0), (147, .iload_n 1, 1, 0, 0), (148, .aload_n 0, 1, 0, 0), (149, .getfield 21, 3, 902, 305), (152, .getfield 161, 3, 303, 111), (155, .invokevirtual 179, 3, 37, 532), (158, .isub, 1, 0, 0), (159, .invokestatic 183, 3, (-3), 536), (162, .ireturn, 1, 0, 0), (163, .aload_n 0, 1, 0, 0), (164, .getfield 21, 3, 902, 305), (167, .iload_n 1, 1, 0, 0), (168, .invokevirtual 188, 3, 39, 537), (171, .ireturn, 1, 0, 0)]
def rw_92 : List Row := [(0, .aload_n 0, 1, 0, 0), (1, .getfield 21, 3, 902, 305), (4, .iload_n 1, 1, 0, 0), (5, .invokevirtual 151, 3, 29, 476), (8, .ifCond .eq 14, 3, 22, 0), (11, .aload_n 0, 1, 0, 0), (12, .getfield 21, 3, 902, 305), (15, .iload_n 2, 1, 0, 0), (16, .invokevirtual 191, 3, 28, 550), (19, .ifCond .ne 5, 3, 24, 0), (22, .iconst (-1), 1, 0, 0), (23, .ireturn, 1, 0, 0), (24, .aload_n 0, 1, 0, 0), (25, .getfield 21, 3, 902, 305), (28, .iload_n 1, 1, 0, 0), (29, .iload_n 2, 1, 0, 0), (30, .invokevirtual 176, 3, 36, 484), (33, .ireturn, 1, 0, 0)]
def rw_93 : List Row := [(0, .aload_n 0, 1, 0, 0), (1, .getfield 21, 3, 902, 305), (4, .invokevirtual 194, 3, 26, 558), (7, .ifCond .eq 6, 3, 13, 0), (10, .bipush (-4), 2, 0, 0), (12, .ireturn, 1, 0, 0), (13, .aload_n 0, 1, 0, 0), (14, .getfield 21, 3, 902, 305), (17, .getfield 197, 3, 306, 119), (20, .bipush 40, 2, 0, 0), (22, .if_icmp .lt 6, 3, 28, 0), (25, .bipush (-2), 2, 0, 0), (27, .ireturn, 1, 0, 0), (28, .aload_n 0, 1, 0, 0), (29, .invokevirtual 200, 3, 133, 562), (32, .ireturn, 1, 0, 0)]
def rw_94 : List Row := [(0, .iload_n 1, 1, 0, 0), (1, .iconst 1, 1, 0, 0), (2, .if_icmp .lt 8, 3, 10, 0), (5, .iload_n 1, 1, 0, 0), (6, .iconst 4, 1, 0, 0), (7, .if_icmp .le 5, 3, 12, 0), (10, .iconst (-1), 1, 0, 0), (11, .ireturn, 1, 0, 0), (12, .aload_n 0, 1, 0, 0), (13, .getfield 21, 3, 902, 305), (16, .invokevirtual 194, 3, 26, 558), (19, .ifCond .ne 22, 3, 41, 0), (22, .aload_n 0, 1, 0, 0), (23, .getfield 21, 3, 902, 305), (26, .aload_n 0, 1, 0, 0), (27, .getfield 21, 3, 902, 305), (30, .getfield 161, 3, 303, 111), (33, .iload_n 1, 1, 0, 0), (34, .invokevirtual 204, 3, 31, 597), (37, .iconst (-1), 1, 0, 0), (38, .if_icmp .ne 6, 3, 44, 0), (41, .bipush (-4), 2, 0, 0), (43, .ireturn, 1, 0, 0), (44, .aload_n 0, 1, 0, 0), (45, .getfield 21, 3, 902, 305), (48, .getfield 197, 3, 306, 119), (51, .bipush 40, 2, 0, 0), (53, .if_icmp .lt 6, 3, 59, 0), (56, .bipush (-2), 2, 0, 0), (58, .ireturn, 1, 0, 0), (59, .aload_n 0, 1, 0, 0), (60, .getfield 21, 3, 902, 305), (63, .iload_n 1, 1, 0, 0), (64, .invokevirtual 207, 3, 45, 598), (67, .aload_n 0, 1, 0, 0), (68, .getfield 21, 3, 902, 305), (71, .getfield 161, 3, 303, 111), (74, .ireturn, 1, 0, 0)]
def rw_95 : List Row := [(0, .aload_n 0, 1, 0, 0), (1, .getfield 21, 3, 902, 305), (4, .iload_n 1, 1, 0, 0), (5, .invokevirtual 151, 3, 29, 476), (8, .ifCond .eq 14, 3, 22, 0), (11, .aload_n 0, 1, 0, 0), (12, .getfield 21, 3, 902, 305), (15, .iload_n 2, 1, 0, 0), (16, .invokevirtual 191, 3, 28, 550), (19, .ifCond .ne 5, 3, 24, 0), (22, .iconst (-1), 1, 0, 0), (23, .ireturn, 1, 0, 0), (24, .aload_n 0, 1, 0, 0), (25, .getfield 21, 3, 902, 305), (28, .getfield 167, 3, 308, 123), (31, .iload_n 1, 1, 0, 0), (32, .iaload, 1, 0, 0), (33, .istore_n 3, 1, 0, 0), (34, .iload_n 3, 1, 0, 0), (35, .iload_n 2, 1, 0, 0), (36, .if_icmp .ne 6, 3, 42, 0), (39, .bipush (-4), 2, 0, 0), (41, .ireturn, 1, 0, 0), (42, .aload_n 0, 1, 0, 0), (43, .getfield 21, 3, 902, 305), (46, .getfield 197, 3, 306, 119), (49, .bipush 40, 2, 0, 0), (51, .if_icmp .lt 6, 3, 57, 0), (54, .bipush (-2), 2, 0, 0), (56, .ireturn, 1, 0, 0), (57, .aload_n 0, 1, 0, 0), (58, .getfield 21, 3, 902, 305), (61, .iload_n 1, 1, 0, 0), (62, .iload_n 2, 1, 0, 0), (63, .invokevirtual 210, 3, 46, 606), (66, .iload_n 3, 1, 0, 0), (67, .ireturn, 1, 0, 0)]
def rw_96 : List Row := [(0, .iload_n 1, 1, 0, 0), (1, .ifCond .lt 14, 3, 15, 0), (4, .iload_n 1, 1, 0, 0), (5, .aload_n 0, 1, 0, 0), (6, .getfield 21, 3, 902, 305), (9, .getfield 197, 3, 306, 119), (12, .if_icmp .le 5, 3, 17, 0), (15, .iconst (-1), 1, 0, 0), (16, .ireturn, 1, 0, 0), (17, .aload_n 0, 1, 0, 0), (18, .getfield 21, 3, 902, 305), (21, .getfield 197, 3, 306, 119), (24, .iload_n 1, 1, 0, 0), (25, .isub, 1, 0, 0), (26, .istore_n 2, 1, 0, 0), (27, .aload_n 0, 1, 0, 0), (28, .getfield 21, 3, 902, 305), (31, .iload_n 1, 1, 0, 0), (32, .invokevirtual 213, 3, 48, 614), (35, .iload_n 2, 1, 0, 0), (36, .ireturn, 1, 0, 0)]
def rw_97 : List Row := [(0, .iload_n 1, 1, 0, 0), (1, .ifCond .lt 8, 3, 9, 0), (4, .iload_n 1, 1, 0, 0), (5, .iconst 3, 1, 0, 0), (6, .if_icmp .lt 5, 3, 11, 0), (9, .iconst (-1), 1, 0, 0), (10, .ireturn, 1, 0, 0), (11, .aload_n 0, 1, 0, 0), (12, .getfield 21, 3, 902, 305), (15, .invokevirtual 194, 3, 26, 558), (18, .ifCond .eq 6, 3, 24, 0), (21, .bipush (-4), 2, 0, 0), (23, .ireturn, 1, 0, 0), (24, .aload_n 0, 1, 0, 0), (25, .getfield 28, 3, 904, 307), (28, .iload_n 1, 1, 0, 0), (29, .aaload, 1, 0, 0), (30, .aload_n 0, 1, 0, 0), (31, .getfield 21, 3, 902, 305), (34, .invokevirtual 141, 3, 24, 466), (37, .aload_n 0, 1, 0, 0), (38, .getfield 21, 3, 902, 305), (41, .getfield 197, 3, 306, 119), (44, .ireturn, 1, 0, 0)]
def rw_98 : List Row := [(0, .iload_n 1, 1, 0, 0), (1, .ifCond .lt 8, 3, 9, 0), (4, .iload_n 1, 1, 0, 0), (5, .iconst 3, 1, 0, 0), (6, .if_icmp .lt 5, 3, 11, 0), (9, .iconst (-1), 1, 0, 0), (10, .ireturn, 1, 0, 0), (11, .aload_n 0, 1, 0, 0), (12, .getfield 28, 3, 904, 307), (15, .iload_n 1, 1, 0, 0), (16, .aaload, 1, 0, 0), (17, .invokevirtual 194, 3, 26, 558), (20, .ifCond .eq 9, 3, 29, 0), (23, .aload_n 0, 1, 0, 0), (24, .iconst 1, 1, 0, 0), (25, .invokevirtual 99, 3, 126, 356), (28, .ireturn, 1, 0, 0), (29, .aload_n 0, 1, 0, 0), (30, .getfield 21, 3, 902, 305), (33, .aload_n 0, 1, 0, 0), (34, .getfield 28, 3, 904, 307), (37, .iload_n 1, 1, 0, 0), (38, .aaload, 1, 0, 0), (39, .invokevirtual 141, 3, 24, 466), (42, .aload_n 0, 1, 0, 0), (43, .getfield 21, 3, 902, 305), (46, .getfield 197, 3, 306, 119), (49, .ireturn, 1, 0, 0)]
def rw_99 : List Row := [(0, .iload_n 1, 1, 0, 0), (1, .invokestatic 216, 3, 125, 630), (4, .ifCond .ne 5, 3, 9, 0), (7, .iconst (-1), 1, 0, 0), (8, .ireturn, 1, 0, 0), (9, .aload_n 0, 1, 0, 0), (10, .getfield 21, 3, 902, 305), (13, .invokevirtual 194, 3, 26, 558), (16, .ifCond .eq 6, 3, 22, 0), (19, .bipush (-4), 2, 0, 0), (21, .ireturn, 1, 0, 0), (22, .aload_n 0, 1, 0, 0), (23, .getfield 42, 3, 906, 309), (26, .aload_n 0, 1, 0, 0), (27, .getfield 21, 3, 902, 305), (30, .aload_n 0, 1, 0, 0), (31, .getfield 21, 3, 902, 305), (34, .getfield 161, 3, 303, 111), (37, .aload_n 0, 1, 0, 0), (38, .getfield 21, 3, 902, 305), (41, .getfield 219, 3, 304, 115), (44, .invokevirtual 222, 3, 2, 566), (47, .aload_n 0, 1, 0, 0), (48, .aload_n 0, 1, 0, 0), (49, .getfield 42, 3, 906, 309), (52, .aload_n 0, 1, 0, 0), (53, .getfield 21, 3, 902, 305), (56, .iload_n 1, 1, 0, 0), (57, .invokevirtual 226, 3, 7, 633), (60, .putfield 89, 3, 914, 317), (63, .aload_n 0, 1, 0, 0), (64, .getfield 42, 3, 906, 309), (67, .getfield 230, 3, 1, 187), (70, .iload_n 1, 1, 0, 0), (71, .iaload, 1, 0, 0), (72, .ireturn, 1, 0, 0)]
def rw_100 : List Row := [(0, .aload_n 0, 1, 0, 0), (1, .getfield 21, 3, 902, 305), (4, .invokevirtual 194, 3, 26, 558), (7, .ifCond .eq 6, 3, 13, 0), (10, .bipush (-4), 2, 0, 0), (12, .ireturn, 1, 0, 0), (13, .aload_n 0, 1, 0, 0), (14, .getfield 42, 3, 906, 309), (17, .aload_n 0, 1, 0, 0), (18, .getfield 21, 3, 902, 305), (21, .aload_n 0, 1, 0, 0), (22, .getfield 21, 3, 902, 305), (25, .getfield 161, 3, 303, 111), (28, .aload_n 0, 1, 0, 0), (29, .getfield 21, 3, 902, 305), (32, .getfield 219, 3, 304, 115), (35, .invokevirtual 222, 3, 2, 566), (38, .aload_n 0, 1, 0, 0), (39, .aload_n 0, 1, 0, 0), (40, .getfield 42, 3, 906, 309), (43, .invokevirtual 233, 3, 6, 641), (46, .putfield 89, 3, 914, 317), (49, .aload_n 0, 1, 0, 0), (50, .getfield 42, 3, 906, 309), (53, .invokevirtual 236, 3, 5, 575), (56, .ireturn, 1, 0, 0)]
def rw_101 : List Row := [(0, .iload_n 1, 1, 0, 0), (1, .invokestatic 216, 3, 125, 630), (4, .ifCond .ne 5, 3, 9, 0), (7, .iconst (-1), 1, 0, 0), (8, .ireturn, 1, 0, 0), (9, .aload_n 0, 1, 0, 0), (10, .getfield 21, 3, 902, 305), (13, .invokevirtual 194, 3, 26, 558), (16, .ifCond .eq 6, 3, 22, 0), (19, .bipush (-4), 2, 0, 0), (21, .ireturn, 1, 0, 0), (22, .aload_n 0, 1, 0, 0), (23, .getfield 21, 3, 902, 305), (26, .aload_n 0, 1, 0, 0), (27, .getfield 21, 3, 902, 305), (30, .getfield 161, 3, 303, 111), (33, .aload_n 0, 1, 0, 0), (34, .getfield 21, 3, 902, 305), (37, .getfield 219, 3, 304, 115), (40, .iload_n 1, 1, 0, 0), (41, .invokevirtual 239, 3, 32, 650), (44, .ifCond .ne 6, 3, 50, 0), (47, .bipush (-9), 2, 0, 0), (49, .ireturn, 1, 0, 0), (50, .aload_n 0, 1, 0, 0), (51, .getfield 42, 3, 906, 309), (54, .aload_n 0, 1, 0, 0), (55, .getfield 21, 3, 902, 305), (58, .aload_n 0, 1, 0, 0), (59, .getfield 21, 3, 902, 305), (62, .getfield 161, 3, 303, 111), (65, .aload_n 0, 1, 0, 0), (66, .getfield 21, 3, 902, 305), (69, .getfield 219, 3, 304, 115), (72, .invokevirtual 222, 3, 2, 566), (75, .aload_n 0, 1, 0, 0), (76, .getfield 42, 3, 906, 309), (79, .aload_n 0, 1, 0, 0), (80, .getfield 21, 3, 902, 305), (83, .iload_n 1, 1, 0, 0), (84, .invokevirtual 243, 3, 8, 651), (87, .istore_n 2, 1, 0, 0), (88, .iload_n 2, 1, 0, 0), (89, .bipush (-9), 2, 0, 0), (91, .if_icmp .ne 6, 3, 97, 0), (94, .bipush (-9), 2, 0, 0), (96, .ireturn, 1, 0, 0), (97, .aload_n 0, 1, 0, 0), (98, .iload_n 2, 1, 0, 0), (99, .putfield 89, 3, 914, 317), (102, .aload_n 0, 1, 0, 0), (103, .getfield 21, 3, 902, 305), (106, .iload_n 2, 1, 0, 0), (107, .invokevirtual 246, 3, 41, 665), (110, .ireturn, 1, 0, 0)]
def rw_102 : List Row := [(0, .iload_n 1, 1, 0, 0), (1, .ifCond .lt 9, 3, 10, 0), (4, .iload_n 1, 1, 0, 0), (5, .bipush 40, 2, 0, 0), (7, .if_icmp .le 5, 3, 12, 0), (10, .iconst (-1), 1, 0, 0), (11, .ireturn, 1, 0, 0), (12, .aload_n 0, 1, 0, 0), (13, .getfield 21, 3, 902, 305), (16, .invokevirtual 194, 3, 26, 558), (19, .ifCond .eq 6, 3, 25, 0), (22, .bipush (-4), 2, 0, 0), (24, .ireturn, 1, 0, 0), (25, .aload_n 0, 1, 0, 0), (26, .getfield 49, 3, 907, 310), (29, .aload_n 0, 1, 0, 0), (30, .getfield 21, 3, 902, 305), (33, .invokevirtual 249, 3, 76, 670), (36, .iconst 0, 1, 0, 0), (37, .istore_n 2, 1, 0, 0), (38, .iload_n 2, 1, 0, 0), (39, .iload_n 1, 1, 0, 0), (40, .if_icmp .ge 24, 3, 64, 0), (43, .aload_n 0, 1, 0, 0), (44, .getfield 49, 3, 907, 310), (47, .aload_n 0, 1, 0, 0), (48, .getfield 21, 3, 902, 305), (51, .aload_n 0, 1, 0, 0), (52, .getfield 42, 3, 906, 309), (55, .invokevirtual 252, 3, 77, 674), (58, .iinc 2 1, 3, 0, 0), (61, .goto (-23), 3, 38, 0), (64, .aload_n 0, 1, 0, 0), (65, .aload_n 0, 1, 0, 0), (66, .getfield 21, 3, 902, 305), (69, .aload_n 0, 1, 0, 0), (70, .getfield 49, 3, 907, 310), (73, .getfield 256, 3, 800, 200), (76, .invokevirtual 259, 3, 40, 682), (79, .putfield 89, 3, 914, 317), (82, .aload_n 0, 1, 0, 0), (83, .getfield 49, 3, 907, 310), (86, .getfield 256, 3, 800, 200), (89, .ireturn, 1, 0, 0)]
def rw_103 : List Row := [(0, .aload_n 0, 1, 0, 0), (1, .getfield 21, 3, 902, 305), (4, .iload_n 1, 1, 0, 0), (5, .invokevirtual 191, 3, 28, 550), (8, .ifCond .ne 5, 3, 13, 0), (11, .iconst (-1), 1, 0, 0), (12, .ireturn, 1, 0, 0), (13, .aload_n 0, 1, 0, 0), (14, .getfield 49, 3, 907, 310), (17, .aload_n 0, 1, 0, 0), (18, .getfield 21, 3, 902, 305), (21, .invokevirtual 249, 3, 76, 670), (24, .iconst 0, 1, 0, 0), (25, .istore_n 2, 1, 0, 0), (26, .iload_n 2, 1, 0, 0), (27, .bipush 60, 2, 0, 0), (29, .if_icmp .gt 37, 3, 66, 0), (32, .aload_n 0, 1, 0, 0), (33, .getfield 49, 3, 907, 310), (36, .getfield 256, 3, 800, 200), (39, .iload_n 1, 1, 0, 0), (40, .if_icmp .ne 5, 3, 45, 0), (43, .iload_n 2, 1, 0, 0), (44, .ireturn, 1, 0, 0), (45, .aload_n 0, 1, 0, 0), (46, .getfield 49, 3, 907, 310), (49, .aload_n 0, 1, 0, 0), (50, .getfield 21, 3, 902, 305), (53, .aload_n 0, 1, 0, 0), (54, .getfield 42, 3, 906, 309), (57, .invokevirtual 252, 3, 77, 674), (60, .iinc 2 1, 3, 0, 0), (63, .goto (-37), 3, 26, 0), (66, .bipush (-9), 2, 0, 0), (68, .ireturn, 1, 0, 0)]
def rw_104 : List Row := [(0, .aload_n 0, 1, 0, 0), (1, .getfield 21, 3, 902, 305), (4, .invokevirtual 194, 3, 26, 558), (7, .ifCond .eq 6, 3, 13, 0), (10, .bipush (-4), 2, 0, 0), (12, .ireturn, 1, 0, 0), (13, .aload_n 0, 1, 0, 0), (14, .getfield 49, 3, 907, 310), (17, .aload_n 0, 1, 0, 0), (18, .getfield 21, 3, 902, 305), (21, .aload_n 0, 1, 0, 0), (22, .getfield 42, 3, 906, 309), (25, .invokevirtual 262, 3, 78, 694), (28, .istore_n 1, 1, 0, 0), (29, .aload_n 0, 1, 0, 0), (30, .aload_n 0, 1, 0, 0), (31, .getfield 49, 3, 907, 310), (34, .getfield 266, 3, 801, 202), (37, .putfield 89, 3, 914, 317), (40, .iload_n 1, 1, 0, 0), (41, .ireturn, 1, 0, 0)]
def rw_105 : List Row := [(0, .iload_n 1, 1, 0, 0), (1, .ifCond .lt 15, 3, 16, 0), (4, .iload_n 1, 1, 0, 0), (5, .iconst 5, 1, 0, 0), (6, .if_icmp .gt 10, 3, 16, 0), (9, .iload_n 2, 1, 0, 0), (10, .invokestatic 95, 3, 123, 353), (13, .ifCond .ne 5, 3, 18, 0), (16, .iconst (-1), 1, 0, 0), (17, .ireturn, 1, 0, 0), (18, .aload_n 0, 1, 0, 0), (19, .getfield 21, 3, 902, 305), (22, .invokevirtual 194, 3, 26, 558), (25, .ifCond .eq 6, 3, 31, 0), (28, .bipush (-4), 2, 0, 0), (30, .ireturn, 1, 0, 0), (31, .aload_n 0, 1, 0, 0), (32, .getfield 11, 3, 900, 303), (35, .iload_n 2, 1, 0, 0), (36, .aaload, 1, 0, 0), (37, .iload_n 1, 1, 0, 0), (38, .iconst 0, 1, 0, 0), (39, .invokevirtual 103, 3, 72, 360), (42, .aload_n 0, 1, 0, 0), (43, .getfield 56, 3, 908, 311), (46, .aload_n 0, 1, 0, 0), (47, .getfield 21, 3, 902, 305), (50, .iload_n 1, 1, 0, 0), (51, .aload_n 0, 1, 0, 0), (52, .getfield 11, 3, 900, 303), (55, .iload_n 2, 1, 0, 0), (56, .aaload, 1, 0, 0), (57, .getfield 111, 3, 700, 292), (60, .invokevirtual 269, 3, 54, 704), (63, .ireturn, 1, 0, 0)]
def rw_106 : List Row := [(0, .aload_n 0, 1, 0, 0), (1, .iload_n 1, 1, 0, 0), (2, .invokevirtual 273, 3, 128, 729), (5, .istore_n 2, 1, 0, 0), (6, .iload_n 2, 1, 0, 0), (7, .ifCond .eq 5, 3, 12, 0), (10, .iload_n 2, 1, 0, 0), (11, .ireturn, 1, 0, 0), (12, .aload_n 0, 1, 0, 0), (13, .getfield 63, 3, 909, 312), (16, .aload_n 0, 1, 0, 0), (17, .getfield 21, 3, 902, 305), (20, .aload_n 0, 1, 0, 0), (21, .getfield 11, 3, 900, 303), (24, .iload_n 1, 1, 0, 0), (25, .aaload, 1, 0, 0), (26, .invokevirtual 276, 3, 15, 737), (29, .istore_n 3, 1, 0, 0), (30, .aload_n 0, 1, 0, 0), (31, .iload_n 3, 1, 0, 0), (32, .invokestatic 280, 3, 229, 743), (35, .putfield 89, 3, 914, 317), (38, .iload_n 3, 1, 0, 0), (39, .ireturn, 1, 0, 0)]
def rw_107 : List Row := [(0, .aload_n 0, 1, 0, 0), (1, .iload_n 1, 1, 0, 0), (2, .invokevirtual 273, 3, 128, 729), (5, .istore_n 2, 1, 0, 0), (6, .iload_n 2, 1, 0, 0), (7, .ifCond .eq 5, 3, 12, 0), (10, .iload_n 2, 1, 0, 0), (11, .ireturn, 1, 0, 0), (12, .aload_n 0, 1, 0, 0), (13, .getfield 63, 3, 909, 312), (16, .aload_n 0, 1, 0, 0), (17, .getfield 21, 3, 902, 305), (20, .aload_n 0, 1, 0, 0), (21, .getfield 11, 3, 900, 303), (24, .iload_n 1, 1, 0, 0), (25, .aaload, 1, 0, 0), (26, .invokevirtual 276, 3, 15, 737), (29, .istore_n 3, 1, 0, 0), (30, .iload_n 3, 1, 0, 0), (31, .ifCond .ne 6, 3, 37, 0), (34, .bipush (-9), 2, 0, 0), (36, .ireturn, 1, 0, 0), (37, .aload_n 0, 1, 0, 0), (38, .getfield 63, 3, 909, 312), (41, .aload_n 0, 1, 0, 0), (42, .getfield 21, 3, 902, 305), (45, .iload_n 3, 1, 0, 0), (46, .invokevirtual 285, 3, 17, 753), (49, .istore 4, 2, 0, 0), (51, .aload_n 0, 1, 0, 0), (52, .aload_n 0, 1, 0, 0), (53, .getfield 63, 3, 909, 312), (56, .getfield 288, 3, 200, 239), (59, .putfield 89, 3, 914, 317), (62, .iload 4, 2, 0, 0), (64, .ireturn, 1, 0, 0)]
def rw_108 : List Row := [(0, .aload_n 0, 1, 0, 0), (1, .iload_n 1, 1, 0, 0), (2, .iload_n 2, 1, 0, 0), (3, .invokevirtual 291, 3, 129, 774), (6, .istore_n 3, 1, 0, 0), (7, .iload_n 3, 1, 0, 0), (8, .ifCond .eq 5, 3, 13, 0), (11, .iload_n 3, 1, 0, 0), (12, .ireturn, 1, 0, 0), (13, .aload_n 0, 1, 0, 0), (14, .getfield 63, 3, 909, 312), (17, .aload_n 0, 1, 0, 0), (18, .getfield 21, 3, 902, 305), (21, .iload_n 1, 1, 0, 0), (22, .aload_n 0, 1, 0, 0), (23, .getfield 11, 3, 900, 303), (26, .iload_n 2, 1, 0, 0), (27, .aaload, 1, 0, 0), (28, .invokevirtual 294, 3, 16, 779), (31, .ireturn, 1, 0, 0)]
def rw_109 : List Row := [(0, .aload_n 0, 1, 0, 0), (1, .iload_n 1, 1, 0, 0), (2, .iload_n 2, 1, 0, 0), (3, .invokevirtual 291, 3, 129, 774), (6, .istore_n 3, 1, 0, 0), (7, .iload_n 3, 1, 0, 0), (8, .ifCond .eq 5, 3, 13, 0), (11, .iload_n 3, 1, 0, 0), (12, .ireturn, 1, 0, 0), (13, .aload_n 0, 1, 0, 0), (14, .getfield 63, 3, 909, 312), (17, .aload_n 0, 1, 0, 0), (18, .getfield 21, 3, 902, 305), (21, .iload_n 1, 1, 0, 0), (22, .aload_n 0, 1, 0, 0), (23, .getfield 11, 3, 900, 303), (26, .iload_n 2, 1, 0, 0), (27, .aaload, 1, 0, 0), (28, .invokevirtual 294, 3, 16, 779), (31, .istore 4, 2, 0, 0), (33, .iload 4, 2, 0, 0), (35, .ifCond .ne 6, 3, 41, 0), (38, .bipush (-9), 2, 0, 0), (40, .ireturn, 1, 0, 0), (41, .aload_n 0, 1, 0, 0), (42, .getfield 63, 3, 909, 312), (45, .aload_n 0, 1, 0, 0), (46, .getfield 21, 3, 902, 305), (49, .iload_n 1, 1, 0, 0), (50, .iload 4, 2, 0, 0), (52, .invokevirtual 298, 3, 18, 788), (55, .istore 5, 2, 0, 0), (57, .aload_n 0, 1, 0, 0), (58, .aload_n 0, 1, 0, 0), (59, .getfield 63, 3, 909, 312), (62, .getfield 288, 3, 200, 239), (65, .putfield 89, 3, 914, 317), (68, .iload 5, 2, 0, 0), (70, .ireturn, 1, 0, 0)]
def rw_110 : List Row := [(0, .aload_n 0, 1, 0, 0), (1, .getfield 21, 3, 902, 305), (4, .iload_n 1, 1, 0, 0), (5, .invokevirtual 191, 3, 28, 550), (8, .ifCond .eq 14, 3, 22, 0), (11, .aload_n 0, 1, 0, 0), (12, .getfield 21, 3, 902, 305), (15, .iload_n 2, 1, 0, 0), (16, .invokevirtual 191, 3, 28, 550), (19, .ifCond .ne 5, 3, 24, 0), (22, .iconst (-1), 1, 0, 0), (23, .ireturn, 1, 0, 0), (24, .aload_n 0, 1, 0, 0), (25, .getfield 70, 3, 910, 313), (28, .aload_n 0, 1, 0, 0), (29, .getfield 21, 3, 902, 305), (32, .iload_n 1, 1, 0, 0), (33, .iload_n 2, 1, 0, 0), (34, .iconst (-1), 1, 0, 0), (35, .invokevirtual 302, 3, 50, 796), (38, .istore_n 3, 1, 0, 0), (39, .iload_n 3, 1, 0, 0), (40, .iconst (-1), 1, 0, 0), (41, .if_icmp .ne 6, 3, 47, 0), (44, .bipush (-9), 2, 0, 0), (46, .ireturn, 1, 0, 0), (47, .aload_n 0, 1, 0, 0), (48, .aload_n 0, 1, 0, 0), (49, .getfield 70, 3, 910, 313), (52, .aload_n 0, 1, 0, 0), (53, .getfield 21, 3, 902, 305), (56, .iload_n 1, 1, 0, 0), (57, .invokevirtual 306, 3, 52, 806), (60, .putfield 89, 3, 914, 317), (63, .iload_n 3, 1, 0, 0), (64, .ireturn, 1, 0, 0)]
def rw_111 : List Row := [(0, .aload_n 0, 1, 0, 0), (1, .getfield 21, 3, 902, 305), (4, .iload_n 1, 1, 0, 0), (5, .invokevirtual 191, 3, 28, 550), (8, .ifCond .eq 19, 3, 27, 0), (11, .aload_n 0, 1, 0, 0), (12, .getfield 21, 3, 902, 305), (15, .iload_n 2, 1, 0, 0), (16, .invokevirtual 191, 3, 28, 550), (19, .ifCond .eq 8, 3, 27, 0), (22, .iload_n 1, 1, 0, 0), (23, .iload_n 2, 1, 0, 0), (24, .if_icmp .ne 5, 3, 29, 0), (27, .iconst (-1), 1, 0, 0), (28, .ireturn, 1, 0, 0), (29, .iconst 0, 1, 0, 0), (30, .istore_n 3, 1, 0, 0), (31, .iconst 0, 1, 0, 0), (32, .istore 4, 2, 0, 0), (34, .iload 4, 2, 0, 0), (36, .aload_n 0, 1, 0, 0), (37, .getfield 21, 3, 902, 305), (40, .invokevirtual 309, 3, 27, 778), (43, .if_icmp .ge 71, 3, 114, 0), (46, .iload 4, 2, 0, 0), (48, .iload_n 1, 1, 0, 0), (49, .if_icmp .eq 25, 3, 74, 0), (52, .iload 4, 2, 0, 0), (54, .iload_n 2, 1, 0, 0), (55, .if_icmp .eq 19, 3, 74, 0), (58, .iload 4, 2, 0, 0), (60, .aload_n 0, 1, 0, 0), (61, .getfield 21, 3, 902, 305), (64, .getfield 161, 3, 303, 111), (67, .if_icmp .eq 7, 3, 74, 0), (70, .iconst 1, 1, 0, 0), (71, .goto 4, 3, 75, 0), (74, .iconst 0, 1, 0, 0), (75, .istore 5, 2, 0, 0), (77, .iload 5, 2, 0, 0), (79, .ifCond .eq 29, 3, 108, 0), (82, .aload_n 0, 1, 0, 0), (83, .getfield 70, 3, 910, 313), (86, .aload_n 0, 1, 0, 0), (87, .getfield 21, 3, 902, 305), (90, .iload_n 1, 1, 0, 0), (91, .iload_n 2, 1, 0, 0), (92, .iload 4, 2, 0, 0), (94, .invokevirtual 302, 3, 50, 796), (97, .iconst (-1), 1, 0, 0), (98, .if_icmp .ne 10, 3, 108, 0), (101, .iload_n 3, 1, 0, 0), (102, .iconst 1, 1, 0, 0), (103, .iload 4, 2, 0, 0), (105, .ishl, 1, 0, 0), (106, .ior, 1, 0, 0), (107, .istore_n 3, 1, 0, 0), (108, .iinc 4 1, 3, 0, 0), (111, .goto (-77), 3, 34, 0), (114, .iload_n 3, 1, 0, 0), (115, .ireturn, 1, 0, 0)]
def rw_112 : List Row := [(0, .iload_n 1, 1, 0, 0), (1, .ifCond .lt 9, 3, 10, 0), (4, .iload_n 1, 1, 0, 0), (5, .bipush 6, 2, 0, 0), (7, .if_icmp .le 5, 3, 12, 0), (10, .iconst (-1), 1, 0, 0), (11, .ireturn, 1, 0, 0), (12, .aload_n 0, 1, 0, 0), (13, .getfield 21, 3, 902, 305), (16, .invokevirtual 194, 3, 26, 558), (19, .ifCond .eq 6, 3, 25, 0), (22, .bipush (-4), 2, 0, 0), (24, .ireturn, 1, 0, 0), (25, .aload_n 0, 1, 0, 0), (26, .getfield 56, 3, 908, 311), (29, .aload_n 0, 1, 0, 0), (30, .getfield 21, 3, 902, 305), (33, .iload_n 1, 1, 0, 0), (34, .invokevirtual 312, 3, 58, 818), (37, .ireturn, 1, 0, 0)]
def rw_113 : List Row := [(0, .iload_n 1, 1, 0, 0), (1, .invokestatic 216, 3, 125, 630), (4, .ifCond .eq 13, 3, 17, 0), (7, .iload_n 2, 1, 0, 0), (8, .ifCond .lt 9, 3, 17, 0), (11, .iload_n 2, 1, 0, 0), (12, .bipush 12, 2, 0, 0), (14, .if_icmp .le 5, 3, 19, 0), (17, .iconst (-1), 1, 0, 0), (18, .ireturn, 1, 0, 0), (19, .aload_n 0, 1, 0, 0), (20, .getfield 21, 3, 902, 305), (23, .invokevirtual 194, 3, 26, 558), (26, .ifCond .eq 6, 3, 32, 0), (29, .bipush (-4), 2, 0, 0), (31, .ireturn, 1, 0, 0), (32, .aload_n 0, 1, 0, 0), (33, .getfield 42, 3, 906, 309), (36, .aload_n 0, 1, 0, 0), (37, .getfield 21, 3, 902, 305), (40, .aload_n 0, 1, 0, 0), (41, .getfield 21, 3, 902, 305), (44, .getfield 161, 3, 303, 111), (47, .aload_n 0, 1, 0, 0), (48, .getfield 21, 3, 902, 305), (51, .getfield 219, 3, 304, 115), (54, .invokevirtual 222, 3, 2, 566), (57, .aload_n 0, 1, 0, 0), (58, .getfield 77, 3, 911, 314), (61, .aload_n 0, 1, 0, 0), (62, .getfield 21, 3, 902, 305), (65, .aload_n 0, 1, 0, 0), (66, .getfield 42, 3, 906, 309), (69, .iload_n 2, 1, 0, 0), (70, .invokevirtual 315, 3, 10, 832), (73, .aload_n 0, 1, 0, 0), (74, .getfield 77, 3, 911, 314), (77, .aload_n 0, 1, 0, 0), (78, .getfield 77, 3, 911, 314), (81, .getfield 319, 3, 102, 270), (84, .iload_n 1, 1, 0, 0), (85, .laload, 1, 0, 0), (86, .invokevirtual 323, 3, 12, 841), (89, .iconst 1, 1, 0, 0), (90, .ireturn, 1, 0, 0)]
def rw_114 : List Row := [(0, .iload_n 1, 1, 0, 0), (1, .ifCond .lt 9, 3, 10, 0), (4, .iload_n 1, 1, 0, 0), (5, .bipush 12, 2, 0, 0), (7, .if_icmp .le 5, 3, 12, 0), (10, .iconst (-1), 1, 0, 0), (11, .ireturn, 1, 0, 0), (12, .aload_n 0, 1, 0, 0), (13, .getfield 21, 3, 902, 305), (16, .invokevirtual 194, 3, 26, 558), (19, .ifCond .eq 6, 3, 25, 0), (22, .bipush (-4), 2, 0, 0), (24, .ireturn, 1, 0, 0), (25, .aload_n 0, 1, 0, 0), (26, .getfield 42, 3, 906, 309), (29, .aload_n 0, 1, 0, 0), (30, .getfield 21, 3, 902, 305), (33, .aload_n 0, 1, 0, 0), (34, .getfield 21, 3, 902, 305), (37, .getfield 161, 3, 303, 111), (40, .aload_n 0, 1, 0, 0), (41, .getfield 21, 3, 902, 305), (44, .getfield 219, 3, 304, 115), (47, .invokevirtual 222, 3, 2, 566), (50, .aload_n 0, 1, 0, 0), (51, .getfield 77, 3, 911, 314), (54, .aload_n 0, 1, 0, 0), (55, .getfield 21, 3, 902, 305), (58, .aload_n 0, 1, 0, 0), (59, .getfield 42, 3, 906, 309), (62, .iload_n 1, 1, 0, 0), (63, .invokevirtual 315, 3, 10, 832), (66, .lconst 0, 1, 0, 0), (67, .lstore_n 2, 1, 0, 0), (68, .iconst 0, 1, 0, 0), (69, .istore 4, 2, 0, 0), (71, .iload 4, 2, 0, 0), (73, .iconst 5, 1, 0, 0), (74, .if_icmp .ge 62, 3, 136, 0), (77, .aload_n 0, 1, 0, 0), (78, .getfield 77, 3, 911, 314), (81, .getfield 319, 3, 102, 270), (84, .iload 4, 2, 0, 0), (86, .laload, 1, 0, 0), (87, .lconst 0, 1, 0, 0), (88, .lcmp, 1, 0, 0), (89, .ifCond .le 41, 3, 130, 0), (92, .lload_n 2, 1, 0, 0), (93, .aload_n 0, 1, 0, 0), (94, .getfield 77, 3, 911, 314), (97, .getfield 319, 3, 102, 270), (100, .iload 4, 2, 0, 0), (102, .laload, 1, 0, 0), (103, .aload_n 0, 1, 0, 0), (104, .getfield 21, 3, 902, 305), (107, .aload_n 0, 1, 0, 0), (108, .getfield 21, 3, 902, 305), (111, .aload_n 0, 1, 0, 0), (112, .getfield 21, 3, 902, 305), (115, .getfield 161, 3, 303, 111), (118, .iload 4, 2, 0, 0), (120, .invokevirtual 204, 3, 31, 597), (123, .invokevirtual 259, 3, 40, 682), (126, .i2l, 1, 0, 0), (127, .lmul, 1, 0, 0), (128, .ladd, 1, 0, 0), (129, .lstore_n 2, 1, 0, 0), (130, .iinc 4 1, 3, 0, 0), (133, .goto (-62), 3, 71, 0), (136, .aload_n 0, 1, 0, 0), (137, .getfield 77, 3, 911, 314), (140, .lload_n 2, 1, 0, 0), (141, .invokevirtual 323, 3, 12, 841), (144, .iconst 1, 1, 0, 0), (145, .ireturn, 1, 0, 0)]
def rw_115 : List Row := [(0, .iload_n 1, 1, 0, 0), (1, .iconst 1, 1, 0, 0), (2, .if_icmp .lt 21, 3, 23, 0), (5, .iload_n 1, 1, 0, 0), (6, .bipush 20, 2, 0, 0), (8, .if_icmp .gt 15, 3, 23, 0), (11, .iload_n 2, 1, 0, 0), (12, .iconst 1, 1, 0, 0), (13, .if_icmp .lt 10, 3, 23, 0), (16, .iload_n 2, 1, 0, 0), (17, .ldc_w 327, 3, 2147483647, 856), (20, .if_icmp .lt 5, 3, 25, 0), (23, .iconst (-1), 1, 0, 0), (24, .ireturn, 1, 0, 0), (25, .aload_n 0, 1, 0, 0), (26, .getfield 21, 3, 902, 305), (29, .invokevirtual 194, 3, 26, 558), (32, .ifCond .eq 6, 3, 38, 0), (35, .bipush (-4), 2, 0, 0), (37, .ireturn, 1, 0, 0), (38, .aload_n 0, 1, 0, 0), (39, .getfield 21, 3, 902, 305), (42, .getfield 197, 3, 306, 119), (45, .bipush 40, 2, 0, 0), (47, .iload_n 1, 1, 0, 0), (48, .isub, 1, 0, 0), (49, .if_icmp .le 6, 3, 55, 0), (52, .bipush (-2), 2, 0, 0), (54, .ireturn, 1, 0, 0), (55, .iload_n 2, 1, 0, 0), (56, .istore_n 3, 1, 0, 0), (57, .iconst 0, 1, 0, 0), (58, .istore 4, 2, 0, 0), (60, .iload 4, 2, 0, 0), (62, .iload_n 1, 1, 0, 0), (63, .if_icmp .ge 50, 3, 113, 0), (66, .ldc2_w 328, 3, 48271, 857), (69, .iload_n 3, 1, 0, 0), (70, .i2l, 1, 0, 0), (71, .lmul, 1, 0, 0), (72, .ldc2_w 330, 3, 2147483647, 858), (75, .lrem, 1, 0, 0), (76, .l2i, 1, 0, 0), (77, .istore_n 3, 1, 0, 0), (78, .iload_n 3, 1, 0, 0), (79, .iconst 3, 1, 0, 0), (80, .irem, 1, 0, 0), (81, .ifCond .ne 21, 3, 102, 0), (84, .aload_n 0, 1, 0, 0), (85, .getfield 21, 3, 902, 305), (88, .iconst 1, 1, 0, 0), (89, .iload_n 3, 1, 0, 0), (90, .bipush 8, 2, 0, 0), (92, .idiv, 1, 0, 0), (93, .iconst 4, 1, 0, 0), (94, .irem, 1, 0, 0), (95, .iadd, 1, 0, 0), (96, .invokevirtual 207, 3, 45, 598), (99, .goto 8, 3, 107, 0), (102, .aload_n 0, 1, 0, 0), (103, .invokevirtual 200, 3, 133, 562), (106, .pop, 1, 0, 0), (107, .iinc 4 1, 3, 0, 0), (110, .goto (-50), 3, 60, 0), (113, .aload_n 0, 1, 0, 0), (114, .getfield 21, 3, 902, 305), (117, .getfield 161, 3, 303, 111), (120, .ireturn, 1, 0, 0)]
def rw_116 : List Row := [(0, .aload_n 0, 1, 0, 0), (1, .getfield 89, 3, 914, 317), (4, .ireturn, 1, 0, 0)]
def rw_117 : List Row := [(0, .aload_n 0, 1, 0, 0), (1, .getfield 77, 3, 911, 314), (4, .getfield 332, 3, 100, 266), (7, .lreturn, 1, 0, 0)]
def rw_118 : List Row := [(0, .aload_n 0, 1, 0, 0), (1, .getfield 77, 3, 911, 314), (4, .getfield 336, 3, 101, 268), (7, .lreturn, 1, 0, 0)]
def rw_119 : List Row := [(0, .iload_n 1, 1, 0, 0), (1, .tableswitch 144 0 10 #[59, 67, 75, 83, 91, 99, 107, 115, 123, 131, 139], 59, 0, 0), (60, .aload_n 0, 1, 0, 0), (61, .getfield 21, 3, 902, 305), (64, .getfield 148, 3, 302, 105), (67, .ireturn, 1, 0, 0), (68, .aload_n 0, 1, 0, 0), (69, .getfield 21, 3, 902, 305), (72, .invokevirtual 309, 3, 27, 778), (75, .ireturn, 1, 0, 0), (76, .aload_n 0, 1, 0, 0), (77, .getfield 21, 3, 902, 305), (80, .getfield 161, 3, 303, 111), (83, .ireturn, 1, 0, 0), (84, .aload_n 0, 1, 0, 0), (85, .getfield 21, 3, 902, 305), (88, .getfield 197, 3, 306, 119), (91, .ireturn, 1, 0, 0), (92, .aload_n 0, 1, 0, 0), (93, .getfield 21, 3, 902, 305), (96, .getfield 339, 3, 305, 117), (99, .ireturn, 1, 0, 0), (100, .aload_n 0, 1, 0, 0), (101, .getfield 21, 3, 902, 305), (104, .getfield 219, 3, 304, 115), (107, .ireturn, 1, 0, 0), (108, .aload_n 0, 1, 0, 0), (109, .getfield 21, 3, 902, 305), (112, .invokevirtual 341, 3, 42, 875), (115, .ireturn, 1, 0, 0), (116, .aload_n 0, 1, 0, 0), (117, .getfield 21, 3, 902, 305), (120, .invokevirtual 344, 3, 43, 876), (123, .ireturn, 1, 0, 0), (124, .aload_n 0, 1, 0, 0), (125, .getfield 11, 3, 900, 303), (128, .invokestatic 347, 3, 134, 881), (131, .ireturn, 1, 0, 0), (132, .aload_n 0, 1, 0, 0), (133, .getfield 15, 3, 901, 304), (136, .invokestatic 347, 3, 134, 881), (139, .ireturn, 1, 0, 0), (140, .aload_n 0, 1, 0, 0), (141, .invokevirtual 351, 3, 135, 884), (144, .ireturn, 1, 0, 0), (145, .iconst (-1), 1, 0, 0), (146, .ireturn, 1, 0, 0)]
def rw_120 : List Row := [(0, .aload_n 0, 1, 0, 0), (1, .getfield 85, 3, 913, 316), (4, .ireturn, 1, 0, 0)]
def rw_121 : List Row := [(0, .iload_n 1, 1, 0, 0), (1, .iconst 1, 1, 0, 0), (2, .if_icmp .lt 8, 3, 10, 0), (5, .iload_n 1, 1, 0, 0), (6, .iconst 5, 1, 0, 0), (7, .if_icmp .le 7, 3, 14, 0), (10, .iconst (-1), 1, 0, 0), (11, .goto 9, 3, 20, 0), (14, .aload_n 0, 1, 0, 0), (15, .getfield 81, 3, 912, 315), (18, .iload_n 1, 1, 0, 0), (19, .iaload, 1, 0, 0), (20, .ireturn, 1, 0, 0)]
def rw_122 : List Row := [(0, .ldc2_w 354, 3, 17, 900), (3, .lstore_n 1, 1, 0, 0), (4, .iconst 0, 1, 0, 0), (5, .istore_n 3, 1, 0, 0), (6, .iload_n 3, 1, 0, 0), (7, .bipush 11, 2, 0, 0), (9, .if_icmp .ge 22, 3, 31, 0), (12, .ldc2_w 356, 3, 31, 901), (15, .lload_n 1, 1, 0, 0), (16, .lmul, 1, 0, 0), (17, .aload_n 0, 1, 0, 0), (18, .iload_n 3, 1, 0, 0), (19, .invokevirtual 358, 3, 119, 902), (22, .i2l, 1, 0, 0), (23, .ladd, 1, 0, 0), (24, .lstore_n 1, 1, 0, 0), (25, .iinc 3 1, 3, 0, 0), (28, .goto (-22), 3, 6, 0), (31, .iconst 0, 1, 0, 0), (32, .istore_n 3, 1, 0, 0), (33, .iload_n 3, 1, 0, 0), (34, .aload_n 0, 1, 0, 0), (35, .getfield 21, 3, 902, 305), (38, .getfield 148, 3, 302, 105), (41, .if_icmp .ge 39, 3, 80, 0), (44, .iconst 0, 1, 0, 0), (45, .istore 4, 2, 0, 0), (47, .iload 4, 2, 0, 0), (49, .iconst 4, 1, 0, 0), (50, .if_icmp .gt 24, 3, 74, 0), (53, .ldc2_w 356, 3, 31, 901), (56, .lload_n 1, 1, 0, 0), (57, .lmul, 1, 0, 0), (58, .aload_n 0, 1, 0, 0), (59, .iload_n 3, 1, 0, 0), (60, .iload 4, 2, 0, 0), (62, .invokevirtual 154, 3, 131, 480), (65, .i2l, 1, 0, 0), (66, .ladd, 1, 0, 0), (67, .lstore_n 1, 1, 0, 0), (68, .iinc 4 1, 3, 0, 0), (71, .goto (-24), 3, 47, 0), (74, .iinc 3 1, 3, 0, 0), (77, .goto (-44), 3, 33, 0), (80, .iconst 0, 1, 0, 0), (81, .istore_n 3, 1, 0, 0), (82, .iload_n 3, 1, 0, 0), (83, .iconst 3, 1, 0, 0), (84, .if_icmp .ge 42, 3, 126, 0), (87, .ldc2_w 356, 3, 31, 901), (90, .lload_n 1, 1, 0, 0), (91, .lmul, 1, 0, 0), (92, .aload_n 0, 1, 0, 0), (93, .getfield 28, 3, 904, 307), (96, .iload_n 3, 1, 0, 0), (97, .aaload, 1, 0, 0), (98, .invokevirtual 194, 3, 26, 558), (101, .ifCond .eq 7, 3, 108, 0), (104, .iconst (-1), 1, 0, 0), (105, .goto 12, 3, 117, 0), (108, .aload_n 0, 1, 0, 0), (109, .getfield 28, 3, 904, 307), (112, .iload_n 3, 1, 0, 0), (113, .aaload, 1, 0, 0), (114, .getfield 197, 3, 306, 119), (117, .i2l, 1, 0, 0), (118, .ladd, 1, 0, 0), (119, .lstore_n 1, 1, 0, 0), (120, .iinc 3 1, 3, 0, 0), (123, .goto (-41), 3, 82, 0), (126, .iconst 0, 1, 0, 0), (127, .istore_n 3, 1, 0, 0), (128, .iload_n 3, 1, 0, 0), (129, .bipush 6, 2, 0, 0), (131, .if_icmp .ge 20, 3, 151, 0), (134, .aload_n 0, 1, 0, 0), (135, .getfield 11, 3, 900, 303), (138, .iload_n 3, 1, 0, 0), (139, .aaload, 1, 0, 0), (140, .lload_n 1, 1, 0, 0), (141, .invokevirtual 361, 3, 74, 903), (144, .lstore_n 1, 1, 0, 0), (145, .iinc 3 1, 3, 0, 0), (148, .goto (-20), 3, 128, 0), (151, .iconst 0, 1, 0, 0), (152, .istore_n 3, 1, 0, 0), (153, .iload_n 3, 1, 0, 0), (154, .iconst 4, 1, 0, 0), (155, .if_icmp .ge 20, 3, 175, 0), (158, .aload_n 0, 1, 0, 0), (159, .getfield 15, 3, 901, 304), (162, .iload_n 3, 1, 0, 0), (163, .aaload, 1, 0, 0), (164, .lload_n 1, 1, 0, 0), (165, .invokevirtual 361, 3, 74, 903), (168, .lstore_n 1, 1, 0, 0), (169, .iinc 3 1, 3, 0, 0), (172, .goto (-19), 3, 153, 0), (175, .lload_n 1, 1, 0, 0), (176, .lreturn, 1, 0, 0)]
def rw_123 : List Row := [(0, .iload_n 0, 1, 0, 0), (1, .ifCond .lt 13, 3, 14, 0), (4, .iload_n 0, 1, 0, 0), (5, .bipush 6, 2, 0, 0), (7, .if_icmp .ge 7, 3, 14, 0), (10, .iconst 1, 1, 0, 0), (11, .goto 4, 3, 15, 0), (14, .iconst 0, 1, 0, 0), (15, .ireturn, 1, 0, 0)]
def rw_124 : List Row := [(0, .iload_n 0, 1, 0, 0), (1, .ifCond .lt 12, 3, 13, 0), (4, .iload_n 0, 1, 0, 0), (5, .iconst 4, 1, 0, 0), (6, .if_icmp .ge 7, 3, 13, 0), (9, .iconst 1, 1, 0, 0), (10, .goto 4, 3, 14, 0), (13, .iconst 0, 1, 0, 0), (14, .ireturn, 1, 0, 0)]
def rw_125 : List Row := [(0, .iload_n 0, 1, 0, 0), (1, .ifCond .lt 12, 3, 13, 0), (4, .iload_n 0, 1, 0, 0), (5, .iconst 5, 1, 0, 0), (6, .if_icmp .ge 7, 3, 13, 0), (9, .iconst 1, 1, 0, 0), (10, .goto 4, 3, 14, 0), (13, .iconst 0, 1, 0, 0), (14, .ireturn, 1, 0, 0)]
def rw_126 : List Row := [(0, .aload_n 0, 1, 0, 0), (1, .iload_n 1, 1, 0, 0), (2, .putfield 85, 3, 913, 316), (5, .iload_n 1, 1, 0, 0), (6, .iconst 1, 1, 0, 0), (7, .if_icmp .lt 18, 3, 25, 0), (10, .iload_n 1, 1, 0, 0), (11, .iconst 5, 1, 0, 0), (12, .if_icmp .gt 13, 3, 25, 0), (15, .aload_n 0, 1, 0, 0), (16, .getfield 81, 3, 912, 315), (19, .iload_n 1, 1, 0, 0), (20, .dup2, 1, 0, 0), (21, .iaload, 1, 0, 0), (22, .iconst 1, 1, 0, 0), (23, .iadd, 1, 0, 0), (24, .iastore, 1, 0, 0), (25, .bipush (-3), 2, 0, 0), (27, .ireturn, 1, 0, 0)]
def rw_127 : List Row := [(0, .aload_n 1, 1, 0, 0), (1, .invokevirtual 114, 3, 70, 375), (4, .ifCond .eq 9, 3, 13, 0), (7, .aload_n 0, 1, 0, 0), (8, .iconst 1, 1, 0, 0), (9, .invokevirtual 99, 3, 126, 356), (12, .ireturn, 1, 0, 0), (13, .iload_n 2, 1, 0, 0), (14, .ifCond .lt 11, 3, 25, 0), (17, .iload_n 2, 1, 0, 0), (18, .aload_n 1, 1, 0, 0), (19, .getfield 131, 3, 701, 297), (22, .if_icmp .lt 11, 3, 33, 0), (25, .aload_n 0, 1, 0, 0), (26, .iconst 2, 1, 0, 0), (27, .invokevirtual 99, 3, 126, 356), (30, .goto 4, 3, 34, 0), (33, .iconst 0, 1, 0, 0), (34, .ireturn, 1, 0, 0)]
def rw_128 : List Row := [(0, .iload_n 1, 1, 0, 0), (1, .invokestatic 95, 3, 123, 353), (4, .ifCond .ne 5, 3, 9, 0), (7, .iconst (-1), 1, 0, 0), (8, .ireturn, 1, 0, 0), (9, .aload_n 0, 1, 0, 0), (10, .getfield 21, 3, 902, 305), (13, .invokevirtual 194, 3, 26, 558), (16, .ifCond .eq 8, 3, 24, 0), (19, .bipush (-4), 2, 0, 0), (21, .goto 20, 3, 41, 0), (24, .aload_n 0, 1, 0, 0), (25, .aload_n 0, 1, 0, 0), (26, .getfield 11, 3, 900, 303), (29, .iload_n 1, 1, 0, 0), (30, .aaload, 1, 0, 0), (31, .aload_n 0, 1, 0, 0), (32, .getfield 21, 3, 902, 305), (35, .getfield 148, 3, 302, 105), (38, .invokevirtual 365, 3, 130, 733), (41, .ireturn, 1, 0, 0)]
def rw_129 : List Row := [(0, .aload_n 0, 1, 0, 0), (1, .getfield 21, 3, 902, 305), (4, .iload_n 1, 1, 0, 0), (5, .invokevirtual 151, 3, 29, 476), (8, .ifCond .eq 30, 3, 38, 0), (11, .iload_n 2, 1, 0, 0), (12, .invokestatic 95, 3, 123, 353), (15, .ifCond .eq 23, 3, 38, 0), (18, .aload_n 0, 1, 0, 0), (19, .aload_n 0, 1, 0, 0), (20, .getfield 11, 3, 900, 303), (23, .iload_n 2, 1, 0, 0), (24, .aaload, 1, 0, 0), (25, .aload_n 0, 1, 0, 0), (26, .getfield 21, 3, 902, 305), (29, .invokevirtual 309, 3, 27, 778), (32, .invokevirtual 365, 3, 130, 733), (35, .goto 4, 3, 39, 0), (38, .iconst (-1), 1, 0, 0), (39, .ireturn, 1, 0, 0)]
def rw_130 : List Row := [(0, .aload_n 1, 1, 0, 0), (1, .invokevirtual 114, 3, 70, 375), (4, .ifCond .eq 9, 3, 13, 0), (7, .aload_n 0, 1, 0, 0), (8, .iconst 1, 1, 0, 0), (9, .invokevirtual 99, 3, 126, 356), (12, .ireturn, 1, 0, 0), (13, .aload_n 1, 1, 0, 0), (14, .getfield 131, 3, 701, 297), (17, .iconst 2, 1, 0, 0), (18, .irem, 1, 0, 0), (19, .ifCond .eq 9, 3, 28, 0), (22, .aload_n 0, 1, 0, 0), (23, .iconst 5, 1, 0, 0), (24, .invokevirtual 99, 3, 126, 356), (27, .ireturn, 1, 0, 0), (28, .iconst 0, 1, 0, 0), (29, .istore_n 3, 1, 0, 0), (30, .iload_n 3, 1, 0, 0), (31, .iconst 1, 1, 0, 0), (32, .iadd, 1, 0, 0), (33, .aload_n 1, 1, 0, 0), (34, .getfield 131, 3, 701, 297), (37, .if_icmp .ge 56, 3, 93, 0), (40, .aload_n 1, 1, 0, 0), (41, .getfield 111, 3, 700, 292), (44, .iload_n 3, 1, 0, 0), (45, .iaload, 1, 0, 0), (46, .istore 4, 2, 0, 0), (48, .aload_n 1, 1, 0, 0), (49, .getfield 111, 3, 700, 292), (52, .iload_n 3, 1, 0, 0), (53, .iconst 1, 1, 0, 0), (54, .iadd, 1, 0, 0), (55, .iaload, 1, 0, 0), (56, .istore 5, 2, 0, 0), (58, .iload 4, 2, 0, 0), (60, .ifCond .lt 21, 3, 81, 0), (63, .iload 4, 2, 0, 0), (65, .iload_n 2, 1, 0, 0), (66, .if_icmp .ge 15, 3, 81, 0), (69, .iload 5, 2, 0, 0), (71, .ifCond .lt 10, 3, 81, 0), (74, .iload 5, 2, 0, 0), (76, .bipush 30, 2, 0, 0), (78, .if_icmp .le 9, 3, 87, 0), (81, .aload_n 0, 1, 0, 0), (82, .iconst 3, 1, 0, 0), (83, .invokevirtual 99, 3, 126, 356), (86, .ireturn, 1, 0, 0), (87, .iinc 3 2, 3, 0, 0), (90, .goto (-60), 3, 30, 0), (93, .iconst 0, 1, 0, 0), (94, .ireturn, 1, 0, 0)]
def rw_131 : List Row := [(0, .iload_n 2, 1, 0, 0), (1, .tableswitch 77 0 3 #[31, 41, 51, 61], 31, 0, 0), (32, .aload_n 0, 1, 0, 0), (33, .getfield 21, 3, 902, 305), (36, .getfield 368, 3, 307, 121), (39, .iload_n 1, 1, 0, 0), (40, .iaload, 1, 0, 0), (41, .ireturn, 1, 0, 0), (42, .aload_n 0, 1, 0, 0), (43, .getfield 21, 3, 902, 305), (46, .getfield 167, 3, 308, 123), (49, .iload_n 1, 1, 0, 0), (50, .iaload, 1, 0, 0), (51, .ireturn, 1, 0, 0), (52, .aload_n 0, 1, 0, 0), (53, .getfield 21, 3, 902, 305), (56, .getfield 371, 3, 309, 126), (59, .iload_n 1, 1, 0, 0), (60, .iaload, 1, 0, 0), (61, .ireturn, 1, 0, 0), (62, .aload_n 0, 1, 0, 0), (63, .getfield 21, 3, 902, 305), (66, .iload_n 1, 1, 0, 0), (67, .aload_n 0, 1, 0, 0), (68, .getfield 21, 3, 902, 305), (71, .getfield 161, 3, 303, 111), (74, .invokevirtual 176, 3, 36, 484), (77, .ireturn, 1, 0, 0), (78, .aload_n 0, 1, 0, 0), (79, .getfield 21, 3, 902, 305), (82, .iload_n 1, 1, 0, 0), (83, .aload_n 0, 1, 0, 0), (84, .getfield 21, 3, 902, 305), (87, .getfield 161, 3, 303, 111), (90, .aload_n 0, 1, 0, 0), (91, .getfield 21, 3, 902, 305), (94, .getfield 219, 3, 304, 115), (97, .invokestatic 374, 3, 3, 502), (100, .ireturn, 1, 0, 0)]
def rw_132 : List Row := [(0, .iconst 0, 1, 0, 0), (1, .istore_n 2, 1, 0, 0), (2, .iconst 0, 1, 0, 0), (3, .istore_n 3, 1, 0, 0), (4, .iload_n 3, 1, 0, 0), (5, .aload_n 0, 1, 0, 0), (6, .getfield 21, 3, 902, 305), (9, .getfield 148, 3, 302, 105), (12, .if_icmp .ge 28, 3, 40, 0), (15, .iload_n 3, 1, 0, 0), (16, .iload_n 1, 1, 0, 0), (17, .if_icmp .eq 17, 3, 34, 0), (20, .aload_n 0, 1, 0, 0), (21, .iload_n 3, 1, 0, 0), (22, .iconst 4, 1, 0, 0), (23, .invokevirtual 154, 3, 131, 480), (26, .bipush (-9), 2, 0, 0), (28, .if_icmp .ne 6, 3, 34, 0), (31, .iinc 2 1, 3, 0, 0), (34, .iinc 3 1, 3, 0, 0), (37, .goto (-33), 3, 4, 0), (40, .iload_n 2, 1, 0, 0), (41, .ireturn, 1, 0, 0)]
def rw_133 : List Row := [(0, .aload_n 0, 1, 0, 0), (1, .getfield 42, 3, 906, 309), (4, .aload_n 0, 1, 0, 0), (5, .getfield 21, 3, 902, 305), (8, .aload_n 0, 1, 0, 0), (9, .getfield 21, 3, 902, 305), (12, .getfield 161, 3, 303, 111), (15, .aload_n 0, 1, 0, 0), (16, .getfield 21, 3, 902, 305), (19, .getfield 219, 3, 304, 115), (22, .invokevirtual 222, 3, 2, 566), (25, .aload_n 0, 1, 0, 0), (26, .getfield 42, 3, 906, 309), (29, .invokevirtual 236, 3, 5, 575), (32, .istore_n 1, 1, 0, 0), (33, .aload_n 0, 1, 0, 0), (34, .getfield 21, 3, 902, 305), (37, .iload_n 1, 1, 0, 0), (38, .invokevirtual 377, 3, 44, 579), (41, .iload_n 1, 1, 0, 0), (42, .ireturn, 1, 0, 0)]
def rw_134 : List Row := [(0, .iconst 0, 1, 0, 0), (1, .istore_n 1, 1, 0, 0), (2, .iconst 0, 1, 0, 0), (3, .istore_n 2, 1, 0, 0), (4, .iload_n 2, 1, 0, 0), (5, .aload_n 0, 1, 0, 0), (6, .arraylength, 1, 0, 0), (7, .if_icmp .ge 26, 3, 33, 0), (10, .iload_n 1, 1, 0, 0), (11, .aload_n 0, 1, 0, 0), (12, .iload_n 2, 1, 0, 0), (13, .aaload, 1, 0, 0), (14, .invokevirtual 114, 3, 70, 375), (17, .ifCond .eq 7, 3, 24, 0), (20, .iconst 0, 1, 0, 0), (21, .goto 4, 3, 25, 0), (24, .iconst 1, 1, 0, 0), (25, .iadd, 1, 0, 0), (26, .istore_n 1, 1, 0, 0), (27, .iinc 2 1, 3, 0, 0), (30, .goto (-26), 3, 4, 0), (33, .iload_n 1, 1, 0, 0), (34, .ireturn, 1, 0, 0)]
def rw_135 : List Row := [(0, .iconst 0, 1, 0, 0), (1, .istore_n 1, 1, 0, 0), (2, .iconst 0, 1, 0, 0), (3, .istore_n 2, 1, 0, 0), (4, .iload_n 2, 1, 0, 0), (5, .iconst 3, 1, 0, 0), (6, .if_icmp .ge 29, 3, 35, 0), (9, .iload_n 1, 1, 0, 0), (10, .aload_n 0, 1, 0, 0), (11, .getfield 28, 3, 904, 307), (14, .iload_n 2, 1, 0, 0), (15, .aaload, 1, 0, 0), (16, .invokevirtual 194, 3, 26, 558), (19, .ifCond .eq 7, 3, 26, 0), (22, .iconst 0, 1, 0, 0), (23, .goto 4, 3, 27, 0), (26, .iconst 1, 1, 0, 0), (27, .iadd, 1, 0, 0), (28, .istore_n 1, 1, 0, 0), (29, .iinc 2 1, 3, 0, 0), (32, .goto (-28), 3, 4, 0), (35, .iload_n 1, 1, 0, 0), (36, .ireturn, 1, 0, 0)]
def rw_136 : List Row := [(0, .aload_n 0, 1, 0, 0), (1, .invokespecial 1, 3, (-1), 913), (4, .aload_n 0, 1, 0, 0), (5, .bipush 6, 2, 0, 0), (7, .newarray .int, 2, 0, 163), (9, .putfield 7, 3, 1001, 915), (12, .aload_n 0, 1, 0, 0), (13, .lconst 1, 1, 0, 0), (14, .putfield 13, 3, 1004, 918), (17, .aload_n 0, 1, 0, 0), (18, .bipush 6, 2, 0, 0), (20, .newarray .int, 2, 0, 163), (22, .putfield 17, 3, 1005, 919), (25, .aload_n 0, 1, 0, 0), (26, .sipush 240, 3, 0, 0), (29, .newarray .int, 2, 0, 163), (31, .putfield 20, 3, 1006, 920), (34, .aload_n 0, 1, 0, 0), (35, .bipush 40, 2, 0, 0), (37, .newarray .int, 2, 0, 163), (39, .putfield 23, 3, 1007, 921), (42, .aload_n 0, 1, 0, 0), (43, .iconst 4, 1, 0, 0), (44, .newarray .int, 2, 0, 163), (46, .putfield 26, 3, 1008, 922), (49, .aload_n 0, 1, 0, 0), (50, .sipush 240, 3, 0, 0), (53, .newarray .byte, 2, 0, 1029), (55, .putfield 29, 3, 1009, 923), (58, .aload_n 0, 1, 0, 0), (59, .bipush 6, 2, 0, 0), (61, .newarray .int, 2, 0, 163), (63, .putfield 33, 3, 1013, 927), (66, .aload_n 0, 1, 0, 0), (67, .bipush 6, 2, 0, 0), (69, .newarray .int, 2, 0, 163), (71, .putfield 36, 3, 1014, 928), (74, .aload_n 0, 1, 0, 0), (75, .bipush 9, 2, 0, 0), (77, .newarray .int, 2, 0, 163), (79, .putfield 39, 3, 1015, 929), (82, .aload_n 0, 1, 0, 0), (83, .bipush 9, 2, 0, 0), (85, .newarray .int, 2, 0, 163), (87, .putfield 42, 3, 1016, 930), (90, .aload_n 0, 1, 0, 0), (91, .iconst 4, 1, 0, 0), (92, .newarray .int, 2, 0, 163), (94, .putfield 45, 3, 1020, 934), (97, .aload_n 0, 1, 0, 0), (98, .bipush 24, 2, 0, 0), (100, .newarray .int, 2, 0, 163), (102, .putfield 48, 3, 1021, 935), (105, .aload_n 0, 1, 0, 0), (106, .iconst 5, 1, 0, 0), (107, .newarray .int, 2, 0, 163), (109, .putfield 51, 3, 1022, 936), (112, .aload_n 0, 1, 0, 0), (113, .sipush 360, 3, 0, 0), (116, .newarray .int, 2, 0, 163), (118, .putfield 54, 3, 1024, 938), (121, .aload_n 0, 1, 0, 0), (122, .iconst 3, 1, 0, 0), (123, .newarray .boolean, 2, 0, 1030), (125, .putfield 57, 3, 1025, 939), (128, .aload_n 0, 1, 0, 0), (129, .iconst 3, 1, 0, 0), (130, .newarray .int, 2, 0, 163), (132, .putfield 61, 3, 1026, 940), (135, .aload_n 0, 1, 0, 0), (136, .bipush 27, 2, 0, 0), (138, .newarray .int, 2, 0, 163), (140, .putfield 64, 3, 1027, 941), (143, .aload_n 0, 1, 0, 0), (144, .sipush 1080, 3, 0, 0), (147, .newarray .int, 2, 0, 163), (149, .putfield 67, 3, 1028, 942), (152, .aload_n 0, 1, 0, 0), (153, .bipush 125, 2, 0, 0), (155, .newarray .int, 2, 0, 163), (157, .putfield 70, 3, 1029, 943), (160, .aload_n 0, 1, 0, 0), (161, .iconst 5, 1, 0, 0), (162, .newarray .int, 2, 0, 163), (164, .putfield 73, 3, 1030, 944), (167, .aload_n 0, 1, 0, 0), (168, .bipush 25, 2, 0, 0), (170, .newarray .int, 2, 0, 163), (172, .putfield 76, 3, 1031, 945), (175, .aload_n 0, 1, 0, 0), (176, .bipush 25, 2, 0, 0), (178, .newarray .int, 2, 0, 163), (180, .putfield 79, 3, 1032, 946), (183, .aload_n 0, 1, 0, 0), (184, .bipush 25, 2, 0, 0), (186, .newarray .int, 2, 0, 163), (188, .putfield 82, 3, 1033, 947), (191, .iconst 0, 1, 0, 0), (192, .istore_n 1, 1, 0, 0), (193, .iload_n 1, 1, 0, 0), (194, .bipush 6, 2, 0, 0), (196, .if_icmp .ge 16, 3, 212, 0), (199, .aload_n 0, 1, 0, 0), (200, .getfield 17, 3, 1005, 919), (203, .iload_n 1, 1, 0, 0), (204, .iconst (-1), 1, 0, 0), (205, .iastore, 1, 0, 0), (206, .iinc 1 1, 3, 0, 0), (209, .goto (-16), 3, 193, 0), (212, .iconst 0, 1, 0, 0), (213, .istore_n 1, 1, 0, 0), (214, .iload_n 1, 1, 0, 0), (215, .iconst 4, 1, 0, 0), (216, .if_icmp .ge 16, 3, 232, 0), (219, .aload_n 0, 1, 0, 0), (220, .getfield 26, 3, 1008, 922), (223, .iload_n 1, 1, 0, 0), (224, .iconst (-1), 1, 0, 0), (225, .iastore, 1, 0, 0), (226, .iinc 1 1, 3, 0, 0), (229, .goto (-15), 3, 214, 0), (232, .return_, 1, 0, 0)]
def rw_137 : List Row := [(0, .iload_n 0, 1, 0, 0), (1, .iload_n 1, 1, 0, 0), (2, .if_icmp .lt 12, 3, 14, 0), (5, .iload_n 0, 1, 0, 0), (6, .iload_n 2, 1, 0, 0), (7, .if_icmp .gt 7, 3, 14, 0), (10, .iconst 1, 1, 0, 0), (11, .goto 4, 3, 15, 0), (14, .iconst 0, 1, 0, 0), (15, .ireturn, 1, 0, 0)]
def rw_138 : List Row := [(0, .iload_n 0, 1, 0, 0), (1, .iload_n 1, 1, 0, 0), (2, .ishr, 1, 0, 0), (3, .iconst 1, 1, 0, 0), (4, .iand, 1, 0, 0), (5, .iconst 1, 1, 0, 0), (6, .if_icmp .ne 7, 3, 13, 0), (9, .iconst 1, 1, 0, 0), (10, .goto 4, 3, 14, 0), (13, .iconst 0, 1, 0, 0), (14, .ireturn, 1, 0, 0)]
def rw_139 : List Row := [(0, .iconst 0, 1, 0, 0), (1, .istore_n 1, 1, 0, 0), (2, .iload_n 0, 1, 0, 0), (3, .istore_n 2, 1, 0, 0), (4, .iload_n 2, 1, 0, 0), (5, .ifCond .eq 15, 3, 20, 0), (8, .iinc 1 1, 3, 0, 0), (11, .iload_n 2, 1, 0, 0), (12, .iload_n 2, 1, 0, 0), (13, .iconst 1, 1, 0, 0), (14, .isub, 1, 0, 0), (15, .iand, 1, 0, 0), (16, .istore_n 2, 1, 0, 0), (17, .goto (-13), 3, 4, 0), (20, .iload_n 1, 1, 0, 0), (21, .ireturn, 1, 0, 0)]
def rw_140 : List Row := [(0, .aload_n 0, 1, 0, 0), (1, .iload_n 1, 1, 0, 0), (2, .putfield 85, 3, 1000, 914), (5, .aload_n 0, 1, 0, 0), (6, .getfield 7, 3, 1001, 915), (9, .iload_n 1, 1, 0, 0), (10, .dup2, 1, 0, 0), (11, .iaload, 1, 0, 0), (12, .iconst 1, 1, 0, 0), (13, .iadd, 1, 0, 0), (14, .iastore, 1, 0, 0), (15, .bipush (-3), 2, 0, 0), (17, .ireturn, 1, 0, 0)]
def rw_141 : List Row := [(0, .aload_n 0, 1, 0, 0), (1, .getfield 85, 3, 1000, 914), (4, .ireturn, 1, 0, 0)]
def rw_142 : List Row := [(0, .iload_n 1, 1, 0, 0), (1, .iconst 1, 1, 0, 0), (2, .iconst 5, 1, 0, 0), (3, .invokestatic 89, 3, 137, 1039), (6, .ifCond .eq 12, 3, 18, 0), (9, .aload_n 0, 1, 0, 0), (10, .getfield 7, 3, 1001, 915), (13, .iload_n 1, 1, 0, 0), (14, .iaload, 1, 0, 0), (15, .goto 4, 3, 19, 0), (18, .iconst (-1), 1, 0, 0), (19, .ireturn, 1, 0, 0)]
def rw_143 : List Row := [(0, .aload_n 0, 1, 0, 0), (1, .iload_n 1, 1, 0, 0), (2, .putfield 93, 3, 1002, 916), (5, .iload_n 2, 1, 0, 0), (6, .ireturn, 1, 0, 0)]
def rw_144 : List Row := [(0, .aload_n 0, 1, 0, 0), (1, .getfield 93, 3, 1002, 916), (4, .ireturn, 1, 0, 0)]
def rw_145 : List Row := [(0, .lload_n 1, 1, 0, 0), (1, .lstore 5, 2, 0, 0), (3, .lload_n 3, 1, 0, 0), (4, .lstore 7, 2, 0, 0), (6, .lload 7, 2, 0, 0), (8, .lconst 0, 1, 0, 0), (9, .lcmp, 1, 0, 0), (10, .ifCond .eq 21, 3, 31, 0), (13, .lload 5, 2, 0, 0), (15, .lload 7, 2, 0, 0), (17, .lrem, 1, 0, 0), (18, .lstore 9, 2, 0, 0), (20, .lload 7, 2, 0, 0), (22, .lstore 5, 2, 0, 0), (24, .lload 9, 2, 0, 0), (26, .lstore 7, 2, 0, 0), (28, .goto (-22), 3, 6, 0), (31, .aload_n 0, 1, 0, 0), (32, .lload_n 1, 1, 0, 0), (33, .lload 5, 2, 0, 0), (35, .ldiv, 1, 0, 0), (36, .putfield 96, 3, 1003, 917), (39, .aload_n 0, 1, 0, 0), (40, .lload_n 3, 1, 0, 0), (41, .lload 5, 2, 0, 0), (43, .ldiv, 1, 0, 0), (44, .putfield 13, 3, 1004, 918), (47, .iconst 1, 1, 0, 0), (48, .ireturn, 1, 0, 0)]
def rw_146 : List Row := [(0, .aload_n 0, 1, 0, 0), (1, .getfield 96, 3, 1003, 917), (4, .lreturn, 1, 0, 0)]
def rw_147 : List Row := [(0, .aload_n 0, 1, 0, 0), (1, .getfield 13, 3, 1004, 918), (4, .lreturn, 1, 0, 0)]
def rw_148 : List Row := [(0, .iload_n 0, 1, 0, 0), (1, .iconst 0, 1, 0, 0), (2, .iconst 5, 1, 0, 0), (3, .invokestatic 89, 3, 137, 1039), (6, .ireturn, 1, 0, 0)]
def rw_149 : List Row := [(0, .aload_n 0, 1, 0, 0), (1, .getfield 20, 3, 1006, 920), (4, .bipush 40, 2, 0, 0), (6, .iload_n 1, 1, 0, 0), (7, .imul, 1, 0, 0), (8, .iload_n 2, 1, 0, 0), (9, .iadd, 1, 0, 0), (10, .iaload, 1, 0, 0), (11, .ireturn, 1, 0, 0)]
def rw_150 : List Row := [(0, .iload_n 1, 1, 0, 0), (1, .invokestatic 99, 3, 148, 1058), (4, .ifCond .eq 9, 3, 13, 0), (7, .iload_n 2, 1, 0, 0), (8, .bipush 40, 2, 0, 0), (10, .if_icmp .le 5, 3, 15, 0), (13, .iconst (-1), 1, 0, 0), (14, .ireturn, 1, 0, 0), (15, .iload_n 2, 1, 0, 0), (16, .ifCond .ge 9, 3, 25, 0), (19, .aload_n 0, 1, 0, 0), (20, .iconst 5, 1, 0, 0), (21, .invokevirtual 103, 3, 140, 1061), (24, .ireturn, 1, 0, 0), (25, .aload_n 0, 1, 0, 0), (26, .getfield 17, 3, 1005, 919), (29, .iload_n 1, 1, 0, 0), (30, .iload_n 2, 1, 0, 0), (31, .iastore, 1, 0, 0), (32, .iconst 0, 1, 0, 0), (33, .istore_n 3, 1, 0, 0), (34, .iload_n 3, 1, 0, 0), (35, .bipush 40, 2, 0, 0), (37, .if_icmp .ge 21, 3, 58, 0), (40, .aload_n 0, 1, 0, 0), (41, .getfield 20, 3, 1006, 920), (44, .bipush 40, 2, 0, 0), (46, .iload_n 1, 1, 0, 0), (47, .imul, 1, 0, 0), (48, .iload_n 3, 1, 0, 0), (49, .iadd, 1, 0, 0), (50, .iconst 0, 1, 0, 0), (51, .iastore, 1, 0, 0), (52, .iinc 3 1, 3, 0, 0), (55, .goto (-21), 3, 34, 0), (58, .iload_n 2, 1, 0, 0), (59, .ireturn, 1, 0, 0)]
def rw_151 : List Row := [(0, .iload_n 1, 1, 0, 0), (1, .invokestatic 99, 3, 148, 1058), (4, .ifCond .ne 5, 3, 9, 0), (7, .iconst (-1), 1, 0, 0), (8, .ireturn, 1, 0, 0), (9, .aload_n 0, 1, 0, 0), (10, .getfield 17, 3, 1005, 919), (13, .iload_n 1, 1, 0, 0), (14, .iaload, 1, 0, 0), (15, .ifCond .ge 9, 3, 24, 0), (18, .aload_n 0, 1, 0, 0), (19, .iconst 1, 1, 0, 0), (20, .invokevirtual 103, 3, 140, 1061), (23, .ireturn, 1, 0, 0), (24, .iload_n 2, 1, 0, 0), (25, .iconst 0, 1, 0, 0), (26, .aload_n 0, 1, 0, 0), (27, .getfield 17, 3, 1005, 919), (30, .iload_n 1, 1, 0, 0), (31, .iaload, 1, 0, 0), (32, .iconst 1, 1, 0, 0), (33, .isub, 1, 0, 0), (34, .invokestatic 89, 3, 137, 1039), (37, .ifCond .ne 9, 3, 46, 0), (40, .aload_n 0, 1, 0, 0), (41, .iconst 2, 1, 0, 0), (42, .invokevirtual 103, 3, 140, 1061), (45, .ireturn, 1, 0, 0), (46, .aload_n 0, 1, 0, 0), (47, .iload_n 1, 1, 0, 0), (48, .iload_n 2, 1, 0, 0), (49, .invokevirtual 107, 3, 149, 1069), (52, .istore 4, 2, 0, 0), (54, .aload_n 0, 1, 0, 0), (55, .getfield 20, 3, 1006, 920), (58, .bipush 40, 2, 0, 0), (60, .iload_n 1, 1, 0, 0), (61, .imul, 1, 0, 0), (62, .iload_n 2, 1, 0, 0), (63, .iadd, 1, 0, 0), (64, .iload_n 3, 1, 0, 0), (65, .iastore, 1, 0, 0), (66, .aload_n 0, 1, 0, 0), (67, .iload 4, 2, 0, 0), (69, .iconst 1, 1, 0, 0), (70, .invokevirtual 111, 3, 143, 1073), (73, .ireturn, 1, 0, 0)]
def rw_152 : List Row := [(0, .iload_n 1, 1, 0, 0), (1, .invokestatic 99, 3, 148, 1058), (4, .ifCond .ne 5, 3, 9, 0), (7, .iconst (-1), 1, 0, 0), (8, .ireturn, 1, 0, 0), (9, .aload_n 0, 1, 0, 0), (10, .getfield 17, 3, 1005, 919), (13, .iload_n 1, 1, 0, 0), (14, .iaload, 1, 0, 0), (15, .ifCond .ge 9, 3, 24, 0), (18, .aload_n 0, 1, 0, 0), (19, .iconst 1, 1, 0, 0), (20, .invokevirtual 103, 3, 140, 1061), (23, .ireturn, 1, 0, 0), (24, .iload_n 2, 1, 0, 0), (25, .iconst 0, 1, 0, 0), (26, .aload_n 0, 1, 0, 0), (27, .getfield 17, 3, 1005, 919), (30, .iload_n 1, 1, 0, 0), (31, .iaload, 1, 0, 0), (32, .iconst 1, 1, 0, 0), (33, .isub, 1, 0, 0), (34, .invokestatic 89, 3, 137, 1039), (37, .ifCond .eq 17, 3, 54, 0), (40, .aload_n 0, 1, 0, 0), (41, .aload_n 0, 1, 0, 0), (42, .iload_n 1, 1, 0, 0), (43, .iload_n 2, 1, 0, 0), (44, .invokevirtual 107, 3, 149, 1069), (47, .iconst 1, 1, 0, 0), (48, .invokevirtual 111, 3, 143, 1073), (51, .goto 8, 3, 59, 0), (54, .aload_n 0, 1, 0, 0), (55, .iconst 2, 1, 0, 0), (56, .invokevirtual 103, 3, 140, 1061), (59, .ireturn, 1, 0, 0)]
def rw_153 : List Row := [(0, .iload_n 1, 1, 0, 0), (1, .invokestatic 99, 3, 148, 1058), (4, .ifCond .ne 5, 3, 9, 0), (7, .iconst (-1), 1, 0, 0), (8, .ireturn, 1, 0, 0), (9, .aload_n 0, 1, 0, 0), (10, .getfield 17, 3, 1005, 919), (13, .iload_n 1, 1, 0, 0), (14, .iaload, 1, 0, 0), (15, .ifCond .ge 9, 3, 24, 0), (18, .aload_n 0, 1, 0, 0), (19, .iconst 1, 1, 0, 0), (20, .invokevirtual 103, 3, 140, 1061), (23, .ireturn, 1, 0, 0), (24, .aload_n 0, 1, 0, 0), (25, .getfield 17, 3, 1005, 919), (28, .iload_n 1, 1, 0, 0), (29, .iconst (-1), 1, 0, 0), (30, .iastore, 1, 0, 0), (31, .iconst 1, 1, 0, 0), (32, .ireturn, 1, 0, 0)]
def rw_154 : List Row := [(0, .iload_n 1, 1, 0, 0), (1, .invokestatic 99, 3, 148, 1058), (4, .ifCond .eq 10, 3, 14, 0), (7, .iload_n 3, 1, 0, 0), (8, .invokestatic 99, 3, 148, 1058), (11, .ifCond .ne 5, 3, 16, 0), (14, .iconst (-1), 1, 0, 0), (15, .ireturn, 1, 0, 0), (16, .iload 5, 2, 0, 0), (18, .ifCond .ge 9, 3, 27, 0), (21, .aload_n 0, 1, 0, 0), (22, .iconst 5, 1, 0, 0), (23, .invokevirtual 103, 3, 140, 1061), (26, .ireturn, 1, 0, 0), (27, .aload_n 0, 1, 0, 0), (28, .getfield 17, 3, 1005, 919), (31, .iload_n 1, 1, 0, 0), (32, .iaload, 1, 0, 0), (33, .ifCond .lt 12, 3, 45, 0), (36, .aload_n 0, 1, 0, 0), (37, .getfield 17, 3, 1005, 919), (40, .iload_n 3, 1, 0, 0), (41, .iaload, 1, 0, 0), (42, .ifCond .ge 9, 3, 51, 0), (45, .aload_n 0, 1, 0, 0), (46, .iconst 1, 1, 0, 0), (47, .invokevirtual 103, 3, 140, 1061), (50, .ireturn, 1, 0, 0), (51, .iload_n 2, 1, 0, 0), (52, .ifCond .lt 43, 3, 95, 0), (55, .iload 4, 2, 0, 0), (57, .ifCond .lt 38, 3, 95, 0), (60, .iload_n 2, 1, 0, 0), (61, .i2l, 1, 0, 0), (62, .iload 5, 2, 0, 0), (64, .i2l, 1, 0, 0), (65, .ladd, 1, 0, 0), (66, .aload_n 0, 1, 0, 0), (67, .getfield 17, 3, 1005, 919), (70, .iload_n 1, 1, 0, 0), (71, .iaload, 1, 0, 0), (72, .i2l, 1, 0, 0), (73, .lcmp, 1, 0, 0), (74, .ifCond .gt 21, 3, 95, 0), (77, .iload 4, 2, 0, 0), (79, .i2l, 1, 0, 0), (80, .iload 5, 2, 0, 0), (82, .i2l, 1, 0, 0), (83, .ladd, 1, 0, 0), (84, .aload_n 0, 1, 0, 0), (85, .getfield 17, 3, 1005, 919), (88, .iload_n 3, 1, 0, 0), (89, .iaload, 1, 0, 0), (90, .i2l, 1, 0, 0), (91, .lcmp, 1, 0, 0), (92, .ifCond .le 9, 3, 101, 0), (95, .aload_n 0, 1, 0, 0), (96, .iconst 2, 1, 0, 0), (97, .invokevirtual 103, 3, 140, 1061), (100, .ireturn, 1, 0, 0), (101, .iconst 0, 1, 0, 0), (102, .istore 6, 2, 0, 0), (104, .iload 6, 2, 0, 0), (106, .iload 5, 2, 0, 0), (108, .if_icmp .ge 25, 3, 133, 0), (111, .aload_n 0, 1, 0, 0), (112, .getfield 23, 3, 1007, 921), (115, .iload 6, 2, 0, 0), (117, .aload_n 0, 1, 0, 0), (118, .iload_n 1, 1, 0, 0), (119, .iload_n 2, 1, 0, 0), (120, .iload 6, 2, 0, 0), (122, .iadd, 1, 0, 0), (123, .invokevirtual 107, 3, 149, 1069), (126, .iastore, 1, 0, 0), (127, .iinc 6 1, 3, 0, 0), (130, .goto (-26), 3, 104, 0), (133, .iconst 0, 1, 0, 0), (134, .istore 6, 2, 0, 0), (136, .iload 6, 2, 0, 0), (138, .iload 5, 2, 0, 0), (140, .if_icmp .ge 31, 3, 171, 0), (143, .aload_n 0, 1, 0, 0), (144, .getfield 20, 3, 1006, 920), (147, .bipush 40, 2, 0, 0), (149, .iload_n 3, 1, 0, 0), (150, .imul, 1, 0, 0), (151, .iload 4, 2, 0, 0), (153, .iadd, 1, 0, 0), (154, .iload 6, 2, 0, 0), (156, .iadd, 1, 0, 0), (157, .aload_n 0, 1, 0, 0), (158, .getfield 23, 3, 1007, 921), (161, .iload 6, 2, 0, 0), (163, .iaload, 1, 0, 0), (164, .iastore, 1, 0, 0), (165, .iinc 6 1, 3, 0, 0), (168, .goto (-32), 3, 136, 0), (171, .iconst 1, 1, 0, 0), (172, .ireturn, 1, 0, 0)]
def rw_155 : List Row := [(0, .iload_n 1, 1, 0, 0), (1, .invokestatic 99, 3, 148, 1058), (4, .ifCond .ne 5, 3, 9, 0), (7, .iconst (-1), 1, 0, 0), (8, .ireturn, 1, 0, 0), (9, .aload_n 0, 1, 0, 0), (10, .getfield 17, 3, 1005, 919), (13, .iload_n 1, 1, 0, 0), (14, .iaload, 1, 0, 0), (15, .ifCond .ge 9, 3, 24, 0), (18, .aload_n 0, 1, 0, 0), (19, .iconst 1, 1, 0, 0), (20, .invokevirtual 103, 3, 140, 1061), (23, .ireturn, 1, 0, 0), (24, .aload_n 0, 1, 0, 0), (25, .getfield 17, 3, 1005, 919), (28, .iload_n 1, 1, 0, 0), (29, .iaload, 1, 0, 0), (30, .ifCond .ne 9, 3, 39, 0), (33, .aload_n 0, 1, 0, 0), (34, .iconst 4, 1, 0, 0), (35, .invokevirtual 103, 3, 140, 1061), (38, .ireturn, 1, 0, 0), (39, .lconst 0, 1, 0, 0), (40, .lstore_n 2, 1, 0, 0), (41, .iconst 0, 1, 0, 0), (42, .istore 4, 2, 0, 0), (44, .iload 4, 2, 0, 0), (46, .aload_n 0, 1, 0, 0), (47, .getfield 17, 3, 1005, 919), (50, .iload_n 1, 1, 0, 0), (51, .iaload, 1, 0, 0), (52, .if_icmp .ge 20, 3, 72, 0), (55, .lload_n 2, 1, 0, 0), (56, .aload_n 0, 1, 0, 0), (57, .iload_n 1, 1, 0, 0), (58, .iload 4, 2, 0, 0), (60, .invokevirtual 107, 3, 149, 1069), (63, .i2l, 1, 0, 0), (64, .ladd, 1, 0, 0), (65, .lstore_n 2, 1, 0, 0), (66, .iinc 4 1, 3, 0, 0), (69, .goto (-25), 3, 44, 0), (72, .aload_n 0, 1, 0, 0), (73, .lload_n 2, 1, 0, 0), (74, .aload_n 0, 1, 0, 0), (75, .getfield 17, 3, 1005, 919), (78, .iload_n 1, 1, 0, 0), (79, .iaload, 1, 0, 0), (80, .i2l, 1, 0, 0), (81, .ldiv, 1, 0, 0), (82, .l2i, 1, 0, 0), (83, .iconst 1, 1, 0, 0), (84, .invokevirtual 111, 3, 143, 1073), (87, .ireturn, 1, 0, 0)]
def rw_156 : List Row := [(0, .iload_n 0, 1, 0, 0), (1, .iconst 0, 1, 0, 0), (2, .iconst 3, 1, 0, 0), (3, .invokestatic 89, 3, 137, 1039), (6, .ireturn, 1, 0, 0)]
def rw_157 : List Row := [(0, .iload_n 1, 1, 0, 0), (1, .invokestatic 114, 3, 156, 1097), (4, .ifCond .eq 9, 3, 13, 0), (7, .iload_n 2, 1, 0, 0), (8, .bipush 60, 2, 0, 0), (10, .if_icmp .le 5, 3, 15, 0), (13, .iconst (-1), 1, 0, 0), (14, .ireturn, 1, 0, 0), (15, .iload_n 2, 1, 0, 0), (16, .ifCond .ge 9, 3, 25, 0), (19, .aload_n 0, 1, 0, 0), (20, .iconst 5, 1, 0, 0), (21, .invokevirtual 103, 3, 140, 1061), (24, .ireturn, 1, 0, 0), (25, .aload_n 0, 1, 0, 0), (26, .getfield 26, 3, 1008, 922), (29, .iload_n 1, 1, 0, 0), (30, .iload_n 2, 1, 0, 0), (31, .iastore, 1, 0, 0), (32, .iconst 0, 1, 0, 0), (33, .istore_n 3, 1, 0, 0), (34, .iload_n 3, 1, 0, 0), (35, .bipush 60, 2, 0, 0), (37, .if_icmp .ge 22, 3, 59, 0), (40, .aload_n 0, 1, 0, 0), (41, .getfield 29, 3, 1009, 923), (44, .bipush 60, 2, 0, 0), (46, .iload_n 1, 1, 0, 0), (47, .imul, 1, 0, 0), (48, .iload_n 3, 1, 0, 0), (49, .iadd, 1, 0, 0), (50, .bipush 32, 2, 0, 0), (52, .bastore, 1, 0, 0), (53, .iinc 3 1, 3, 0, 0), (56, .goto (-22), 3, 34, 0), (59, .iload_n 2, 1, 0, 0), (60, .ireturn, 1, 0, 0)]
def rw_158 : List Row := [(0, .iload_n 1, 1, 0, 0), (1, .invokestatic 114, 3, 156, 1097), (4, .ifCond .ne 5, 3, 9, 0), (7, .iconst (-1), 1, 0, 0), (8, .ireturn, 1, 0, 0), (9, .aload_n 0, 1, 0, 0), (10, .getfield 26, 3, 1008, 922), (13, .iload_n 1, 1, 0, 0), (14, .iaload, 1, 0, 0), (15, .ifCond .ge 9, 3, 24, 0), (18, .aload_n 0, 1, 0, 0), (19, .iconst 1, 1, 0, 0), (20, .invokevirtual 103, 3, 140, 1061), (23, .ireturn, 1, 0, 0), (24, .iload_n 2, 1, 0, 0), (25, .iconst 0, 1, 0, 0), (26, .aload_n 0, 1, 0, 0), (27, .getfield 26, 3, 1008, 922), (30, .iload_n 1, 1, 0, 0), (31, .iaload, 1, 0, 0), (32, .iconst 1, 1, 0, 0), (33, .isub, 1, 0, 0), (34, .invokestatic 89, 3, 137, 1039), (37, .ifCond .ne 9, 3, 46, 0), (40, .aload_n 0, 1, 0, 0), (41, .iconst 2, 1, 0, 0), (42, .invokevirtual 103, 3, 140, 1061), (45, .ireturn, 1, 0, 0), (46, .aload_n 0, 1, 0, 0), (47, .getfield 29, 3, 1009, 923), (50, .bipush 60, 2, 0, 0), (52, .iload_n 1, 1, 0, 0), (53, .imul, 1, 0, 0), (54, .iload_n 2, 1, 0, 0), (55, .iadd, 1, 0, 0), (56, .baload, 1, 0, 0), (57, .istore 4, 2, 0, 0), (59, .aload_n 0, 1, 0, 0), (60, .getfield 29, 3, 1009, 923), (63, .bipush 60, 2, 0, 0), (65, .iload_n 1, 1, 0, 0), (66, .imul, 1, 0, 0), (67, .iload_n 2, 1, 0, 0), (68, .iadd, 1, 0, 0), (69, .iload_n 3, 1, 0, 0), (70, .i2b, 1, 0, 0), (71, .bastore, 1, 0, 0), (72, .sipush 1000, 3, 0, 0), (75, .iload 4, 2, 0, 0), (77, .iadd, 1, 0, 0), (78, .ireturn, 1, 0, 0)]
def rw_159 : List Row := [(0, .iload_n 2, 1, 0, 0), (1, .aload_n 0, 1, 0, 0), (2, .getfield 26, 3, 1008, 922), (5, .iload_n 1, 1, 0, 0), (6, .iaload, 1, 0, 0), (7, .if_icmp .ge 17, 3, 24, 0), (10, .aload_n 0, 1, 0, 0), (11, .getfield 29, 3, 1009, 923), (14, .bipush 60, 2, 0, 0), (16, .iload_n 1, 1, 0, 0), (17, .imul, 1, 0, 0), (18, .iload_n 2, 1, 0, 0), (19, .iadd, 1, 0, 0), (20, .baload, 1, 0, 0), (21, .goto 4, 3, 25, 0), (24, .iconst 0, 1, 0, 0), (25, .ireturn, 1, 0, 0)]
def rw_160 : List Row := [(0, .iload_n 0, 1, 0, 0), (1, .tableswitch 99 102 119 #[87, 93, 97, 99, 99, 99, 99, 95, 99, 99, 99, 99, 99, 99, 99, 99, 89, 91], 87, 0, 0), (88, .iconst 0, 1, 0, 0), (89, .ireturn, 1, 0, 0), (90, .iconst 1, 1, 0, 0), (91, .ireturn, 1, 0, 0), (92, .iconst 2, 1, 0, 0), (93, .ireturn, 1, 0, 0), (94, .iconst 3, 1, 0, 0), (95, .ireturn, 1, 0, 0), (96, .iconst 4, 1, 0, 0), (97, .ireturn, 1, 0, 0), (98, .iconst 5, 1, 0, 0), (99, .ireturn, 1, 0, 0), (100, .bipush (-9), 2, 0, 0), (102, .ireturn, 1, 0, 0)]
def rw_161 : List Row := [(0, .aload_n 0, 1, 0, 0), (1, .iload_n 1, 1, 0, 0), (2, .aload_n 0, 1, 0, 0), (3, .getfield 117, 3, 1017, 931), (6, .invokevirtual 120, 3, 159, 1112), (9, .bipush 48, 2, 0, 0), (11, .isub, 1, 0, 0), (12, .istore 4, 2, 0, 0), (14, .iload 4, 2, 0, 0), (16, .iload_n 2, 1, 0, 0), (17, .iload_n 3, 1, 0, 0), (18, .invokestatic 89, 3, 137, 1039), (21, .ifCond .ne 6, 3, 27, 0), (24, .bipush (-9), 2, 0, 0), (26, .ireturn, 1, 0, 0), (27, .aload_n 0, 1, 0, 0), (28, .dup, 1, 0, 0), (29, .getfield 117, 3, 1017, 931), (32, .iconst 1, 1, 0, 0), (33, .iadd, 1, 0, 0), (34, .putfield 117, 3, 1017, 931), (37, .iload 4, 2, 0, 0), (39, .ireturn, 1, 0, 0)]
def rw_162 : List Row := [(0, .aload_n 0, 1, 0, 0), (1, .iload_n 1, 1, 0, 0), (2, .aload_n 0, 1, 0, 0), (3, .getfield 117, 3, 1017, 931), (6, .invokevirtual 120, 3, 159, 1112), (9, .bipush 108, 2, 0, 0), (11, .if_icmp .eq 5, 3, 16, 0), (14, .iconst 0, 1, 0, 0), (15, .ireturn, 1, 0, 0), (16, .aload_n 0, 1, 0, 0), (17, .dup, 1, 0, 0), (18, .getfield 117, 3, 1017, 931), (21, .iconst 1, 1, 0, 0), (22, .iadd, 1, 0, 0), (23, .putfield 117, 3, 1017, 931), (26, .iconst 0, 1, 0, 0), (27, .istore_n 2, 1, 0, 0), (28, .iload_n 2, 1, 0, 0), (29, .iconst 4, 1, 0, 0), (30, .if_icmp .ge 59, 3, 89, 0), (33, .aload_n 0, 1, 0, 0), (34, .getfield 45, 3, 1020, 934), (37, .iload_n 2, 1, 0, 0), (38, .iload_n 2, 1, 0, 0), (39, .iconst 2, 1, 0, 0), (40, .if_icmp .ge 13, 3, 53, 0), (43, .aload_n 0, 1, 0, 0), (44, .iload_n 1, 1, 0, 0), (45, .iconst 3, 1, 0, 0), (46, .iconst 5, 1, 0, 0), (47, .invokevirtual 123, 3, 161, 1123), (50, .goto 19, 3, 69, 0), (53, .aload_n 0, 1, 0, 0), (54, .iload_n 1, 1, 0, 0), (55, .iconst 0, 1, 0, 0), (56, .aload_n 0, 1, 0, 0), (57, .getfield 45, 3, 1020, 934), (60, .iload_n 2, 1, 0, 0), (61, .iconst 2, 1, 0, 0), (62, .isub, 1, 0, 0), (63, .iaload, 1, 0, 0), (64, .iconst 1, 1, 0, 0), (65, .isub, 1, 0, 0), (66, .invokevirtual 123, 3, 161, 1123), (69, .iastore, 1, 0, 0), (70, .aload_n 0, 1, 0, 0), (71, .getfield 45, 3, 1020, 934), (74, .iload_n 2, 1, 0, 0), (75, .iaload, 1, 0, 0), (76, .bipush (-9), 2, 0, 0), (78, .if_icmp .ne 5, 3, 83, 0), (81, .iconst 0, 1, 0, 0), (82, .ireturn, 1, 0, 0), (83, .iinc 2 1, 3, 0, 0), (86, .goto (-58), 3, 28, 0), (89, .aload_n 0, 1, 0, 0), (90, .iconst 1, 1, 0, 0), (91, .putfield 127, 3, 1019, 933), (94, .iconst 1, 1, 0, 0), (95, .ireturn, 1, 0, 0)]
def rw_163 : List Row := [(0, .aload_n 0, 1, 0, 0), (1, .iload_n 1, 1, 0, 0), (2, .aload_n 0, 1, 0, 0), (3, .getfield 117, 3, 1017, 931), (6, .invokevirtual 120, 3, 159, 1112), (9, .invokestatic 131, 3, 160, 1120), (12, .istore_n 2, 1, 0, 0), (13, .iload_n 2, 1, 0, 0), (14, .bipush (-9), 2, 0, 0), (16, .if_icmp .eq 12, 3, 28, 0), (19, .aload_n 0, 1, 0, 0), (20, .getfield 134, 3, 1018, 932), (23, .bipush 6, 2, 0, 0), (25, .if_icmp .ne 5, 3, 30, 0), (28, .iconst 0, 1, 0, 0), (29, .ireturn, 1, 0, 0), (30, .aload_n 0, 1, 0, 0), (31, .dup, 1, 0, 0), (32, .getfield 117, 3, 1017, 931), (35, .iconst 1, 1, 0, 0), (36, .iadd, 1, 0, 0), (37, .putfield 117, 3, 1017, 931), (40, .iconst 4, 1, 0, 0), (41, .aload_n 0, 1, 0, 0), (42, .getfield 134, 3, 1018, 932), (45, .imul, 1, 0, 0), (46, .istore_n 3, 1, 0, 0), (47, .aload_n 0, 1, 0, 0), (48, .getfield 48, 3, 1021, 935), (51, .iload_n 3, 1, 0, 0), (52, .iload_n 2, 1, 0, 0), (53, .iastore, 1, 0, 0), (54, .iconst 1, 1, 0, 0), (55, .istore 4, 2, 0, 0), (57, .iload 4, 2, 0, 0), (59, .iconst 4, 1, 0, 0), (60, .if_icmp .ge 68, 3, 128, 0), (63, .aload_n 0, 1, 0, 0), (64, .getfield 48, 3, 1021, 935), (67, .iload_n 3, 1, 0, 0), (68, .iload 4, 2, 0, 0), (70, .iadd, 1, 0, 0), (71, .iload 4, 2, 0, 0), (73, .iconst 3, 1, 0, 0), (74, .if_icmp .ge 23, 3, 97, 0), (77, .aload_n 0, 1, 0, 0), (78, .iload_n 1, 1, 0, 0), (79, .iconst 0, 1, 0, 0), (80, .aload_n 0, 1, 0, 0), (81, .getfield 45, 3, 1020, 934), (84, .iload 4, 2, 0, 0), (86, .iconst 1, 1, 0, 0), (87, .isub, 1, 0, 0), (88, .iaload, 1, 0, 0), (89, .iconst 1, 1, 0, 0), (90, .isub, 1, 0, 0), (91, .invokevirtual 123, 3, 161, 1123), (94, .goto 11, 3, 105, 0), (97, .aload_n 0, 1, 0, 0), (98, .iload_n 1, 1, 0, 0), (99, .iconst 1, 1, 0, 0), (100, .bipush 9, 2, 0, 0), (102, .invokevirtual 123, 3, 161, 1123), (105, .iastore, 1, 0, 0), (106, .aload_n 0, 1, 0, 0), (107, .getfield 48, 3, 1021, 935), (110, .iload_n 3, 1, 0, 0), (111, .iload 4, 2, 0, 0), (113, .iadd, 1, 0, 0), (114, .iaload, 1, 0, 0), (115, .bipush (-9), 2, 0, 0), (117, .if_icmp .ne 5, 3, 122, 0), (120, .iconst 0, 1, 0, 0), (121, .ireturn, 1, 0, 0), (122, .iinc 4 1, 3, 0, 0), (125, .goto (-68), 3, 57, 0), (128, .aload_n 0, 1, 0, 0), (129, .dup, 1, 0, 0), (130, .getfield 134, 3, 1018, 932), (133, .iconst 1, 1, 0, 0), (134, .iadd, 1, 0, 0), (135, .putfield 134, 3, 1018, 932), (138, .iconst 1, 1, 0, 0), (139, .ireturn, 1, 0, 0)]
def rw_164 : List Row := [(0, .aload_n 0, 1, 0, 0), (1, .iconst 0, 1, 0, 0), (2, .putfield 117, 3, 1017, 931), (5, .aload_n 0, 1, 0, 0), (6, .iconst 0, 1, 0, 0), (7, .putfield 134, 3, 1018, 932), (10, .aload_n 0, 1, 0, 0), (11, .iconst 0, 1, 0, 0), (12, .putfield 127, 3, 1019, 933), (15, .aload_n 0, 1, 0, 0), (16, .getfield 117, 3, 1017, 931), (19, .aload_n 0, 1, 0, 0), (20, .getfield 26, 3, 1008, 922), (23, .iload_n 1, 1, 0, 0), (24, .iaload, 1, 0, 0), (25, .if_icmp .ge 61, 3, 86, 0), (28, .aload_n 0, 1, 0, 0), (29, .iload_n 1, 1, 0, 0), (30, .aload_n 0, 1, 0, 0), (31, .getfield 117, 3, 1017, 931), (34, .invokevirtual 120, 3, 159, 1112), (37, .bipush 32, 2, 0, 0), (39, .if_icmp .ne 16, 3, 55, 0), (42, .aload_n 0, 1, 0, 0), (43, .dup, 1, 0, 0), (44, .getfield 117, 3, 1017, 931), (47, .iconst 1, 1, 0, 0), (48, .iadd, 1, 0, 0), (49, .putfield 117, 3, 1017, 931), (52, .goto (-37), 3, 15, 0), (55, .aload_n 0, 1, 0, 0), (56, .getfield 127, 3, 1019, 933), (59, .ifCond .eq 14, 3, 73, 0), (62, .aload_n 0, 1, 0, 0), (63, .iload_n 1, 1, 0, 0), (64, .invokevirtual 137, 3, 163, 1116), (67, .ifCond .eq 14, 3, 81, 0), (70, .goto (-55), 3, 15, 0), (73, .aload_n 0, 1, 0, 0), (74, .iload_n 1, 1, 0, 0), (75, .invokevirtual 140, 3, 162, 1127), (78, .ifCond .ne (-63), 3, 15, 0), (81, .aload_n 0, 1, 0, 0), (82, .getfield 117, 3, 1017, 931), (85, .ireturn, 1, 0, 0), (86, .aload_n 0, 1, 0, 0), (87, .getfield 134, 3, 1018, 932), (90, .ifCond .ne 12, 3, 102, 0), (93, .aload_n 0, 1, 0, 0), (94, .getfield 26, 3, 1008, 922), (97, .iload_n 1, 1, 0, 0), (98, .iaload, 1, 0, 0), (99, .goto 5, 3, 104, 0), (102, .bipush (-9), 2, 0, 0), (104, .ireturn, 1, 0, 0)]
def rw_165 : List Row := [(0, .iload_n 1, 1, 0, 0), (1, .invokestatic 114, 3, 156, 1097), (4, .ifCond .ne 5, 3, 9, 0), (7, .iconst (-1), 1, 0, 0), (8, .ireturn, 1, 0, 0), (9, .aload_n 0, 1, 0, 0), (10, .getfield 26, 3, 1008, 922), (13, .iload_n 1, 1, 0, 0), (14, .iaload, 1, 0, 0), (15, .ifCond .ge 11, 3, 26, 0), (18, .aload_n 0, 1, 0, 0), (19, .iconst 1, 1, 0, 0), (20, .invokevirtual 103, 3, 140, 1061), (23, .goto 8, 3, 31, 0), (26, .aload_n 0, 1, 0, 0), (27, .iload_n 1, 1, 0, 0), (28, .invokevirtual 143, 3, 164, 1108), (31, .ireturn, 1, 0, 0)]
def rw_166 : List Row := [(0, .iload_n 1, 1, 0, 0), (1, .invokestatic 114, 3, 156, 1097), (4, .ifCond .ne 5, 3, 9, 0), (7, .iconst (-1), 1, 0, 0), (8, .ireturn, 1, 0, 0), (9, .aload_n 0, 1, 0, 0), (10, .getfield 26, 3, 1008, 922), (13, .iload_n 1, 1, 0, 0), (14, .iaload, 1, 0, 0), (15, .ifCond .ge 9, 3, 24, 0), (18, .aload_n 0, 1, 0, 0), (19, .iconst 1, 1, 0, 0), (20, .invokevirtual 103, 3, 140, 1061), (23, .ireturn, 1, 0, 0), (24, .aload_n 0, 1, 0, 0), (25, .iload_n 1, 1, 0, 0), (26, .invokevirtual 143, 3, 164, 1108), (29, .bipush (-9), 2, 0, 0), (31, .if_icmp .eq 6, 3, 37, 0), (34, .bipush (-4), 2, 0, 0), (36, .ireturn, 1, 0, 0), (37, .aload_n 0, 1, 0, 0), (38, .aload_n 0, 1, 0, 0), (39, .getfield 134, 3, 1018, 932), (42, .putfield 146, 3, 1010, 924), (45, .aload_n 0, 1, 0, 0), (46, .aload_n 0, 1, 0, 0), (47, .getfield 45, 3, 1020, 934), (50, .iconst 0, 1, 0, 0), (51, .iaload, 1, 0, 0), (52, .putfield 149, 3, 1011, 925), (55, .aload_n 0, 1, 0, 0), (56, .aload_n 0, 1, 0, 0), (57, .getfield 45, 3, 1020, 934), (60, .iconst 1, 1, 0, 0), (61, .iaload, 1, 0, 0), (62, .putfield 152, 3, 1012, 926), (65, .iconst 0, 1, 0, 0), (66, .istore_n 2, 1, 0, 0), (67, .iload_n 2, 1, 0, 0), (68, .bipush 9, 2, 0, 0), (70, .if_icmp .ge 16, 3, 86, 0), (73, .aload_n 0, 1, 0, 0), (74, .getfield 39, 3, 1015, 929), (77, .iload_n 2, 1, 0, 0), (78, .iconst 0, 1, 0, 0), (79, .iastore, 1, 0, 0), (80, .iinc 2 1, 3, 0, 0), (83, .goto (-16), 3, 67, 0), (86, .aload_n 0, 1, 0, 0), (87, .getfield 39, 3, 1015, 929), (90, .iconst 0, 1, 0, 0), (91, .aload_n 0, 1, 0, 0), (92, .getfield 149, 3, 1011, 925), (95, .aload_n 0, 1, 0, 0), (96, .getfield 45, 3, 1020, 934), (99, .iconst 3, 1, 0, 0), (100, .iaload, 1, 0, 0), (101, .imul, 1, 0, 0), (102, .aload_n 0, 1, 0, 0), (103, .getfield 45, 3, 1020, 934), (106, .iconst 2, 1, 0, 0), (107, .iaload, 1, 0, 0), (108, .iadd, 1, 0, 0), (109, .iastore, 1, 0, 0), (110, .iconst 0, 1, 0, 0), (111, .istore_n 2, 1, 0, 0), (112, .iload_n 2, 1, 0, 0), (113, .aload_n 0, 1, 0, 0), (114, .getfield 146, 3, 1010, 924), (117, .if_icmp .ge 73, 3, 190, 0), (120, .aload_n 0, 1, 0, 0), (121, .getfield 33, 3, 1013, 927), (124, .iload_n 2, 1, 0, 0), (125, .aload_n 0, 1, 0, 0), (126, .getfield 48, 3, 1021, 935), (129, .iconst 4, 1, 0, 0), (130, .iload_n 2, 1, 0, 0), (131, .imul, 1, 0, 0), (132, .iaload, 1, 0, 0), (133, .iastore, 1, 0, 0), (134, .aload_n 0, 1, 0, 0), (135, .getfield 39, 3, 1015, 929), (138, .iconst 3, 1, 0, 0), (139, .iload_n 2, 1, 0, 0), (140, .iadd, 1, 0, 0), (141, .aload_n 0, 1, 0, 0), (142, .getfield 149, 3, 1011, 925), (145, .aload_n 0, 1, 0, 0), (146, .getfield 48, 3, 1021, 935), (149, .iconst 4, 1, 0, 0), (150, .iload_n 2, 1, 0, 0), (151, .imul, 1, 0, 0), (152, .iconst 2, 1, 0, 0), (153, .iadd, 1, 0, 0), (154, .iaload, 1, 0, 0), (155, .imul, 1, 0, 0), (156, .aload_n 0, 1, 0, 0), (157, .getfield 48, 3, 1021, 935), (160, .iconst 4, 1, 0, 0), (161, .iload_n 2, 1, 0, 0), (162, .imul, 1, 0, 0), (163, .iconst 1, 1, 0, 0), (164, .iadd, 1, 0, 0), (165, .iaload, 1, 0, 0), (166, .iadd, 1, 0, 0), (167, .iastore, 1, 0, 0), (168, .aload_n 0, 1, 0, 0), (169, .getfield 36, 3, 1014, 928), (172, .iload_n 2, 1, 0, 0), (173, .aload_n 0, 1, 0, 0), (174, .getfield 48, 3, 1021, 935), (177, .iconst 4, 1, 0, 0), (178, .iload_n 2, 1, 0, 0), (179, .imul, 1, 0, 0), (180, .iconst 3, 1, 0, 0), (181, .iadd, 1, 0, 0), (182, .iaload, 1, 0, 0), (183, .iastore, 1, 0, 0), (184, .iinc 2 1, 3, 0, 0), (187, .goto (-75), 3, 112, 0), (190, .aload_n 0, 1, 0, 0), (191, .iconst 0, 1, 0, 0), (192, .putfield 155, 3, 1023, 937), (195, .iconst 0, 1, 0, 0), (196, .istore_n 2, 1, 0, 0), (197, .iload_n 2, 1, 0, 0), (198, .iconst 3, 1, 0, 0), (199, .if_icmp .ge 16, 3, 215, 0), (202, .aload_n 0, 1, 0, 0), (203, .getfield 57, 3, 1025, 939), (206, .iload_n 2, 1, 0, 0), (207, .iconst 0, 1, 0, 0), (208, .bastore, 1, 0, 0), (209, .iinc 2 1, 3, 0, 0), (212, .goto (-15), 3, 197, 0), (215, .aload_n 0, 1, 0, 0), (216, .getfield 146, 3, 1010, 924), (219, .ireturn, 1, 0, 0)]
def rw_167 : List Row := [(0, .iload_n 1, 1, 0, 0), (1, .iconst 0, 1, 0, 0), (2, .aload_n 0, 1, 0, 0), (3, .getfield 146, 3, 1010, 924), (6, .iconst 1, 1, 0, 0), (7, .isub, 1, 0, 0), (8, .invokestatic 89, 3, 137, 1039), (11, .ireturn, 1, 0, 0)]
def rw_168 : List Row := [(0, .iload_n 1, 1, 0, 0), (1, .iconst 0, 1, 0, 0), (2, .aload_n 0, 1, 0, 0), (3, .getfield 149, 3, 1011, 925), (6, .aload_n 0, 1, 0, 0), (7, .getfield 152, 3, 1012, 926), (10, .imul, 1, 0, 0), (11, .iconst 1, 1, 0, 0), (12, .isub, 1, 0, 0), (13, .invokestatic 89, 3, 137, 1039), (16, .ireturn, 1, 0, 0)]
def rw_169 : List Row := [(0, .iload_n 0, 1, 0, 0), (1, .iload_n 1, 1, 0, 0), (2, .if_icmp .ge 9, 3, 11, 0), (5, .iload_n 1, 1, 0, 0), (6, .iload_n 0, 1, 0, 0), (7, .isub, 1, 0, 0), (8, .goto 6, 3, 14, 0), (11, .iload_n 0, 1, 0, 0), (12, .iload_n 1, 1, 0, 0), (13, .isub, 1, 0, 0), (14, .ireturn, 1, 0, 0)]
def rw_170 : List Row := [(0, .iload_n 1, 1, 0, 0), (1, .aload_n 0, 1, 0, 0), (2, .getfield 149, 3, 1011, 925), (5, .irem, 1, 0, 0), (6, .iload_n 2, 1, 0, 0), (7, .aload_n 0, 1, 0, 0), (8, .getfield 149, 3, 1011, 925), (11, .irem, 1, 0, 0), (12, .invokestatic 158, 3, 169, 1159), (15, .iload_n 1, 1, 0, 0), (16, .aload_n 0, 1, 0, 0), (17, .getfield 149, 3, 1011, 925), (20, .idiv, 1, 0, 0), (21, .iload_n 2, 1, 0, 0), (22, .aload_n 0, 1, 0, 0), (23, .getfield 149, 3, 1011, 925), (26, .idiv, 1, 0, 0), (27, .invokestatic 158, 3, 169, 1159), (30, .iadd, 1, 0, 0), (31, .ireturn, 1, 0, 0)]
def rw_171 : List Row := [(0, .iload_n 2, 1, 0, 0), (1, .tableswitch 101 0 3 #[31, 33, 52, 75], 31, 0, 0), (32, .iload_n 1, 1, 0, 0), (33, .ireturn, 1, 0, 0), (34, .iload_n 1, 1, 0, 0), (35, .aload_n 0, 1, 0, 0), (36, .getfield 149, 3, 1011, 925), (39, .if_icmp .lt 12, 3, 51, 0), (42, .iload_n 1, 1, 0, 0), (43, .aload_n 0, 1, 0, 0), (44, .getfield 149, 3, 1011, 925), (47, .isub, 1, 0, 0), (48, .goto 4, 3, 52, 0), (51, .iconst (-1), 1, 0, 0), (52, .ireturn, 1, 0, 0), (53, .iload_n 1, 1, 0, 0), (54, .aload_n 0, 1, 0, 0), (55, .getfield 149, 3, 1011, 925), (58, .irem, 1, 0, 0), (59, .aload_n 0, 1, 0, 0), (60, .getfield 149, 3, 1011, 925), (63, .iconst 1, 1, 0, 0), (64, .isub, 1, 0, 0), (65, .if_icmp .ge 9, 3, 74, 0), (68, .iload_n 1, 1, 0, 0), (69, .iconst 1, 1, 0, 0), (70, .iadd, 1, 0, 0), (71, .goto 4, 3, 75, 0), (74, .iconst (-1), 1, 0, 0), (75, .ireturn, 1, 0, 0), (76, .iload_n 1, 1, 0, 0), (77, .aload_n 0, 1, 0, 0), (78, .getfield 149, 3, 1011, 925), (81, .idiv, 1, 0, 0), (82, .aload_n 0, 1, 0, 0), (83, .getfield 152, 3, 1012, 926), (86, .iconst 1, 1, 0, 0), (87, .isub, 1, 0, 0), (88, .if_icmp .ge 12, 3, 100, 0), (91, .iload_n 1, 1, 0, 0), (92, .aload_n 0, 1, 0, 0), (93, .getfield 149, 3, 1011, 925), (96, .iadd, 1, 0, 0), (97, .goto 4, 3, 101, 0), (100, .iconst (-1), 1, 0, 0), (101, .ireturn, 1, 0, 0), (102, .iload_n 1, 1, 0, 0), (103, .aload_n 0, 1, 0, 0), (104, .getfield 149, 3, 1011, 925), (107, .irem, 1, 0, 0), (108, .ifCond .le 9, 3, 117, 0), (111, .iload_n 1, 1, 0, 0), (112, .iconst 1, 1, 0, 0), (113, .isub, 1, 0, 0), (114, .goto 4, 3, 118, 0), (117, .iconst (-1), 1, 0, 0), (118, .ireturn, 1, 0, 0)]
def rw_172 : List Row := [(0, .iload_n 0, 1, 0, 0), (1, .ifCond .ne 7, 3, 8, 0), (4, .iconst 0, 1, 0, 0), (5, .goto 17, 3, 22, 0), (8, .iload_n 0, 1, 0, 0), (9, .iconst 2, 1, 0, 0), (10, .if_icmp .le 9, 3, 19, 0), (13, .iload_n 0, 1, 0, 0), (14, .iconst 2, 1, 0, 0), (15, .isub, 1, 0, 0), (16, .goto 6, 3, 22, 0), (19, .iload_n 0, 1, 0, 0), (20, .iconst 2, 1, 0, 0), (21, .iadd, 1, 0, 0), (22, .ireturn, 1, 0, 0)]
def rw_173 : List Row := [(0, .aload_n 0, 1, 0, 0), (1, .iload_n 2, 1, 0, 0), (2, .iload_n 3, 1, 0, 0), (3, .invokevirtual 161, 3, 170, 1155), (6, .istore 4, 2, 0, 0), (8, .iload_n 1, 1, 0, 0), (9, .tableswitch 96 1 5 #[35, 59, 65, 67, 84], 35, 0, 0), (44, .iload 4, 2, 0, 0), (46, .iload_n 3, 1, 0, 0), (47, .aload_n 0, 1, 0, 0), (48, .getfield 149, 3, 1011, 925), (51, .idiv, 1, 0, 0), (52, .iload_n 2, 1, 0, 0), (53, .aload_n 0, 1, 0, 0), (54, .getfield 149, 3, 1011, 925), (57, .idiv, 1, 0, 0), (58, .if_icmp .ge 7, 3, 65, 0), (61, .iconst 3, 1, 0, 0), (62, .goto 4, 3, 66, 0), (65, .iconst 0, 1, 0, 0), (66, .iadd, 1, 0, 0), (67, .ireturn, 1, 0, 0), (68, .bipush 9, 2, 0, 0), (70, .iload 4, 2, 0, 0), (72, .isub, 1, 0, 0), (73, .ireturn, 1, 0, 0), (74, .iconst 0, 1, 0, 0), (75, .ireturn, 1, 0, 0), (76, .iload 4, 2, 0, 0), (78, .ifCond .ne 7, 3, 85, 0), (81, .iconst 0, 1, 0, 0), (82, .goto 10, 3, 92, 0), (85, .iconst 2, 1, 0, 0), (86, .bipush 9, 2, 0, 0), (88, .iload 4, 2, 0, 0), (90, .isub, 1, 0, 0), (91, .imul, 1, 0, 0), (92, .ireturn, 1, 0, 0), (93, .iload 4, 2, 0, 0), (95, .iconst 1, 1, 0, 0), (96, .if_icmp .ne 7, 3, 103, 0), (99, .iconst 5, 1, 0, 0), (100, .goto 4, 3, 104, 0), (103, .iconst 0, 1, 0, 0), (104, .ireturn, 1, 0, 0), (105, .iload 4, 2, 0, 0), (107, .ireturn, 1, 0, 0)]
def rw_174 : List Row := [(0, .aload_n 0, 1, 0, 0), (1, .aload_n 0, 1, 0, 0), (2, .getfield 33, 3, 1013, 927), (5, .iload_n 1, 1, 0, 0), (6, .iaload, 1, 0, 0), (7, .aload_n 0, 1, 0, 0), (8, .getfield 39, 3, 1015, 929), (11, .iconst 3, 1, 0, 0), (12, .iload_n 1, 1, 0, 0), (13, .iadd, 1, 0, 0), (14, .iaload, 1, 0, 0), (15, .iload_n 2, 1, 0, 0), (16, .invokevirtual 164, 3, 173, 1151), (19, .ireturn, 1, 0, 0)]
def rw_175 : List Row := [(0, .iconst 0, 1, 0, 0), (1, .istore_n 2, 1, 0, 0), (2, .iconst 0, 1, 0, 0), (3, .istore_n 3, 1, 0, 0), (4, .iload_n 3, 1, 0, 0), (5, .aload_n 0, 1, 0, 0), (6, .getfield 146, 3, 1010, 924), (9, .if_icmp .ge 25, 3, 34, 0), (12, .iload_n 2, 1, 0, 0), (13, .aload_n 0, 1, 0, 0), (14, .getfield 36, 3, 1014, 928), (17, .iload_n 3, 1, 0, 0), (18, .iaload, 1, 0, 0), (19, .aload_n 0, 1, 0, 0), (20, .iload_n 3, 1, 0, 0), (21, .iload_n 1, 1, 0, 0), (22, .invokevirtual 167, 3, 174, 1147), (25, .imul, 1, 0, 0), (26, .iadd, 1, 0, 0), (27, .istore_n 2, 1, 0, 0), (28, .iinc 3 1, 3, 0, 0), (31, .goto (-27), 3, 4, 0), (34, .iload_n 2, 1, 0, 0), (35, .ireturn, 1, 0, 0)]
def rw_176 : List Row := [(0, .aload_n 0, 1, 0, 0), (1, .iload_n 1, 1, 0, 0), (2, .iload_n 3, 1, 0, 0), (3, .invokevirtual 170, 3, 171, 1170), (6, .ifCond .lt 16, 3, 22, 0), (9, .iload_n 3, 1, 0, 0), (10, .ifCond .eq 8, 3, 18, 0), (13, .iload_n 3, 1, 0, 0), (14, .iload_n 2, 1, 0, 0), (15, .if_icmp .eq 7, 3, 22, 0), (18, .iconst 1, 1, 0, 0), (19, .goto 4, 3, 23, 0), (22, .iconst 0, 1, 0, 0), (23, .ireturn, 1, 0, 0)]
def rw_177 : List Row := [(0, .iconst 0, 1, 0, 0), (1, .istore 4, 2, 0, 0), (3, .iconst 1, 1, 0, 0), (4, .istore 5, 2, 0, 0), (6, .iconst 1, 1, 0, 0), (7, .istore 6, 2, 0, 0), (9, .iload 6, 2, 0, 0), (11, .iconst 4, 1, 0, 0), (12, .if_icmp .gt 83, 3, 95, 0), (15, .aload_n 0, 1, 0, 0), (16, .iload_n 2, 1, 0, 0), (17, .iload_n 3, 1, 0, 0), (18, .iload 6, 2, 0, 0), (20, .invokevirtual 173, 3, 176, 1166), (23, .ifCond .eq 66, 3, 89, 0), (26, .aload_n 0, 1, 0, 0), (27, .iload_n 1, 1, 0, 0), (28, .aload_n 0, 1, 0, 0), (29, .iload_n 2, 1, 0, 0), (30, .iload 6, 2, 0, 0), (32, .invokevirtual 170, 3, 171, 1170), (35, .invokevirtual 167, 3, 174, 1147), (38, .istore 7, 2, 0, 0), (40, .iload 5, 2, 0, 0), (42, .ifCond .eq 18, 3, 60, 0), (45, .iload 7, 2, 0, 0), (47, .aload_n 0, 1, 0, 0), (48, .iload_n 1, 1, 0, 0), (49, .iload_n 2, 1, 0, 0), (50, .invokevirtual 167, 3, 174, 1147), (53, .if_icmp .ne 7, 3, 60, 0), (56, .iconst 1, 1, 0, 0), (57, .goto 4, 3, 61, 0), (60, .iconst 0, 1, 0, 0), (61, .istore 5, 2, 0, 0), (63, .iload 7, 2, 0, 0), (65, .aload_n 0, 1, 0, 0), (66, .iload_n 1, 1, 0, 0), (67, .aload_n 0, 1, 0, 0), (68, .iload_n 2, 1, 0, 0), (69, .iload 4, 2, 0, 0), (71, .invokevirtual 170, 3, 171, 1170), (74, .invokevirtual 167, 3, 174, 1147), (77, .if_icmp .le 8, 3, 85, 0), (80, .iload 6, 2, 0, 0), (82, .goto 5, 3, 87, 0), (85, .iload 4, 2, 0, 0), (87, .istore 4, 2, 0, 0), (89, .iinc 6 1, 3, 0, 0), (92, .goto (-83), 3, 9, 0), (95, .iload 5, 2, 0, 0), (97, .ifCond .eq 28, 3, 125, 0), (100, .aload_n 0, 1, 0, 0), (101, .getfield 33, 3, 1013, 927), (104, .iload_n 1, 1, 0, 0), (105, .iaload, 1, 0, 0), (106, .iconst 3, 1, 0, 0), (107, .if_icmp .eq 13, 3, 120, 0), (110, .aload_n 0, 1, 0, 0), (111, .getfield 33, 3, 1013, 927), (114, .iload_n 1, 1, 0, 0), (115, .iaload, 1, 0, 0), (116, .iconst 5, 1, 0, 0), (117, .if_icmp .ne 8, 3, 125, 0), (120, .bipush (-9), 2, 0, 0), (122, .goto 5, 3, 127, 0), (125, .iload 4, 2, 0, 0), (127, .ireturn, 1, 0, 0)]
def rw_178 : List Row := [(0, .iconst 0, 1, 0, 0), (1, .istore 6, 2, 0, 0), (3, .iload 6, 2, 0, 0), (5, .iconst 4, 1, 0, 0), (6, .if_icmp .gt 17, 3, 23, 0), (9, .aload_n 0, 1, 0, 0), (10, .getfield 51, 3, 1022, 936), (13, .iload 6, 2, 0, 0), (15, .iconst 0, 1, 0, 0), (16, .iastore, 1, 0, 0), (17, .iinc 6 1, 3, 0, 0), (20, .goto (-17), 3, 3, 0), (23, .iconst 0, 1, 0, 0), (24, .istore 6, 2, 0, 0), (26, .iload 6, 2, 0, 0), (28, .aload_n 0, 1, 0, 0), (29, .getfield 146, 3, 1010, 924), (32, .if_icmp .ge 72, 3, 104, 0), (35, .iload 4, 2, 0, 0), (37, .iload 6, 2, 0, 0), (39, .invokestatic 176, 3, 138, 1214), (42, .ifCond .eq 8, 3, 50, 0), (45, .iload 5, 2, 0, 0), (47, .goto 25, 3, 72, 0), (50, .iload_n 3, 1, 0, 0), (51, .iload 6, 2, 0, 0), (53, .invokestatic 176, 3, 138, 1214), (56, .ifCond .eq 14, 3, 70, 0), (59, .aload_n 0, 1, 0, 0), (60, .iload 6, 2, 0, 0), (62, .iload_n 1, 1, 0, 0), (63, .iload_n 2, 1, 0, 0), (64, .invokevirtual 180, 3, 177, 1162), (67, .goto 5, 3, 72, 0), (70, .bipush (-9), 2, 0, 0), (72, .istore 7, 2, 0, 0), (74, .iload 7, 2, 0, 0), (76, .bipush (-9), 2, 0, 0), (78, .if_icmp .eq 20, 3, 98, 0), (81, .aload_n 0, 1, 0, 0), (82, .getfield 51, 3, 1022, 936), (85, .iload 7, 2, 0, 0), (87, .dup2, 1, 0, 0), (88, .iaload, 1, 0, 0), (89, .aload_n 0, 1, 0, 0), (90, .getfield 36, 3, 1014, 928), (93, .iload 6, 2, 0, 0), (95, .iaload, 1, 0, 0), (96, .iadd, 1, 0, 0), (97, .iastore, 1, 0, 0), (98, .iinc 6 1, 3, 0, 0), (101, .goto (-75), 3, 26, 0), (104, .return_, 1, 0, 0)]
def rw_179 : List Row := [(0, .iconst 0, 1, 0, 0), (1, .istore_n 1, 1, 0, 0), (2, .iconst 0, 1, 0, 0), (3, .istore_n 2, 1, 0, 0), (4, .iconst 0, 1, 0, 0), (5, .istore_n 3, 1, 0, 0), (6, .iload_n 3, 1, 0, 0), (7, .iconst 4, 1, 0, 0), (8, .if_icmp .gt 72, 3, 80, 0), (11, .aload_n 0, 1, 0, 0), (12, .getfield 51, 3, 1022, 936), (15, .iload_n 3, 1, 0, 0), (16, .iaload, 1, 0, 0), (17, .aload_n 0, 1, 0, 0), (18, .getfield 51, 3, 1022, 936), (21, .iload_n 1, 1, 0, 0), (22, .iaload, 1, 0, 0), (23, .if_icmp .le 7, 3, 30, 0), (26, .iconst 1, 1, 0, 0), (27, .goto 25, 3, 52, 0), (30, .aload_n 0, 1, 0, 0), (31, .getfield 51, 3, 1022, 936), (34, .iload_n 3, 1, 0, 0), (35, .iaload, 1, 0, 0), (36, .aload_n 0, 1, 0, 0), (37, .getfield 51, 3, 1022, 936), (40, .iload_n 1, 1, 0, 0), (41, .iaload, 1, 0, 0), (42, .if_icmp .ne 9, 3, 51, 0), (45, .iload_n 2, 1, 0, 0), (46, .iconst 1, 1, 0, 0), (47, .iadd, 1, 0, 0), (48, .goto 4, 3, 52, 0), (51, .iload_n 2, 1, 0, 0), (52, .istore_n 2, 1, 0, 0), (53, .aload_n 0, 1, 0, 0), (54, .getfield 51, 3, 1022, 936), (57, .iload_n 3, 1, 0, 0), (58, .iaload, 1, 0, 0), (59, .aload_n 0, 1, 0, 0), (60, .getfield 51, 3, 1022, 936), (63, .iload_n 1, 1, 0, 0), (64, .iaload, 1, 0, 0), (65, .if_icmp .le 7, 3, 72, 0), (68, .iload_n 3, 1, 0, 0), (69, .goto 4, 3, 73, 0), (72, .iload_n 1, 1, 0, 0), (73, .istore_n 1, 1, 0, 0), (74, .iinc 3 1, 3, 0, 0), (77, .goto (-71), 3, 6, 0), (80, .iload_n 2, 1, 0, 0), (81, .iconst 1, 1, 0, 0), (82, .if_icmp .le 7, 3, 89, 0), (85, .iconst 0, 1, 0, 0), (86, .goto 4, 3, 90, 0), (89, .iload_n 1, 1, 0, 0), (90, .ireturn, 1, 0, 0)]
def rw_180 : List Row := [(0, .iconst 1, 1, 0, 0), (1, .aload_n 0, 1, 0, 0), (2, .getfield 146, 3, 1010, 924), (5, .ishl, 1, 0, 0), (6, .iconst 1, 1, 0, 0), (7, .isub, 1, 0, 0), (8, .ireturn, 1, 0, 0)]
def rw_181 : List Row := [(0, .aload_n 0, 1, 0, 0), (1, .iload_n 1, 1, 0, 0), (2, .iload_n 2, 1, 0, 0), (3, .aload_n 0, 1, 0, 0), (4, .invokevirtual 183, 3, 180, 1206), (7, .iconst 0, 1, 0, 0), (8, .iconst 0, 1, 0, 0), (9, .invokevirtual 187, 3, 178, 1210), (12, .aload_n 0, 1, 0, 0), (13, .invokevirtual 191, 3, 179, 1217), (16, .ireturn, 1, 0, 0)]
def rw_182 : List Row := [(0, .aload_n 0, 1, 0, 0), (1, .aload_n 1, 1, 0, 0), (2, .iconst 0, 1, 0, 0), (3, .iaload, 1, 0, 0), (4, .aload_n 1, 1, 0, 0), (5, .iconst 1, 1, 0, 0), (6, .iaload, 1, 0, 0), (7, .invokevirtual 194, 3, 181, 1202), (10, .istore_n 2, 1, 0, 0), (11, .aload_n 1, 1, 0, 0), (12, .iconst 0, 1, 0, 0), (13, .aload_n 0, 1, 0, 0), (14, .aload_n 1, 1, 0, 0), (15, .iconst 0, 1, 0, 0), (16, .iaload, 1, 0, 0), (17, .iload_n 2, 1, 0, 0), (18, .invokevirtual 170, 3, 171, 1170), (21, .iastore, 1, 0, 0), (22, .aload_n 1, 1, 0, 0), (23, .iconst 1, 1, 0, 0), (24, .iload_n 2, 1, 0, 0), (25, .invokestatic 197, 3, 172, 1225), (28, .iastore, 1, 0, 0), (29, .aload_n 1, 1, 0, 0), (30, .iconst 2, 1, 0, 0), (31, .dup2, 1, 0, 0), (32, .iaload, 1, 0, 0), (33, .iconst 1, 1, 0, 0), (34, .iadd, 1, 0, 0), (35, .iastore, 1, 0, 0), (36, .return_, 1, 0, 0)]
def rw_183 : List Row := [(0, .iconst 0, 1, 0, 0), (1, .istore_n 1, 1, 0, 0), (2, .iload_n 1, 1, 0, 0), (3, .bipush 9, 2, 0, 0), (5, .if_icmp .ge 21, 3, 26, 0), (8, .aload_n 0, 1, 0, 0), (9, .getfield 42, 3, 1016, 930), (12, .iload_n 1, 1, 0, 0), (13, .aload_n 0, 1, 0, 0), (14, .getfield 39, 3, 1015, 929), (17, .iload_n 1, 1, 0, 0), (18, .iaload, 1, 0, 0), (19, .iastore, 1, 0, 0), (20, .iinc 1 1, 3, 0, 0), (23, .goto (-21), 3, 2, 0), (26, .return_, 1, 0, 0)]
def rw_184 : List Row := [(0, .iload_n 2, 1, 0, 0), (1, .tableswitch 66 0 3 #[31, 38, 47, 54], 31, 0, 0), (32, .aload_n 0, 1, 0, 0), (33, .getfield 33, 3, 1013, 927), (36, .iload_n 1, 1, 0, 0), (37, .iaload, 1, 0, 0), (38, .ireturn, 1, 0, 0), (39, .aload_n 0, 1, 0, 0), (40, .getfield 39, 3, 1015, 929), (43, .iconst 3, 1, 0, 0), (44, .iload_n 1, 1, 0, 0), (45, .iadd, 1, 0, 0), (46, .iaload, 1, 0, 0), (47, .ireturn, 1, 0, 0), (48, .aload_n 0, 1, 0, 0), (49, .getfield 36, 3, 1014, 928), (52, .iload_n 1, 1, 0, 0), (53, .iaload, 1, 0, 0), (54, .ireturn, 1, 0, 0), (55, .aload_n 0, 1, 0, 0), (56, .iload_n 1, 1, 0, 0), (57, .aload_n 0, 1, 0, 0), (58, .getfield 39, 3, 1015, 929), (61, .iconst 0, 1, 0, 0), (62, .iaload, 1, 0, 0), (63, .invokevirtual 167, 3, 174, 1147), (66, .ireturn, 1, 0, 0), (67, .aload_n 0, 1, 0, 0), (68, .iload_n 1, 1, 0, 0), (69, .aload_n 0, 1, 0, 0), (70, .getfield 39, 3, 1015, 929), (73, .iconst 0, 1, 0, 0), (74, .iaload, 1, 0, 0), (75, .aload_n 0, 1, 0, 0), (76, .getfield 39, 3, 1015, 929), (79, .iconst 1, 1, 0, 0), (80, .iaload, 1, 0, 0), (81, .invokevirtual 180, 3, 177, 1162), (84, .ireturn, 1, 0, 0)]
def rw_185 : List Row := [(0, .aload_n 0, 1, 0, 0), (1, .iload_n 1, 1, 0, 0), (2, .invokevirtual 200, 3, 167, 1139), (5, .ifCond .eq 26, 3, 31, 0), (8, .iload_n 2, 1, 0, 0), (9, .iconst 0, 1, 0, 0), (10, .iconst 4, 1, 0, 0), (11, .invokestatic 89, 3, 137, 1039), (14, .ifCond .eq 17, 3, 31, 0), (17, .aload_n 0, 1, 0, 0), (18, .aload_n 0, 1, 0, 0), (19, .iload_n 1, 1, 0, 0), (20, .iload_n 2, 1, 0, 0), (21, .invokevirtual 203, 3, 184, 1143), (24, .iconst 1, 1, 0, 0), (25, .invokevirtual 111, 3, 143, 1073), (28, .goto 4, 3, 32, 0), (31, .iconst (-1), 1, 0, 0), (32, .ireturn, 1, 0, 0)]
def rw_186 : List Row := [(0, .iconst 0, 1, 0, 0), (1, .istore_n 2, 1, 0, 0), (2, .iconst 0, 1, 0, 0), (3, .istore_n 3, 1, 0, 0), (4, .iload_n 3, 1, 0, 0), (5, .aload_n 0, 1, 0, 0), (6, .getfield 146, 3, 1010, 924), (9, .if_icmp .ge 44, 3, 53, 0), (12, .iload_n 2, 1, 0, 0), (13, .iload_n 3, 1, 0, 0), (14, .iload_n 1, 1, 0, 0), (15, .if_icmp .eq 29, 3, 44, 0), (18, .aload_n 0, 1, 0, 0), (19, .iload_n 3, 1, 0, 0), (20, .aload_n 0, 1, 0, 0), (21, .getfield 39, 3, 1015, 929), (24, .iconst 0, 1, 0, 0), (25, .iaload, 1, 0, 0), (26, .aload_n 0, 1, 0, 0), (27, .getfield 39, 3, 1015, 929), (30, .iconst 1, 1, 0, 0), (31, .iaload, 1, 0, 0), (32, .invokevirtual 180, 3, 177, 1162), (35, .bipush (-9), 2, 0, 0), (37, .if_icmp .ne 7, 3, 44, 0), (40, .iconst 1, 1, 0, 0), (41, .goto 4, 3, 45, 0), (44, .iconst 0, 1, 0, 0), (45, .iadd, 1, 0, 0), (46, .istore_n 2, 1, 0, 0), (47, .iinc 3 1, 3, 0, 0), (50, .goto (-46), 3, 4, 0), (53, .iload_n 2, 1, 0, 0), (54, .ireturn, 1, 0, 0)]
def rw_187 : List Row := [(0, .iconst 0, 1, 0, 0), (1, .istore_n 2, 1, 0, 0), (2, .iconst 0, 1, 0, 0), (3, .istore_n 3, 1, 0, 0), (4, .iload_n 3, 1, 0, 0), (5, .aload_n 0, 1, 0, 0), (6, .getfield 149, 3, 1011, 925), (9, .aload_n 0, 1, 0, 0), (10, .getfield 152, 3, 1012, 926), (13, .imul, 1, 0, 0), (14, .if_icmp .ge 26, 3, 40, 0), (17, .iload_n 2, 1, 0, 0), (18, .aload_n 0, 1, 0, 0), (19, .iload_n 1, 1, 0, 0), (20, .iload_n 3, 1, 0, 0), (21, .invokevirtual 167, 3, 174, 1147), (24, .ifCond .le 7, 3, 31, 0), (27, .iconst 1, 1, 0, 0), (28, .goto 4, 3, 32, 0), (31, .iconst 0, 1, 0, 0), (32, .iadd, 1, 0, 0), (33, .istore_n 2, 1, 0, 0), (34, .iinc 3 1, 3, 0, 0), (37, .goto (-33), 3, 4, 0), (40, .iload_n 2, 1, 0, 0), (41, .ireturn, 1, 0, 0)]
def rw_188 : List Row := [(0, .aload_n 0, 1, 0, 0), (1, .iload_n 1, 1, 0, 0), (2, .invokevirtual 200, 3, 167, 1139), (5, .ifCond .eq 12, 3, 17, 0), (8, .iload_n 2, 1, 0, 0), (9, .iconst 1, 1, 0, 0), (10, .iconst 5, 1, 0, 0), (11, .invokestatic 89, 3, 137, 1039), (14, .ifCond .ne 5, 3, 19, 0), (17, .iconst (-1), 1, 0, 0), (18, .ireturn, 1, 0, 0), (19, .aload_n 0, 1, 0, 0), (20, .getfield 33, 3, 1013, 927), (23, .iload_n 1, 1, 0, 0), (24, .iaload, 1, 0, 0), (25, .istore_n 3, 1, 0, 0), (26, .iload_n 3, 1, 0, 0), (27, .iload_n 2, 1, 0, 0), (28, .if_icmp .eq 29, 3, 57, 0), (31, .iload_n 2, 1, 0, 0), (32, .iconst 2, 1, 0, 0), (33, .if_icmp .ne 8, 3, 41, 0), (36, .iload_n 3, 1, 0, 0), (37, .iconst 4, 1, 0, 0), (38, .if_icmp .eq 19, 3, 57, 0), (41, .iload_n 2, 1, 0, 0), (42, .iconst 3, 1, 0, 0), (43, .if_icmp .ne 8, 3, 51, 0), (46, .iload_n 3, 1, 0, 0), (47, .iconst 5, 1, 0, 0), (48, .if_icmp .eq 9, 3, 57, 0), (51, .aload_n 0, 1, 0, 0), (52, .iconst 3, 1, 0, 0), (53, .invokevirtual 103, 3, 140, 1061), (56, .ireturn, 1, 0, 0), (57, .aload_n 0, 1, 0, 0), (58, .aload_n 0, 1, 0, 0), (59, .getfield 39, 3, 1015, 929), (62, .iconst 3, 1, 0, 0), (63, .iload_n 1, 1, 0, 0), (64, .iadd, 1, 0, 0), (65, .iaload, 1, 0, 0), (66, .aload_n 0, 1, 0, 0), (67, .getfield 39, 3, 1015, 929), (70, .iconst 0, 1, 0, 0), (71, .iaload, 1, 0, 0), (72, .invokevirtual 161, 3, 170, 1155), (75, .istore 4, 2, 0, 0), (77, .iload_n 2, 1, 0, 0), (78, .tableswitch 103 1 4 #[30, 63, 66, 72], 30, 0, 0), (108, .aload_n 0, 1, 0, 0), (109, .getfield 39, 3, 1015, 929), (112, .iconst 0, 1, 0, 0), (113, .iaload, 1, 0, 0), (114, .aload_n 0, 1, 0, 0), (115, .getfield 149, 3, 1011, 925), (118, .idiv, 1, 0, 0), (119, .aload_n 0, 1, 0, 0), (120, .getfield 39, 3, 1015, 929), (123, .iconst 3, 1, 0, 0), (124, .iload_n 1, 1, 0, 0), (125, .iadd, 1, 0, 0), (126, .iaload, 1, 0, 0), (127, .aload_n 0, 1, 0, 0), (128, .getfield 149, 3, 1011, 925), (131, .idiv, 1, 0, 0), (132, .if_icmp .ge 7, 3, 139, 0), (135, .iconst 1, 1, 0, 0), (136, .goto 4, 3, 140, 0), (139, .iconst 0, 1, 0, 0), (140, .ireturn, 1, 0, 0), (141, .iload 4, 2, 0, 0), (143, .ireturn, 1, 0, 0), (144, .aload_n 0, 1, 0, 0), (145, .iload_n 1, 1, 0, 0), (146, .invokevirtual 206, 3, 186, 1178), (149, .ireturn, 1, 0, 0), (150, .aload_n 0, 1, 0, 0), (151, .iload_n 1, 1, 0, 0), (152, .aload_n 0, 1, 0, 0), (153, .getfield 39, 3, 1015, 929), (156, .iconst 0, 1, 0, 0), (157, .iaload, 1, 0, 0), (158, .invokevirtual 167, 3, 174, 1147), (161, .bipush 9, 2, 0, 0), (163, .iload 4, 2, 0, 0), (165, .isub, 1, 0, 0), (166, .isub, 1, 0, 0), (167, .istore 5, 2, 0, 0), (169, .iload 5, 2, 0, 0), (171, .ifCond .le 8, 3, 179, 0), (174, .iload 5, 2, 0, 0), (176, .goto 4, 3, 180, 0), (179, .iconst 0, 1, 0, 0), (180, .ireturn, 1, 0, 0), (181, .aload_n 0, 1, 0, 0), (182, .iload_n 1, 1, 0, 0), (183, .invokevirtual 209, 3, 187, 1182), (186, .ireturn, 1, 0, 0)]
def rw_189 : List Row := [(0, .aload_n 0, 1, 0, 0), (1, .iload_n 1, 1, 0, 0), (2, .invokevirtual 200, 3, 167, 1139), (5, .ifCond .eq 20, 3, 25, 0), (8, .aload_n 0, 1, 0, 0), (9, .iload_n 2, 1, 0, 0), (10, .invokevirtual 212, 3, 168, 1190), (13, .ifCond .eq 12, 3, 25, 0), (16, .aload_n 0, 1, 0, 0), (17, .iload_n 1, 1, 0, 0), (18, .iload_n 2, 1, 0, 0), (19, .invokevirtual 167, 3, 174, 1147), (22, .goto 4, 3, 26, 0), (25, .iconst (-1), 1, 0, 0), (26, .ireturn, 1, 0, 0)]
def rw_190 : List Row := [(0, .iconst 0, 1, 0, 0), (1, .istore_n 1, 1, 0, 0), (2, .iload_n 1, 1, 0, 0), (3, .bipush 9, 2, 0, 0), (5, .if_icmp .ge 29, 3, 34, 0), (8, .aload_n 0, 1, 0, 0), (9, .getfield 54, 3, 1024, 938), (12, .bipush 9, 2, 0, 0), (14, .aload_n 0, 1, 0, 0), (15, .getfield 155, 3, 1023, 937), (18, .imul, 1, 0, 0), (19, .iload_n 1, 1, 0, 0), (20, .iadd, 1, 0, 0), (21, .aload_n 0, 1, 0, 0), (22, .getfield 39, 3, 1015, 929), (25, .iload_n 1, 1, 0, 0), (26, .iaload, 1, 0, 0), (27, .iastore, 1, 0, 0), (28, .iinc 1 1, 3, 0, 0), (31, .goto (-29), 3, 2, 0), (34, .aload_n 0, 1, 0, 0), (35, .dup, 1, 0, 0), (36, .getfield 155, 3, 1023, 937), (39, .iconst 1, 1, 0, 0), (40, .iadd, 1, 0, 0), (41, .putfield 155, 3, 1023, 937), (44, .return_, 1, 0, 0)]
def rw_191 : List Row := [(0, .aload_n 0, 1, 0, 0), (1, .getfield 146, 3, 1010, 924), (4, .ifCond .ne 6, 3, 10, 0), (7, .bipush (-4), 2, 0, 0), (9, .ireturn, 1, 0, 0), (10, .aload_n 0, 1, 0, 0), (11, .getfield 155, 3, 1023, 937), (14, .bipush 40, 2, 0, 0), (16, .if_icmp .ne 6, 3, 22, 0), (19, .bipush (-2), 2, 0, 0), (21, .ireturn, 1, 0, 0), (22, .aload_n 0, 1, 0, 0), (23, .invokevirtual 215, 3, 190, 1198), (26, .aload_n 0, 1, 0, 0), (27, .aload_n 0, 1, 0, 0), (28, .getfield 39, 3, 1015, 929), (31, .iconst 0, 1, 0, 0), (32, .iaload, 1, 0, 0), (33, .aload_n 0, 1, 0, 0), (34, .getfield 39, 3, 1015, 929), (37, .iconst 1, 1, 0, 0), (38, .iaload, 1, 0, 0), (39, .invokevirtual 194, 3, 181, 1202), (42, .istore_n 1, 1, 0, 0), (43, .aload_n 0, 1, 0, 0), (44, .aload_n 0, 1, 0, 0), (45, .getfield 39, 3, 1015, 929), (48, .invokevirtual 218, 3, 182, 1221), (51, .iload_n 1, 1, 0, 0), (52, .ireturn, 1, 0, 0)]
def rw_192 : List Row := [(0, .iload_n 1, 1, 0, 0), (1, .iconst 1, 1, 0, 0), (2, .iconst 4, 1, 0, 0), (3, .invokestatic 89, 3, 137, 1039), (6, .ifCond .ne 5, 3, 11, 0), (9, .iconst (-1), 1, 0, 0), (10, .ireturn, 1, 0, 0), (11, .aload_n 0, 1, 0, 0), (12, .getfield 146, 3, 1010, 924), (15, .ifCond .eq 17, 3, 32, 0), (18, .aload_n 0, 1, 0, 0), (19, .aload_n 0, 1, 0, 0), (20, .getfield 39, 3, 1015, 929), (23, .iconst 0, 1, 0, 0), (24, .iaload, 1, 0, 0), (25, .iload_n 1, 1, 0, 0), (26, .invokevirtual 170, 3, 171, 1170), (29, .ifCond .ge 6, 3, 35, 0), (32, .bipush (-4), 2, 0, 0), (34, .ireturn, 1, 0, 0), (35, .aload_n 0, 1, 0, 0), (36, .getfield 155, 3, 1023, 937), (39, .bipush 40, 2, 0, 0), (41, .if_icmp .ne 6, 3, 47, 0), (44, .bipush (-2), 2, 0, 0), (46, .ireturn, 1, 0, 0), (47, .aload_n 0, 1, 0, 0), (48, .invokevirtual 215, 3, 190, 1198), (51, .aload_n 0, 1, 0, 0), (52, .getfield 39, 3, 1015, 929), (55, .iconst 0, 1, 0, 0), (56, .aload_n 0, 1, 0, 0), (57, .aload_n 0, 1, 0, 0), (58, .getfield 39, 3, 1015, 929), (61, .iconst 0, 1, 0, 0), (62, .iaload, 1, 0, 0), (63, .iload_n 1, 1, 0, 0), (64, .invokevirtual 170, 3, 171, 1170), (67, .iastore, 1, 0, 0), (68, .aload_n 0, 1, 0, 0), (69, .getfield 39, 3, 1015, 929), (72, .iconst 1, 1, 0, 0), (73, .iconst 0, 1, 0, 0), (74, .iastore, 1, 0, 0), (75, .aload_n 0, 1, 0, 0), (76, .getfield 39, 3, 1015, 929), (79, .iconst 0, 1, 0, 0), (80, .iaload, 1, 0, 0), (81, .ireturn, 1, 0, 0)]
def rw_193 : List Row := [(0, .aload_n 0, 1, 0, 0), (1, .iload_n 1, 1, 0, 0), (2, .invokevirtual 200, 3, 167, 1139), (5, .ifCond .eq 11, 3, 16, 0), (8, .aload_n 0, 1, 0, 0), (9, .iload_n 2, 1, 0, 0), (10, .invokevirtual 212, 3, 168, 1190), (13, .ifCond .ne 5, 3, 18, 0), (16, .iconst (-1), 1, 0, 0), (17, .ireturn, 1, 0, 0), (18, .aload_n 0, 1, 0, 0), (19, .getfield 39, 3, 1015, 929), (22, .iconst 3, 1, 0, 0), (23, .iload_n 1, 1, 0, 0), (24, .iadd, 1, 0, 0), (25, .iaload, 1, 0, 0), (26, .istore_n 3, 1, 0, 0), (27, .iload_n 3, 1, 0, 0), (28, .iload_n 2, 1, 0, 0), (29, .if_icmp .ne 6, 3, 35, 0), (32, .bipush (-4), 2, 0, 0), (34, .ireturn, 1, 0, 0), (35, .aload_n 0, 1, 0, 0), (36, .getfield 155, 3, 1023, 937), (39, .bipush 40, 2, 0, 0), (41, .if_icmp .ne 6, 3, 47, 0), (44, .bipush (-2), 2, 0, 0), (46, .ireturn, 1, 0, 0), (47, .aload_n 0, 1, 0, 0), (48, .invokevirtual 215, 3, 190, 1198), (51, .aload_n 0, 1, 0, 0), (52, .getfield 39, 3, 1015, 929), (55, .iconst 3, 1, 0, 0), (56, .iload_n 1, 1, 0, 0), (57, .iadd, 1, 0, 0), (58, .iload_n 2, 1, 0, 0), (59, .iastore, 1, 0, 0), (60, .iload_n 3, 1, 0, 0), (61, .ireturn, 1, 0, 0)]
def rw_194 : List Row := [(0, .iload_n 1, 1, 0, 0), (1, .iconst 0, 1, 0, 0), (2, .aload_n 0, 1, 0, 0), (3, .getfield 155, 3, 1023, 937), (6, .invokestatic 89, 3, 137, 1039), (9, .ifCond .ne 5, 3, 14, 0), (12, .iconst (-1), 1, 0, 0), (13, .ireturn, 1, 0, 0), (14, .aload_n 0, 1, 0, 0), (15, .getfield 155, 3, 1023, 937), (18, .iload_n 1, 1, 0, 0), (19, .isub, 1, 0, 0), (20, .istore_n 2, 1, 0, 0), (21, .iconst 0, 1, 0, 0), (22, .istore_n 3, 1, 0, 0), (23, .iload_n 3, 1, 0, 0), (24, .bipush 9, 2, 0, 0), (26, .if_icmp .ge 30, 3, 56, 0), (29, .iload_n 2, 1, 0, 0), (30, .ifCond .le 26, 3, 56, 0), (33, .aload_n 0, 1, 0, 0), (34, .getfield 39, 3, 1015, 929), (37, .iload_n 3, 1, 0, 0), (38, .aload_n 0, 1, 0, 0), (39, .getfield 54, 3, 1024, 938), (42, .bipush 9, 2, 0, 0), (44, .iload_n 1, 1, 0, 0), (45, .imul, 1, 0, 0), (46, .iload_n 3, 1, 0, 0), (47, .iadd, 1, 0, 0), (48, .iaload, 1, 0, 0), (49, .iastore, 1, 0, 0), (50, .iinc 3 1, 3, 0, 0), (53, .goto (-30), 3, 23, 0), (56, .aload_n 0, 1, 0, 0), (57, .iload_n 1, 1, 0, 0), (58, .putfield 155, 3, 1023, 937), (61, .iload_n 2, 1, 0, 0), (62, .ireturn, 1, 0, 0)]
def rw_195 : List Row := [(0, .iload_n 1, 1, 0, 0), (1, .iconst 0, 1, 0, 0), (2, .iconst 2, 1, 0, 0), (3, .invokestatic 89, 3, 137, 1039), (6, .ifCond .ne 5, 3, 11, 0), (9, .iconst (-1), 1, 0, 0), (10, .ireturn, 1, 0, 0), (11, .aload_n 0, 1, 0, 0), (12, .getfield 146, 3, 1010, 924), (15, .ifCond .ne 6, 3, 21, 0), (18, .bipush (-4), 2, 0, 0), (20, .ireturn, 1, 0, 0), (21, .aload_n 0, 1, 0, 0), (22, .getfield 57, 3, 1025, 939), (25, .iload_n 1, 1, 0, 0), (26, .iconst 1, 1, 0, 0), (27, .bastore, 1, 0, 0), (28, .aload_n 0, 1, 0, 0), (29, .getfield 61, 3, 1026, 940), (32, .iload_n 1, 1, 0, 0), (33, .aload_n 0, 1, 0, 0), (34, .getfield 155, 3, 1023, 937), (37, .iastore, 1, 0, 0), (38, .iconst 0, 1, 0, 0), (39, .istore_n 2, 1, 0, 0), (40, .iload_n 2, 1, 0, 0), (41, .bipush 9, 2, 0, 0), (43, .if_icmp .ge 26, 3, 69, 0), (46, .aload_n 0, 1, 0, 0), (47, .getfield 64, 3, 1027, 941), (50, .bipush 9, 2, 0, 0), (52, .iload_n 1, 1, 0, 0), (53, .imul, 1, 0, 0), (54, .iload_n 2, 1, 0, 0), (55, .iadd, 1, 0, 0), (56, .aload_n 0, 1, 0, 0), (57, .getfield 39, 3, 1015, 929), (60, .iload_n 2, 1, 0, 0), (61, .iaload, 1, 0, 0), (62, .iastore, 1, 0, 0), (63, .iinc 2 1, 3, 0, 0), (66, .goto (-26), 3, 40, 0), (69, .iconst 0, 1, 0, 0), (70, .istore_n 2, 1, 0, 0), (71, .iload_n 2, 1, 0, 0), (72, .bipush 9, 2, 0, 0), (74, .aload_n 0, 1, 0, 0), (75, .getfield 155, 3, 1023, 937), (78, .imul, 1, 0, 0), (79, .if_icmp .ge 27, 3, 106, 0), (82, .aload_n 0, 1, 0, 0), (83, .getfield 67, 3, 1028, 942), (86, .sipush 360, 3, 0, 0), (89, .iload_n 1, 1, 0, 0), (90, .imul, 1, 0, 0), (91, .iload_n 2, 1, 0, 0), (92, .iadd, 1, 0, 0), (93, .aload_n 0, 1, 0, 0), (94, .getfield 54, 3, 1024, 938), (97, .iload_n 2, 1, 0, 0), (98, .iaload, 1, 0, 0), (99, .iastore, 1, 0, 0), (100, .iinc 2 1, 3, 0, 0), (103, .goto (-32), 3, 71, 0), (106, .aload_n 0, 1, 0, 0), (107, .getfield 155, 3, 1023, 937), (110, .ireturn, 1, 0, 0)]
def rw_196 : List Row := [(0, .iload_n 1, 1, 0, 0), (1, .iconst 0, 1, 0, 0), (2, .iconst 2, 1, 0, 0), (3, .invokestatic 89, 3, 137, 1039), (6, .ifCond .ne 5, 3, 11, 0), (9, .iconst (-1), 1, 0, 0), (10, .ireturn, 1, 0, 0), (11, .aload_n 0, 1, 0, 0), (12, .getfield 57, 3, 1025, 939), (15, .iload_n 1, 1, 0, 0), (16, .baload, 1, 0, 0), (17, .ifCond .ne 9, 3, 26, 0), (20, .aload_n 0, 1, 0, 0), (21, .iconst 1, 1, 0, 0), (22, .invokevirtual 103, 3, 140, 1061), (25, .ireturn, 1, 0, 0), (26, .aload_n 0, 1, 0, 0), (27, .aload_n 0, 1, 0, 0), (28, .getfield 61, 3, 1026, 940), (31, .iload_n 1, 1, 0, 0), (32, .iaload, 1, 0, 0), (33, .putfield 155, 3, 1023, 937), (36, .iconst 0, 1, 0, 0), (37, .istore_n 2, 1, 0, 0), (38, .iload_n 2, 1, 0, 0), (39, .bipush 9, 2, 0, 0), (41, .if_icmp .ge 26, 3, 67, 0), (44, .aload_n 0, 1, 0, 0), (45, .getfield 39, 3, 1015, 929), (48, .iload_n 2, 1, 0, 0), (49, .aload_n 0, 1, 0, 0), (50, .getfield 64, 3, 1027, 941), (53, .bipush 9, 2, 0, 0), (55, .iload_n 1, 1, 0, 0), (56, .imul, 1, 0, 0), (57, .iload_n 2, 1, 0, 0), (58, .iadd, 1, 0, 0), (59, .iaload, 1, 0, 0), (60, .iastore, 1, 0, 0), (61, .iinc 2 1, 3, 0, 0), (64, .goto (-26), 3, 38, 0), (67, .iconst 0, 1, 0, 0), (68, .istore_n 2, 1, 0, 0), (69, .iload_n 2, 1, 0, 0), (70, .bipush 9, 2, 0, 0), (72, .aload_n 0, 1, 0, 0), (73, .getfield 155, 3, 1023, 937), (76, .imul, 1, 0, 0), (77, .if_icmp .ge 27, 3, 104, 0), (80, .aload_n 0, 1, 0, 0), (81, .getfield 54, 3, 1024, 938), (84, .iload_n 2, 1, 0, 0), (85, .aload_n 0, 1, 0, 0), (86, .getfield 67, 3, 1028, 942), (89, .sipush 360, 3, 0, 0), (92, .iload_n 1, 1, 0, 0), (93, .imul, 1, 0, 0), (94, .iload_n 2, 1, 0, 0), (95, .iadd, 1, 0, 0), (96, .iaload, 1, 0, 0), (97, .iastore, 1, 0, 0), (98, .iinc 2 1, 3, 0, 0), (101, .goto (-32), 3, 69, 0), (104, .aload_n 0, 1, 0, 0), (105, .getfield 155, 3, 1023, 937), (108, .ireturn, 1, 0, 0)]
def rw_197 : List Row := [(0, .iload_n 1, 1, 0, 0), (1, .ifCond .ne 7, 3, 8, 0), (4, .iconst (-1), 1, 0, 0), (5, .goto 16, 3, 21, 0), (8, .aload_n 0, 1, 0, 0), (9, .getfield 146, 3, 1010, 924), (12, .ifCond .ne 8, 3, 20, 0), (15, .bipush (-4), 2, 0, 0), (17, .goto 4, 3, 21, 0), (20, .iconst 0, 1, 0, 0), (21, .ireturn, 1, 0, 0)]
def rw_198 : List Row := [(0, .aload_n 0, 1, 0, 0), (1, .iload_n 1, 1, 0, 0), (2, .iconst 0, 1, 0, 0), (3, .iconst 4, 1, 0, 0), (4, .invokestatic 89, 3, 137, 1039), (7, .invokevirtual 222, 3, 197, 1252), (10, .istore_n 2, 1, 0, 0), (11, .iload_n 2, 1, 0, 0), (12, .ifCond .ge 5, 3, 17, 0), (15, .iload_n 2, 1, 0, 0), (16, .ireturn, 1, 0, 0), (17, .iconst 0, 1, 0, 0), (18, .istore_n 3, 1, 0, 0), (19, .iconst 0, 1, 0, 0), (20, .istore 4, 2, 0, 0), (22, .iload 4, 2, 0, 0), (24, .aload_n 0, 1, 0, 0), (25, .getfield 146, 3, 1010, 924), (28, .if_icmp .ge 42, 3, 70, 0), (31, .iload_n 3, 1, 0, 0), (32, .aload_n 0, 1, 0, 0), (33, .iload 4, 2, 0, 0), (35, .aload_n 0, 1, 0, 0), (36, .getfield 39, 3, 1015, 929), (39, .iconst 0, 1, 0, 0), (40, .iaload, 1, 0, 0), (41, .aload_n 0, 1, 0, 0), (42, .getfield 39, 3, 1015, 929), (45, .iconst 1, 1, 0, 0), (46, .iaload, 1, 0, 0), (47, .invokevirtual 180, 3, 177, 1162), (50, .iload_n 1, 1, 0, 0), (51, .if_icmp .ne 10, 3, 61, 0), (54, .iconst 1, 1, 0, 0), (55, .iload 4, 2, 0, 0), (57, .ishl, 1, 0, 0), (58, .goto 4, 3, 62, 0), (61, .iconst 0, 1, 0, 0), (62, .ior, 1, 0, 0), (63, .istore_n 3, 1, 0, 0), (64, .iinc 4 1, 3, 0, 0), (67, .goto (-45), 3, 22, 0), (70, .aload_n 0, 1, 0, 0), (71, .aload_n 0, 1, 0, 0), (72, .getfield 39, 3, 1015, 929), (75, .iconst 0, 1, 0, 0), (76, .iaload, 1, 0, 0), (77, .aload_n 0, 1, 0, 0), (78, .getfield 39, 3, 1015, 929), (81, .iconst 1, 1, 0, 0), (82, .iaload, 1, 0, 0), (83, .aload_n 0, 1, 0, 0), (84, .invokevirtual 183, 3, 180, 1206), (87, .iconst 0, 1, 0, 0), (88, .iconst 0, 1, 0, 0), (89, .invokevirtual 187, 3, 178, 1210), (92, .aload_n 0, 1, 0, 0), (93, .iload_n 3, 1, 0, 0), (94, .aload_n 0, 1, 0, 0), (95, .getfield 51, 3, 1022, 936), (98, .iload_n 1, 1, 0, 0), (99, .iaload, 1, 0, 0), (100, .invokevirtual 111, 3, 143, 1073), (103, .ireturn, 1, 0, 0)]
def rw_199 : List Row := [(0, .aload_n 0, 1, 0, 0), (1, .getfield 146, 3, 1010, 924), (4, .ifCond .ne 6, 3, 10, 0), (7, .bipush (-4), 2, 0, 0), (9, .ireturn, 1, 0, 0), (10, .aload_n 0, 1, 0, 0), (11, .aload_n 0, 1, 0, 0), (12, .getfield 39, 3, 1015, 929), (15, .iconst 0, 1, 0, 0), (16, .iaload, 1, 0, 0), (17, .aload_n 0, 1, 0, 0), (18, .getfield 39, 3, 1015, 929), (21, .iconst 1, 1, 0, 0), (22, .iaload, 1, 0, 0), (23, .aload_n 0, 1, 0, 0), (24, .invokevirtual 183, 3, 180, 1206), (27, .iconst 0, 1, 0, 0), (28, .iconst 0, 1, 0, 0), (29, .invokevirtual 187, 3, 178, 1210), (32, .iconst 0, 1, 0, 0), (33, .istore_n 1, 1, 0, 0), (34, .iconst 0, 1, 0, 0), (35, .istore_n 2, 1, 0, 0), (36, .iconst 0, 1, 0, 0), (37, .istore_n 3, 1, 0, 0), (38, .iload_n 3, 1, 0, 0), (39, .iconst 4, 1, 0, 0), (40, .if_icmp .gt 65, 3, 105, 0), (43, .aload_n 0, 1, 0, 0), (44, .getfield 51, 3, 1022, 936), (47, .iload_n 3, 1, 0, 0), (48, .iaload, 1, 0, 0), (49, .iload_n 1, 1, 0, 0), (50, .if_icmp .le 7, 3, 57, 0), (53, .iload_n 1, 1, 0, 0), (54, .goto 23, 3, 77, 0), (57, .aload_n 0, 1, 0, 0), (58, .getfield 51, 3, 1022, 936), (61, .iload_n 3, 1, 0, 0), (62, .iaload, 1, 0, 0), (63, .iload_n 2, 1, 0, 0), (64, .if_icmp .le 12, 3, 76, 0), (67, .aload_n 0, 1, 0, 0), (68, .getfield 51, 3, 1022, 936), (71, .iload_n 3, 1, 0, 0), (72, .iaload, 1, 0, 0), (73, .goto 4, 3, 77, 0), (76, .iload_n 2, 1, 0, 0), (77, .istore_n 2, 1, 0, 0), (78, .aload_n 0, 1, 0, 0), (79, .getfield 51, 3, 1022, 936), (82, .iload_n 3, 1, 0, 0), (83, .iaload, 1, 0, 0), (84, .iload_n 1, 1, 0, 0), (85, .if_icmp .le 12, 3, 97, 0), (88, .aload_n 0, 1, 0, 0), (89, .getfield 51, 3, 1022, 936), (92, .iload_n 3, 1, 0, 0), (93, .iaload, 1, 0, 0), (94, .goto 4, 3, 98, 0), (97, .iload_n 1, 1, 0, 0), (98, .istore_n 1, 1, 0, 0), (99, .iinc 3 1, 3, 0, 0), (102, .goto (-64), 3, 38, 0), (105, .aload_n 0, 1, 0, 0), (106, .iload_n 1, 1, 0, 0), (107, .iload_n 2, 1, 0, 0), (108, .isub, 1, 0, 0), (109, .aload_n 0, 1, 0, 0), (110, .invokevirtual 191, 3, 179, 1217), (113, .invokevirtual 111, 3, 143, 1073), (116, .ireturn, 1, 0, 0)]
def rw_200 : List Row := [(0, .iconst 0, 1, 0, 0), (1, .istore_n 2, 1, 0, 0), (2, .iconst 0, 1, 0, 0), (3, .istore_n 3, 1, 0, 0), (4, .iload_n 3, 1, 0, 0), (5, .aload_n 0, 1, 0, 0), (6, .getfield 146, 3, 1010, 924), (9, .if_icmp .ge 30, 3, 39, 0), (12, .iload_n 2, 1, 0, 0), (13, .iload_n 1, 1, 0, 0), (14, .iload_n 3, 1, 0, 0), (15, .invokestatic 176, 3, 138, 1214), (18, .ifCond .eq 12, 3, 30, 0), (21, .aload_n 0, 1, 0, 0), (22, .getfield 36, 3, 1014, 928), (25, .iload_n 3, 1, 0, 0), (26, .iaload, 1, 0, 0), (27, .goto 4, 3, 31, 0), (30, .iconst 0, 1, 0, 0), (31, .iadd, 1, 0, 0), (32, .istore_n 2, 1, 0, 0), (33, .iinc 3 1, 3, 0, 0), (36, .goto (-32), 3, 4, 0), (39, .iload_n 2, 1, 0, 0), (40, .ireturn, 1, 0, 0)]
def rw_201 : List Row := [(0, .aload_n 0, 1, 0, 0), (1, .iload_n 1, 1, 0, 0), (2, .iconst 0, 1, 0, 0), (3, .iconst 4, 1, 0, 0), (4, .invokestatic 89, 3, 137, 1039), (7, .invokevirtual 222, 3, 197, 1252), (10, .istore_n 2, 1, 0, 0), (11, .iload_n 2, 1, 0, 0), (12, .ifCond .ge 5, 3, 17, 0), (15, .iload_n 2, 1, 0, 0), (16, .ireturn, 1, 0, 0), (17, .aload_n 0, 1, 0, 0), (18, .aload_n 0, 1, 0, 0), (19, .getfield 39, 3, 1015, 929), (22, .iconst 0, 1, 0, 0), (23, .iaload, 1, 0, 0), (24, .aload_n 0, 1, 0, 0), (25, .getfield 39, 3, 1015, 929), (28, .iconst 1, 1, 0, 0), (29, .iaload, 1, 0, 0), (30, .iload_n 1, 1, 0, 0), (31, .invokevirtual 173, 3, 176, 1166), (34, .ifCond .ne 6, 3, 40, 0), (37, .bipush (-9), 2, 0, 0), (39, .ireturn, 1, 0, 0), (40, .bipush (-9), 2, 0, 0), (42, .istore_n 3, 1, 0, 0), (43, .iconst 0, 1, 0, 0), (44, .istore 4, 2, 0, 0), (46, .iload 4, 2, 0, 0), (48, .aload_n 0, 1, 0, 0), (49, .invokevirtual 183, 3, 180, 1206), (52, .if_icmp .gt 79, 3, 131, 0), (55, .aload_n 0, 1, 0, 0), (56, .aload_n 0, 1, 0, 0), (57, .getfield 39, 3, 1015, 929), (60, .iconst 0, 1, 0, 0), (61, .iaload, 1, 0, 0), (62, .aload_n 0, 1, 0, 0), (63, .getfield 39, 3, 1015, 929), (66, .iconst 1, 1, 0, 0), (67, .iaload, 1, 0, 0), (68, .aload_n 0, 1, 0, 0), (69, .invokevirtual 183, 3, 180, 1206), (72, .iload 4, 2, 0, 0), (74, .iload_n 1, 1, 0, 0), (75, .invokevirtual 187, 3, 178, 1210), (78, .iload_n 3, 1, 0, 0), (79, .bipush (-9), 2, 0, 0), (81, .if_icmp .eq 17, 3, 98, 0), (84, .aload_n 0, 1, 0, 0), (85, .iload 4, 2, 0, 0), (87, .invokevirtual 226, 3, 200, 1264), (90, .aload_n 0, 1, 0, 0), (91, .iload_n 3, 1, 0, 0), (92, .invokevirtual 226, 3, 200, 1264), (95, .if_icmp .ge 7, 3, 102, 0), (98, .iconst 1, 1, 0, 0), (99, .goto 4, 3, 103, 0), (102, .iconst 0, 1, 0, 0), (103, .istore 5, 2, 0, 0), (105, .iload 5, 2, 0, 0), (107, .ifCond .eq 16, 3, 123, 0), (110, .aload_n 0, 1, 0, 0), (111, .invokevirtual 191, 3, 179, 1217), (114, .iload_n 1, 1, 0, 0), (115, .if_icmp .ne 8, 3, 123, 0), (118, .iload 4, 2, 0, 0), (120, .goto 4, 3, 124, 0), (123, .iload_n 3, 1, 0, 0), (124, .istore_n 3, 1, 0, 0), (125, .iinc 4 1, 3, 0, 0), (128, .goto (-82), 3, 46, 0), (131, .iload_n 3, 1, 0, 0), (132, .bipush (-9), 2, 0, 0), (134, .if_icmp .ne 8, 3, 142, 0), (137, .bipush (-9), 2, 0, 0), (139, .goto 13, 3, 152, 0), (142, .aload_n 0, 1, 0, 0), (143, .iload_n 3, 1, 0, 0), (144, .aload_n 0, 1, 0, 0), (145, .iload_n 3, 1, 0, 0), (146, .invokevirtual 226, 3, 200, 1264), (149, .invokevirtual 111, 3, 143, 1073), (152, .ireturn, 1, 0, 0)]
def rw_202 : List Row := [(0, .aload_n 0, 1, 0, 0), (1, .iload_n 1, 1, 0, 0), (2, .iconst 0, 1, 0, 0), (3, .bipush 40, 2, 0, 0), (5, .invokestatic 89, 3, 137, 1039), (8, .invokevirtual 222, 3, 197, 1252), (11, .istore_n 2, 1, 0, 0), (12, .iload_n 2, 1, 0, 0), (13, .ifCond .ge 5, 3, 18, 0), (16, .iload_n 2, 1, 0, 0), (17, .ireturn, 1, 0, 0), (18, .aload_n 0, 1, 0, 0), (19, .invokevirtual 229, 3, 183, 1272), (22, .iconst 0, 1, 0, 0), (23, .istore_n 3, 1, 0, 0), (24, .iload_n 3, 1, 0, 0), (25, .iload_n 1, 1, 0, 0), (26, .if_icmp .ge 17, 3, 43, 0), (29, .aload_n 0, 1, 0, 0), (30, .aload_n 0, 1, 0, 0), (31, .getfield 42, 3, 1016, 930), (34, .invokevirtual 218, 3, 182, 1221), (37, .iinc 3 1, 3, 0, 0), (40, .goto (-16), 3, 24, 0), (43, .aload_n 0, 1, 0, 0), (44, .aload_n 0, 1, 0, 0), (45, .aload_n 0, 1, 0, 0), (46, .getfield 42, 3, 1016, 930), (49, .iconst 0, 1, 0, 0), (50, .iaload, 1, 0, 0), (51, .invokevirtual 232, 3, 175, 1276), (54, .aload_n 0, 1, 0, 0), (55, .getfield 42, 3, 1016, 930), (58, .iconst 0, 1, 0, 0), (59, .iaload, 1, 0, 0), (60, .invokevirtual 111, 3, 143, 1073), (63, .ireturn, 1, 0, 0)]
def rw_203 : List Row := [(0, .aload_n 0, 1, 0, 0), (1, .iload_n 1, 1, 0, 0), (2, .invokevirtual 212, 3, 168, 1190), (5, .ifCond .ne 5, 3, 10, 0), (8, .iconst (-1), 1, 0, 0), (9, .ireturn, 1, 0, 0), (10, .aload_n 0, 1, 0, 0), (11, .invokevirtual 229, 3, 183, 1272), (14, .iconst 0, 1, 0, 0), (15, .istore_n 2, 1, 0, 0), (16, .iload_n 2, 1, 0, 0), (17, .bipush 60, 2, 0, 0), (19, .if_icmp .gt 29, 3, 48, 0), (22, .aload_n 0, 1, 0, 0), (23, .getfield 42, 3, 1016, 930), (26, .iconst 0, 1, 0, 0), (27, .iaload, 1, 0, 0), (28, .iload_n 1, 1, 0, 0), (29, .if_icmp .ne 5, 3, 34, 0), (32, .iload_n 2, 1, 0, 0), (33, .ireturn, 1, 0, 0), (34, .aload_n 0, 1, 0, 0), (35, .aload_n 0, 1, 0, 0), (36, .getfield 42, 3, 1016, 930), (39, .invokevirtual 218, 3, 182, 1221), (42, .iinc 2 1, 3, 0, 0), (45, .goto (-29), 3, 16, 0), (48, .bipush (-9), 2, 0, 0), (50, .ireturn, 1, 0, 0)]
def rw_204 : List Row := [(0, .aload_n 0, 1, 0, 0), (1, .getfield 146, 3, 1010, 924), (4, .ifCond .ne 6, 3, 10, 0), (7, .bipush (-4), 2, 0, 0), (9, .ireturn, 1, 0, 0), (10, .iconst 0, 1, 0, 0), (11, .istore_n 1, 1, 0, 0), (12, .iload_n 1, 1, 0, 0), (13, .bipush 125, 2, 0, 0), (15, .if_icmp .ge 16, 3, 31, 0), (18, .aload_n 0, 1, 0, 0), (19, .getfield 70, 3, 1029, 943), (22, .iload_n 1, 1, 0, 0), (23, .iconst (-1), 1, 0, 0), (24, .iastore, 1, 0, 0), (25, .iinc 1 1, 3, 0, 0), (28, .goto (-16), 3, 12, 0), (31, .aload_n 0, 1, 0, 0), (32, .invokevirtual 229, 3, 183, 1272), (35, .iconst 0, 1, 0, 0), (36, .istore_n 1, 1, 0, 0), (37, .aload_n 0, 1, 0, 0), (38, .getfield 70, 3, 1029, 943), (41, .iconst 5, 1, 0, 0), (42, .aload_n 0, 1, 0, 0), (43, .getfield 42, 3, 1016, 930), (46, .iconst 0, 1, 0, 0), (47, .iaload, 1, 0, 0), (48, .imul, 1, 0, 0), (49, .aload_n 0, 1, 0, 0), (50, .getfield 42, 3, 1016, 930), (53, .iconst 1, 1, 0, 0), (54, .iaload, 1, 0, 0), (55, .iadd, 1, 0, 0), (56, .iaload, 1, 0, 0), (57, .ifCond .ge 38, 3, 95, 0), (60, .aload_n 0, 1, 0, 0), (61, .getfield 70, 3, 1029, 943), (64, .iconst 5, 1, 0, 0), (65, .aload_n 0, 1, 0, 0), (66, .getfield 42, 3, 1016, 930), (69, .iconst 0, 1, 0, 0), (70, .iaload, 1, 0, 0), (71, .imul, 1, 0, 0), (72, .aload_n 0, 1, 0, 0), (73, .getfield 42, 3, 1016, 930), (76, .iconst 1, 1, 0, 0), (77, .iaload, 1, 0, 0), (78, .iadd, 1, 0, 0), (79, .iload_n 1, 1, 0, 0), (80, .iastore, 1, 0, 0), (81, .iinc 1 1, 3, 0, 0), (84, .aload_n 0, 1, 0, 0), (85, .aload_n 0, 1, 0, 0), (86, .getfield 42, 3, 1016, 930), (89, .invokevirtual 218, 3, 182, 1221), (92, .goto (-55), 3, 37, 0), (95, .aload_n 0, 1, 0, 0), (96, .iload_n 1, 1, 0, 0), (97, .aload_n 0, 1, 0, 0), (98, .getfield 70, 3, 1029, 943), (101, .iconst 5, 1, 0, 0), (102, .aload_n 0, 1, 0, 0), (103, .getfield 42, 3, 1016, 930), (106, .iconst 0, 1, 0, 0), (107, .iaload, 1, 0, 0), (108, .imul, 1, 0, 0), (109, .aload_n 0, 1, 0, 0), (110, .getfield 42, 3, 1016, 930), (113, .iconst 1, 1, 0, 0), (114, .iaload, 1, 0, 0), (115, .iadd, 1, 0, 0), (116, .iaload, 1, 0, 0), (117, .isub, 1, 0, 0), (118, .iload_n 1, 1, 0, 0), (119, .invokevirtual 111, 3, 143, 1073), (122, .ireturn, 1, 0, 0)]
def rw_205 : List Row := [(0, .iload_n 1, 1, 0, 0), (1, .istore_n 3, 1, 0, 0), (2, .iload_n 2, 1, 0, 0), (3, .iconst 1, 1, 0, 0), (4, .isub, 1, 0, 0), (5, .istore 4, 2, 0, 0), (7, .iload 4, 2, 0, 0), (9, .ifCond .lt 23, 3, 32, 0), (12, .aload_n 0, 1, 0, 0), (13, .getfield 73, 3, 1030, 944), (16, .iload 4, 2, 0, 0), (18, .iload_n 3, 1, 0, 0), (19, .iconst 5, 1, 0, 0), (20, .irem, 1, 0, 0), (21, .iastore, 1, 0, 0), (22, .iload_n 3, 1, 0, 0), (23, .iconst 5, 1, 0, 0), (24, .idiv, 1, 0, 0), (25, .istore_n 3, 1, 0, 0), (26, .iinc 4 (-1), 3, 0, 0), (29, .goto (-22), 3, 7, 0), (32, .aload_n 0, 1, 0, 0), (33, .getfield 39, 3, 1015, 929), (36, .iconst 0, 1, 0, 0), (37, .iaload, 1, 0, 0), (38, .istore 4, 2, 0, 0), (40, .aload_n 0, 1, 0, 0), (41, .getfield 39, 3, 1015, 929), (44, .iconst 1, 1, 0, 0), (45, .iaload, 1, 0, 0), (46, .istore 5, 2, 0, 0), (48, .iconst 0, 1, 0, 0), (49, .istore 6, 2, 0, 0), (51, .iconst 0, 1, 0, 0), (52, .istore 7, 2, 0, 0), (54, .iload 7, 2, 0, 0), (56, .iload_n 2, 1, 0, 0), (57, .if_icmp .ge 88, 3, 145, 0), (60, .iload 6, 2, 0, 0), (62, .ifCond .lt 83, 3, 145, 0), (65, .aload_n 0, 1, 0, 0), (66, .iload 4, 2, 0, 0), (68, .iload 5, 2, 0, 0), (70, .aload_n 0, 1, 0, 0), (71, .getfield 73, 3, 1030, 944), (74, .iload 7, 2, 0, 0), (76, .iaload, 1, 0, 0), (77, .invokevirtual 173, 3, 176, 1166), (80, .istore 8, 2, 0, 0), (82, .iload 8, 2, 0, 0), (84, .ifCond .eq 19, 3, 103, 0), (87, .aload_n 0, 1, 0, 0), (88, .iload 4, 2, 0, 0), (90, .aload_n 0, 1, 0, 0), (91, .getfield 73, 3, 1030, 944), (94, .iload 7, 2, 0, 0), (96, .iaload, 1, 0, 0), (97, .invokevirtual 170, 3, 171, 1170), (100, .goto 5, 3, 105, 0), (103, .iload 4, 2, 0, 0), (105, .istore 4, 2, 0, 0), (107, .aload_n 0, 1, 0, 0), (108, .getfield 73, 3, 1030, 944), (111, .iload 7, 2, 0, 0), (113, .iaload, 1, 0, 0), (114, .invokestatic 197, 3, 172, 1225), (117, .istore 5, 2, 0, 0), (119, .iload 8, 2, 0, 0), (121, .ifCond .eq 15, 3, 136, 0), (124, .iload 6, 2, 0, 0), (126, .aload_n 0, 1, 0, 0), (127, .iload 4, 2, 0, 0), (129, .invokevirtual 232, 3, 175, 1276), (132, .iadd, 1, 0, 0), (133, .goto 4, 3, 137, 0), (136, .iconst (-1), 1, 0, 0), (137, .istore 6, 2, 0, 0), (139, .iinc 7 1, 3, 0, 0), (142, .goto (-88), 3, 54, 0), (145, .iload 6, 2, 0, 0), (147, .ireturn, 1, 0, 0)]
def rw_206 : List Row := [(0, .aload_n 0, 1, 0, 0), (1, .iload_n 1, 1, 0, 0), (2, .iconst 0, 1, 0, 0), (3, .iconst 5, 1, 0, 0), (4, .invokestatic 89, 3, 137, 1039), (7, .ifCond .eq 14, 3, 21, 0), (10, .iload_n 2, 1, 0, 0), (11, .invokestatic 99, 3, 148, 1058), (14, .ifCond .eq 7, 3, 21, 0), (17, .iconst 1, 1, 0, 0), (18, .goto 4, 3, 22, 0), (21, .iconst 0, 1, 0, 0), (22, .invokevirtual 222, 3, 197, 1252), (25, .istore_n 3, 1, 0, 0), (26, .iload_n 3, 1, 0, 0), (27, .ifCond .ge 5, 3, 32, 0), (30, .iload_n 3, 1, 0, 0), (31, .ireturn, 1, 0, 0), (32, .iconst 1, 1, 0, 0), (33, .istore 4, 2, 0, 0), (35, .iconst 0, 1, 0, 0), (36, .istore 5, 2, 0, 0), (38, .iload 5, 2, 0, 0), (40, .iload_n 1, 1, 0, 0), (41, .if_icmp .ge 15, 3, 56, 0), (44, .iload 4, 2, 0, 0), (46, .iconst 5, 1, 0, 0), (47, .imul, 1, 0, 0), (48, .istore 4, 2, 0, 0), (50, .iinc 5 1, 3, 0, 0), (53, .goto (-15), 3, 38, 0), (56, .iconst 0, 1, 0, 0), (57, .istore 5, 2, 0, 0), (59, .iconst (-1), 1, 0, 0), (60, .istore 6, 2, 0, 0), (62, .iconst 0, 1, 0, 0), (63, .istore 7, 2, 0, 0), (65, .iload 7, 2, 0, 0), (67, .iload 4, 2, 0, 0), (69, .if_icmp .ge 50, 3, 119, 0), (72, .aload_n 0, 1, 0, 0), (73, .iload 7, 2, 0, 0), (75, .iload_n 1, 1, 0, 0), (76, .invokevirtual 235, 3, 205, 1292), (79, .istore 8, 2, 0, 0), (81, .iload 8, 2, 0, 0), (83, .iload 6, 2, 0, 0), (85, .if_icmp .le 8, 3, 93, 0), (88, .iload 7, 2, 0, 0), (90, .goto 5, 3, 95, 0), (93, .iload 5, 2, 0, 0), (95, .istore 5, 2, 0, 0), (97, .iload 8, 2, 0, 0), (99, .iload 6, 2, 0, 0), (101, .if_icmp .le 8, 3, 109, 0), (104, .iload 8, 2, 0, 0), (106, .goto 5, 3, 111, 0), (109, .iload 6, 2, 0, 0), (111, .istore 6, 2, 0, 0), (113, .iinc 7 1, 3, 0, 0), (116, .goto (-51), 3, 65, 0), (119, .aload_n 0, 1, 0, 0), (120, .iload 5, 2, 0, 0), (122, .iload_n 1, 1, 0, 0), (123, .invokevirtual 235, 3, 205, 1292), (126, .pop, 1, 0, 0), (127, .aload_n 0, 1, 0, 0), (128, .getfield 17, 3, 1005, 919), (131, .iload_n 2, 1, 0, 0), (132, .iload_n 1, 1, 0, 0), (133, .iastore, 1, 0, 0), (134, .iconst 0, 1, 0, 0), (135, .istore 7, 2, 0, 0), (137, .iload 7, 2, 0, 0), (139, .iload_n 1, 1, 0, 0), (140, .if_icmp .ge 28, 3, 168, 0), (143, .aload_n 0, 1, 0, 0), (144, .getfield 20, 3, 1006, 920), (147, .bipush 40, 2, 0, 0), (149, .iload_n 2, 1, 0, 0), (150, .imul, 1, 0, 0), (151, .iload 7, 2, 0, 0), (153, .iadd, 1, 0, 0), (154, .aload_n 0, 1, 0, 0), (155, .getfield 73, 3, 1030, 944), (158, .iload 7, 2, 0, 0), (160, .iaload, 1, 0, 0), (161, .iastore, 1, 0, 0), (162, .iinc 7 1, 3, 0, 0), (165, .goto (-28), 3, 137, 0), (168, .iload 6, 2, 0, 0), (170, .ireturn, 1, 0, 0)]
def rw_207 : List Row := [(0, .iload_n 2, 1, 0, 0), (1, .ifCond .eq 10, 3, 11, 0), (4, .iload_n 1, 1, 0, 0), (5, .invokestatic 99, 3, 148, 1058), (8, .ifCond .ne 5, 3, 13, 0), (11, .iconst (-1), 1, 0, 0), (12, .ireturn, 1, 0, 0), (13, .iload_n 3, 1, 0, 0), (14, .ifCond .ne 13, 3, 27, 0), (17, .aload_n 0, 1, 0, 0), (18, .getfield 146, 3, 1010, 924), (21, .ifCond .ne 6, 3, 27, 0), (24, .bipush (-4), 2, 0, 0), (26, .ireturn, 1, 0, 0), (27, .aload_n 0, 1, 0, 0), (28, .getfield 17, 3, 1005, 919), (31, .iload_n 1, 1, 0, 0), (32, .iaload, 1, 0, 0), (33, .ifCond .ge 9, 3, 42, 0), (36, .aload_n 0, 1, 0, 0), (37, .iconst 1, 1, 0, 0), (38, .invokevirtual 103, 3, 140, 1061), (41, .ireturn, 1, 0, 0), (42, .aload_n 0, 1, 0, 0), (43, .getfield 17, 3, 1005, 919), (46, .iload_n 1, 1, 0, 0), (47, .iaload, 1, 0, 0), (48, .iconst 2, 1, 0, 0), (49, .irem, 1, 0, 0), (50, .ifCond .eq 9, 3, 59, 0), (53, .aload_n 0, 1, 0, 0), (54, .iconst 5, 1, 0, 0), (55, .invokevirtual 103, 3, 140, 1061), (58, .ireturn, 1, 0, 0), (59, .iconst 1, 1, 0, 0), (60, .istore 4, 2, 0, 0), (62, .iconst 0, 1, 0, 0), (63, .istore 5, 2, 0, 0), (65, .iload 5, 2, 0, 0), (67, .aload_n 0, 1, 0, 0), (68, .getfield 17, 3, 1005, 919), (71, .iload_n 1, 1, 0, 0), (72, .iaload, 1, 0, 0), (73, .if_icmp .ge 75, 3, 148, 0), (76, .iload_n 3, 1, 0, 0), (77, .ifCond .eq 17, 3, 94, 0), (80, .aload_n 0, 1, 0, 0), (81, .aload_n 0, 1, 0, 0), (82, .iload_n 1, 1, 0, 0), (83, .iload 5, 2, 0, 0), (85, .invokevirtual 107, 3, 149, 1069), (88, .invokevirtual 212, 3, 168, 1190), (91, .goto 14, 3, 105, 0), (94, .aload_n 0, 1, 0, 0), (95, .aload_n 0, 1, 0, 0), (96, .iload_n 1, 1, 0, 0), (97, .iload 5, 2, 0, 0), (99, .invokevirtual 107, 3, 149, 1069), (102, .invokevirtual 200, 3, 167, 1139), (105, .istore 6, 2, 0, 0), (107, .iload 4, 2, 0, 0), (109, .ifCond .eq 30, 3, 139, 0), (112, .iload 6, 2, 0, 0), (114, .ifCond .eq 25, 3, 139, 0), (117, .aload_n 0, 1, 0, 0), (118, .iload_n 1, 1, 0, 0), (119, .iload 5, 2, 0, 0), (121, .iconst 1, 1, 0, 0), (122, .iadd, 1, 0, 0), (123, .invokevirtual 107, 3, 149, 1069), (126, .iconst 0, 1, 0, 0), (127, .bipush 30, 2, 0, 0), (129, .invokestatic 89, 3, 137, 1039), (132, .ifCond .eq 7, 3, 139, 0), (135, .iconst 1, 1, 0, 0), (136, .goto 4, 3, 140, 0), (139, .iconst 0, 1, 0, 0), (140, .istore 4, 2, 0, 0), (142, .iinc 5 2, 3, 0, 0), (145, .goto (-80), 3, 65, 0), (148, .iload 4, 2, 0, 0), (150, .ifCond .eq 7, 3, 157, 0), (153, .iconst 0, 1, 0, 0), (154, .goto 8, 3, 162, 0), (157, .aload_n 0, 1, 0, 0), (158, .iconst 3, 1, 0, 0), (159, .invokevirtual 103, 3, 140, 1061), (162, .ireturn, 1, 0, 0)]
def rw_208 : List Row := [(0, .iconst 0, 1, 0, 0), (1, .istore_n 2, 1, 0, 0), (2, .iconst 0, 1, 0, 0), (3, .istore_n 3, 1, 0, 0), (4, .iload_n 3, 1, 0, 0), (5, .aload_n 0, 1, 0, 0), (6, .getfield 149, 3, 1011, 925), (9, .aload_n 0, 1, 0, 0), (10, .getfield 152, 3, 1012, 926), (13, .imul, 1, 0, 0), (14, .if_icmp .ge 83, 3, 97, 0), (17, .iconst 1, 1, 0, 0), (18, .istore 4, 2, 0, 0), (20, .iconst 0, 1, 0, 0), (21, .istore 5, 2, 0, 0), (23, .iload 5, 2, 0, 0), (25, .aload_n 0, 1, 0, 0), (26, .getfield 17, 3, 1005, 919), (29, .iload_n 1, 1, 0, 0), (30, .iaload, 1, 0, 0), (31, .if_icmp .ge 45, 3, 76, 0), (34, .iload 4, 2, 0, 0), (36, .ifCond .eq 31, 3, 67, 0), (39, .aload_n 0, 1, 0, 0), (40, .aload_n 0, 1, 0, 0), (41, .iload_n 1, 1, 0, 0), (42, .iload 5, 2, 0, 0), (44, .invokevirtual 107, 3, 149, 1069), (47, .iload_n 3, 1, 0, 0), (48, .invokevirtual 167, 3, 174, 1147), (51, .aload_n 0, 1, 0, 0), (52, .iload_n 1, 1, 0, 0), (53, .iload 5, 2, 0, 0), (55, .iconst 1, 1, 0, 0), (56, .iadd, 1, 0, 0), (57, .invokevirtual 107, 3, 149, 1069), (60, .if_icmp .ne 7, 3, 67, 0), (63, .iconst 1, 1, 0, 0), (64, .goto 4, 3, 68, 0), (67, .iconst 0, 1, 0, 0), (68, .istore 4, 2, 0, 0), (70, .iinc 5 2, 3, 0, 0), (73, .goto (-50), 3, 23, 0), (76, .iload_n 2, 1, 0, 0), (77, .iload 4, 2, 0, 0), (79, .ifCond .eq 9, 3, 88, 0), (82, .iconst 1, 1, 0, 0), (83, .iload_n 3, 1, 0, 0), (84, .ishl, 1, 0, 0), (85, .goto 4, 3, 89, 0), (88, .iconst 0, 1, 0, 0), (89, .ior, 1, 0, 0), (90, .istore_n 2, 1, 0, 0), (91, .iinc 3 1, 3, 0, 0), (94, .goto (-90), 3, 4, 0), (97, .iload_n 2, 1, 0, 0), (98, .ireturn, 1, 0, 0)]
def rw_209 : List Row := [(0, .aload_n 0, 1, 0, 0), (1, .iload_n 1, 1, 0, 0), (2, .iconst 1, 1, 0, 0), (3, .iconst 0, 1, 0, 0), (4, .invokevirtual 238, 3, 207, 1300), (7, .istore_n 2, 1, 0, 0), (8, .iload_n 2, 1, 0, 0), (9, .ifCond .ge 5, 3, 14, 0), (12, .iload_n 2, 1, 0, 0), (13, .ireturn, 1, 0, 0), (14, .aload_n 0, 1, 0, 0), (15, .iload_n 1, 1, 0, 0), (16, .invokevirtual 242, 3, 208, 1304), (19, .istore_n 3, 1, 0, 0), (20, .aload_n 0, 1, 0, 0), (21, .iload_n 3, 1, 0, 0), (22, .invokestatic 245, 3, 139, 1308), (25, .iload_n 3, 1, 0, 0), (26, .invokevirtual 111, 3, 143, 1073), (29, .ireturn, 1, 0, 0)]
def rw_210 : List Row := [(0, .iconst 0, 1, 0, 0), (1, .istore_n 3, 1, 0, 0), (2, .iconst 0, 1, 0, 0), (3, .istore 4, 2, 0, 0), (5, .iload 4, 2, 0, 0), (7, .bipush 30, 2, 0, 0), (9, .if_icmp .gt 79, 3, 88, 0), (12, .iconst 0, 1, 0, 0), (13, .istore 5, 2, 0, 0), (15, .iconst 0, 1, 0, 0), (16, .istore 6, 2, 0, 0), (18, .iload 6, 2, 0, 0), (20, .aload_n 0, 1, 0, 0), (21, .getfield 149, 3, 1011, 925), (24, .aload_n 0, 1, 0, 0), (25, .getfield 152, 3, 1012, 926), (28, .imul, 1, 0, 0), (29, .if_icmp .ge 40, 3, 69, 0), (32, .iload 5, 2, 0, 0), (34, .iload_n 2, 1, 0, 0), (35, .iload 6, 2, 0, 0), (37, .invokestatic 176, 3, 138, 1214), (40, .ifCond .eq 19, 3, 59, 0), (43, .aload_n 0, 1, 0, 0), (44, .iload_n 1, 1, 0, 0), (45, .iload 6, 2, 0, 0), (47, .invokevirtual 167, 3, 174, 1147), (50, .iload 4, 2, 0, 0), (52, .if_icmp .ne 7, 3, 59, 0), (55, .iconst 1, 1, 0, 0), (56, .goto 4, 3, 60, 0), (59, .iconst 0, 1, 0, 0), (60, .iadd, 1, 0, 0), (61, .istore 5, 2, 0, 0), (63, .iinc 6 1, 3, 0, 0), (66, .goto (-48), 3, 18, 0), (69, .iload 5, 2, 0, 0), (71, .iload_n 3, 1, 0, 0), (72, .if_icmp .le 8, 3, 80, 0), (75, .iload 5, 2, 0, 0), (77, .goto 4, 3, 81, 0), (80, .iload_n 3, 1, 0, 0), (81, .istore_n 3, 1, 0, 0), (82, .iinc 4 1, 3, 0, 0), (85, .goto (-80), 3, 5, 0), (88, .iload_n 3, 1, 0, 0), (89, .ireturn, 1, 0, 0)]
def rw_211 : List Row := [(0, .aload_n 0, 1, 0, 0), (1, .iload_n 1, 1, 0, 0), (2, .iconst 1, 1, 0, 0), (3, .iconst 0, 1, 0, 0), (4, .invokevirtual 238, 3, 207, 1300), (7, .istore_n 2, 1, 0, 0), (8, .iload_n 2, 1, 0, 0), (9, .ifCond .ge 5, 3, 14, 0), (12, .iload_n 2, 1, 0, 0), (13, .ireturn, 1, 0, 0), (14, .aload_n 0, 1, 0, 0), (15, .iload_n 1, 1, 0, 0), (16, .invokevirtual 242, 3, 208, 1304), (19, .istore_n 3, 1, 0, 0), (20, .iload_n 3, 1, 0, 0), (21, .ifCond .ne 6, 3, 27, 0), (24, .bipush (-9), 2, 0, 0), (26, .ireturn, 1, 0, 0), (27, .iconst 0, 1, 0, 0), (28, .istore 4, 2, 0, 0), (30, .ldc 248, 2, 1000000, 1315), (32, .istore 5, 2, 0, 0), (34, .iconst 0, 1, 0, 0), (35, .istore 6, 2, 0, 0), (37, .iload 6, 2, 0, 0), (39, .aload_n 0, 1, 0, 0), (40, .getfield 146, 3, 1010, 924), (43, .if_icmp .ge 50, 3, 93, 0), (46, .aload_n 0, 1, 0, 0), (47, .iload 6, 2, 0, 0), (49, .iload_n 3, 1, 0, 0), (50, .invokevirtual 249, 3, 210, 1316), (53, .istore 7, 2, 0, 0), (55, .iload 7, 2, 0, 0), (57, .iload 5, 2, 0, 0), (59, .if_icmp .ge 8, 3, 67, 0), (62, .iload 6, 2, 0, 0), (64, .goto 5, 3, 69, 0), (67, .iload 4, 2, 0, 0), (69, .istore 4, 2, 0, 0), (71, .iload 7, 2, 0, 0), (73, .iload 5, 2, 0, 0), (75, .if_icmp .ge 8, 3, 83, 0), (78, .iload 7, 2, 0, 0), (80, .goto 5, 3, 85, 0), (83, .iload 5, 2, 0, 0), (85, .istore 5, 2, 0, 0), (87, .iinc 6 1, 3, 0, 0), (90, .goto (-53), 3, 37, 0), (93, .aload_n 0, 1, 0, 0), (94, .iload 5, 2, 0, 0), (96, .iload 4, 2, 0, 0), (98, .invokevirtual 111, 3, 143, 1073), (101, .ireturn, 1, 0, 0)]
def rw_212 : List Row := [(0, .iconst 0, 1, 0, 0), (1, .istore_n 3, 1, 0, 0), (2, .iconst 0, 1, 0, 0), (3, .istore 4, 2, 0, 0), (5, .iload 4, 2, 0, 0), (7, .iconst 5, 1, 0, 0), (8, .if_icmp .gt 93, 3, 101, 0), (11, .iconst 1, 1, 0, 0), (12, .istore 5, 2, 0, 0), (14, .iconst 0, 1, 0, 0), (15, .istore 6, 2, 0, 0), (17, .iload 6, 2, 0, 0), (19, .aload_n 0, 1, 0, 0), (20, .getfield 17, 3, 1005, 919), (23, .iload_n 2, 1, 0, 0), (24, .iaload, 1, 0, 0), (25, .if_icmp .ge 54, 3, 79, 0), (28, .iload 5, 2, 0, 0), (30, .ifCond .eq 40, 3, 70, 0), (33, .aload_n 0, 1, 0, 0), (34, .iload 4, 2, 0, 0), (36, .aload_n 0, 1, 0, 0), (37, .getfield 39, 3, 1015, 929), (40, .iconst 3, 1, 0, 0), (41, .iload_n 1, 1, 0, 0), (42, .iadd, 1, 0, 0), (43, .iaload, 1, 0, 0), (44, .aload_n 0, 1, 0, 0), (45, .iload_n 2, 1, 0, 0), (46, .iload 6, 2, 0, 0), (48, .invokevirtual 107, 3, 149, 1069), (51, .invokevirtual 164, 3, 173, 1151), (54, .aload_n 0, 1, 0, 0), (55, .iload_n 2, 1, 0, 0), (56, .iload 6, 2, 0, 0), (58, .iconst 1, 1, 0, 0), (59, .iadd, 1, 0, 0), (60, .invokevirtual 107, 3, 149, 1069), (63, .if_icmp .ne 7, 3, 70, 0), (66, .iconst 1, 1, 0, 0), (67, .goto 4, 3, 71, 0), (70, .iconst 0, 1, 0, 0), (71, .istore 5, 2, 0, 0), (73, .iinc 6 2, 3, 0, 0), (76, .goto (-59), 3, 17, 0), (79, .iload_n 3, 1, 0, 0), (80, .iload 5, 2, 0, 0), (82, .ifCond .eq 10, 3, 92, 0), (85, .iconst 1, 1, 0, 0), (86, .iload 4, 2, 0, 0), (88, .ishl, 1, 0, 0), (89, .goto 4, 3, 93, 0), (92, .iconst 0, 1, 0, 0), (93, .ior, 1, 0, 0), (94, .istore_n 3, 1, 0, 0), (95, .iinc 4 1, 3, 0, 0), (98, .goto (-93), 3, 5, 0), (101, .iload_n 3, 1, 0, 0), (102, .ireturn, 1, 0, 0)]
def rw_213 : List Row := [(0, .aload_n 0, 1, 0, 0), (1, .iload_n 2, 1, 0, 0), (2, .aload_n 0, 1, 0, 0), (3, .iload_n 1, 1, 0, 0), (4, .invokevirtual 200, 3, 167, 1139), (7, .iconst 1, 1, 0, 0), (8, .invokevirtual 238, 3, 207, 1300), (11, .istore_n 3, 1, 0, 0), (12, .iload_n 3, 1, 0, 0), (13, .ifCond .ge 7, 3, 20, 0), (16, .iload_n 3, 1, 0, 0), (17, .goto 9, 3, 26, 0), (20, .aload_n 0, 1, 0, 0), (21, .iload_n 1, 1, 0, 0), (22, .iload_n 2, 1, 0, 0), (23, .invokevirtual 252, 3, 212, 1324), (26, .ireturn, 1, 0, 0)]
def rw_214 : List Row := [(0, .iconst 0, 1, 0, 0), (1, .istore 4, 2, 0, 0), (3, .iconst 0, 1, 0, 0), (4, .istore 5, 2, 0, 0), (6, .iload 5, 2, 0, 0), (8, .bipush 30, 2, 0, 0), (10, .if_icmp .gt 82, 3, 92, 0), (13, .iconst 0, 1, 0, 0), (14, .istore 6, 2, 0, 0), (16, .iconst 0, 1, 0, 0), (17, .istore 7, 2, 0, 0), (19, .iload 7, 2, 0, 0), (21, .iconst 5, 1, 0, 0), (22, .if_icmp .gt 48, 3, 70, 0), (25, .iload 6, 2, 0, 0), (27, .iload_n 2, 1, 0, 0), (28, .iload 7, 2, 0, 0), (30, .invokestatic 176, 3, 138, 1214), (33, .ifCond .eq 27, 3, 60, 0), (36, .aload_n 0, 1, 0, 0), (37, .iload 7, 2, 0, 0), (39, .aload_n 0, 1, 0, 0), (40, .getfield 39, 3, 1015, 929), (43, .iconst 3, 1, 0, 0), (44, .iload_n 1, 1, 0, 0), (45, .iadd, 1, 0, 0), (46, .iaload, 1, 0, 0), (47, .iload_n 3, 1, 0, 0), (48, .invokevirtual 164, 3, 173, 1151), (51, .iload 5, 2, 0, 0), (53, .if_icmp .ne 7, 3, 60, 0), (56, .iconst 1, 1, 0, 0), (57, .goto 4, 3, 61, 0), (60, .iconst 0, 1, 0, 0), (61, .iadd, 1, 0, 0), (62, .istore 6, 2, 0, 0), (64, .iinc 7 1, 3, 0, 0), (67, .goto (-48), 3, 19, 0), (70, .iload 6, 2, 0, 0), (72, .iload 4, 2, 0, 0), (74, .if_icmp .le 8, 3, 82, 0), (77, .iload 6, 2, 0, 0), (79, .goto 5, 3, 84, 0), (82, .iload 4, 2, 0, 0), (84, .istore 4, 2, 0, 0), (86, .iinc 5 1, 3, 0, 0), (89, .goto (-83), 3, 6, 0), (92, .iload 4, 2, 0, 0), (94, .ireturn, 1, 0, 0)]
def rw_215 : List Row := [(0, .aload_n 0, 1, 0, 0), (1, .iload_n 2, 1, 0, 0), (2, .aload_n 0, 1, 0, 0), (3, .iload_n 1, 1, 0, 0), (4, .invokevirtual 200, 3, 167, 1139), (7, .iconst 1, 1, 0, 0), (8, .invokevirtual 238, 3, 207, 1300), (11, .istore_n 3, 1, 0, 0), (12, .iload_n 3, 1, 0, 0), (13, .ifCond .ge 5, 3, 18, 0), (16, .iload_n 3, 1, 0, 0), (17, .ireturn, 1, 0, 0), (18, .aload_n 0, 1, 0, 0), (19, .iload_n 1, 1, 0, 0), (20, .iload_n 2, 1, 0, 0), (21, .invokevirtual 252, 3, 212, 1324), (24, .istore 4, 2, 0, 0), (26, .iload 4, 2, 0, 0), (28, .ifCond .ne 6, 3, 34, 0), (31, .bipush (-9), 2, 0, 0), (33, .ireturn, 1, 0, 0), (34, .iconst 0, 1, 0, 0), (35, .istore 5, 2, 0, 0), (37, .ldc 248, 2, 1000000, 1315), (39, .istore 6, 2, 0, 0), (41, .iconst 0, 1, 0, 0), (42, .istore 7, 2, 0, 0), (44, .iload 7, 2, 0, 0), (46, .aload_n 0, 1, 0, 0), (47, .getfield 149, 3, 1011, 925), (50, .aload_n 0, 1, 0, 0), (51, .getfield 152, 3, 1012, 926), (54, .imul, 1, 0, 0), (55, .if_icmp .ge 52, 3, 107, 0), (58, .aload_n 0, 1, 0, 0), (59, .iload_n 1, 1, 0, 0), (60, .iload 4, 2, 0, 0), (62, .iload 7, 2, 0, 0), (64, .invokevirtual 255, 3, 214, 1332), (67, .istore 8, 2, 0, 0), (69, .iload 8, 2, 0, 0), (71, .iload 6, 2, 0, 0), (73, .if_icmp .ge 8, 3, 81, 0), (76, .iload 7, 2, 0, 0), (78, .goto 5, 3, 83, 0), (81, .iload 5, 2, 0, 0), (83, .istore 5, 2, 0, 0), (85, .iload 8, 2, 0, 0), (87, .iload 6, 2, 0, 0), (89, .if_icmp .ge 8, 3, 97, 0), (92, .iload 8, 2, 0, 0), (94, .goto 5, 3, 99, 0), (97, .iload 6, 2, 0, 0), (99, .istore 6, 2, 0, 0), (101, .iinc 7 1, 3, 0, 0), (104, .goto (-60), 3, 44, 0), (107, .aload_n 0, 1, 0, 0), (108, .iload 6, 2, 0, 0), (110, .iload 5, 2, 0, 0), (112, .invokevirtual 111, 3, 143, 1073), (115, .ireturn, 1, 0, 0)]
def rw_216 : List Row := [(0, .iconst 0, 1, 0, 0), (1, .istore_n 3, 1, 0, 0), (2, .iload_n 3, 1, 0, 0), (3, .aload_n 0, 1, 0, 0), (4, .getfield 149, 3, 1011, 925), (7, .aload_n 0, 1, 0, 0), (8, .getfield 152, 3, 1012, 926), (11, .imul, 1, 0, 0), (12, .if_icmp .ge 36, 3, 48, 0), (15, .aload_n 0, 1, 0, 0), (16, .getfield 76, 3, 1031, 945), (19, .iload_n 3, 1, 0, 0), (20, .iload_n 3, 1, 0, 0), (21, .iload_n 1, 1, 0, 0), (22, .if_icmp .ne 17, 3, 39, 0), (25, .iload_n 1, 1, 0, 0), (26, .aload_n 0, 1, 0, 0), (27, .getfield 39, 3, 1015, 929), (30, .iconst 0, 1, 0, 0), (31, .iaload, 1, 0, 0), (32, .if_icmp .eq 7, 3, 39, 0), (35, .iconst 0, 1, 0, 0), (36, .goto 5, 3, 41, 0), (39, .ldc 248, 2, 1000000, 1315), (41, .iastore, 1, 0, 0), (42, .iinc 3 1, 3, 0, 0), (45, .goto (-43), 3, 2, 0), (48, .iconst 1, 1, 0, 0), (49, .istore_n 3, 1, 0, 0), (50, .iload_n 3, 1, 0, 0), (51, .ifCond .eq 127, 3, 178, 0), (54, .iconst 0, 1, 0, 0), (55, .istore_n 3, 1, 0, 0), (56, .iconst 0, 1, 0, 0), (57, .istore 4, 2, 0, 0), (59, .iload 4, 2, 0, 0), (61, .aload_n 0, 1, 0, 0), (62, .getfield 149, 3, 1011, 925), (65, .aload_n 0, 1, 0, 0), (66, .getfield 152, 3, 1012, 926), (69, .imul, 1, 0, 0), (70, .if_icmp .ge 105, 3, 175, 0), (73, .iconst 1, 1, 0, 0), (74, .istore 5, 2, 0, 0), (76, .iload 5, 2, 0, 0), (78, .iconst 4, 1, 0, 0), (79, .if_icmp .gt 90, 3, 169, 0), (82, .aload_n 0, 1, 0, 0), (83, .iload 4, 2, 0, 0), (85, .iload 5, 2, 0, 0), (87, .invokevirtual 170, 3, 171, 1170), (90, .istore 6, 2, 0, 0), (92, .iload 6, 2, 0, 0), (94, .ifCond .lt 24, 3, 118, 0), (97, .iload 4, 2, 0, 0), (99, .aload_n 0, 1, 0, 0), (100, .getfield 39, 3, 1015, 929), (103, .iconst 0, 1, 0, 0), (104, .iaload, 1, 0, 0), (105, .if_icmp .eq 13, 3, 118, 0), (108, .iload 4, 2, 0, 0), (110, .iload_n 2, 1, 0, 0), (111, .if_icmp .eq 7, 3, 118, 0), (114, .iconst 1, 1, 0, 0), (115, .goto 4, 3, 119, 0), (118, .iconst 0, 1, 0, 0), (119, .istore 7, 2, 0, 0), (121, .iload 7, 2, 0, 0), (123, .ifCond .eq 40, 3, 163, 0), (126, .aload_n 0, 1, 0, 0), (127, .getfield 76, 3, 1031, 945), (130, .iload 6, 2, 0, 0), (132, .iaload, 1, 0, 0), (133, .iconst 1, 1, 0, 0), (134, .iadd, 1, 0, 0), (135, .aload_n 0, 1, 0, 0), (136, .getfield 76, 3, 1031, 945), (139, .iload 4, 2, 0, 0), (141, .iaload, 1, 0, 0), (142, .if_icmp .ge 21, 3, 163, 0), (145, .aload_n 0, 1, 0, 0), (146, .getfield 76, 3, 1031, 945), (149, .iload 4, 2, 0, 0), (151, .aload_n 0, 1, 0, 0), (152, .getfield 76, 3, 1031, 945), (155, .iload 6, 2, 0, 0), (157, .iaload, 1, 0, 0), (158, .iconst 1, 1, 0, 0), (159, .iadd, 1, 0, 0), (160, .iastore, 1, 0, 0), (161, .iconst 1, 1, 0, 0), (162, .istore_n 3, 1, 0, 0), (163, .iinc 5 1, 3, 0, 0), (166, .goto (-90), 3, 76, 0), (169, .iinc 4 1, 3, 0, 0), (172, .goto (-113), 3, 59, 0), (175, .goto (-125), 3, 50, 0), (178, .return_, 1, 0, 0)]
def rw_217 : List Row := [(0, .aload_n 0, 1, 0, 0), (1, .iload_n 1, 1, 0, 0), (2, .invokevirtual 212, 3, 168, 1190), (5, .ifCond .eq 11, 3, 16, 0), (8, .aload_n 0, 1, 0, 0), (9, .iload_n 2, 1, 0, 0), (10, .invokevirtual 212, 3, 168, 1190), (13, .ifCond .ne 5, 3, 18, 0), (16, .iconst (-1), 1, 0, 0), (17, .ireturn, 1, 0, 0), (18, .aload_n 0, 1, 0, 0), (19, .iload_n 2, 1, 0, 0), (20, .iconst (-1), 1, 0, 0), (21, .invokevirtual 258, 3, 216, 1340), (24, .aload_n 0, 1, 0, 0), (25, .getfield 76, 3, 1031, 945), (28, .iload_n 1, 1, 0, 0), (29, .iaload, 1, 0, 0), (30, .ldc 248, 2, 1000000, 1315), (32, .if_icmp .lt 6, 3, 38, 0), (35, .bipush (-9), 2, 0, 0), (37, .ireturn, 1, 0, 0), (38, .iconst 0, 1, 0, 0), (39, .istore_n 3, 1, 0, 0), (40, .iconst 4, 1, 0, 0), (41, .istore 4, 2, 0, 0), (43, .iload 4, 2, 0, 0), (45, .ifCond .le 48, 3, 93, 0), (48, .aload_n 0, 1, 0, 0), (49, .iload_n 1, 1, 0, 0), (50, .iload 4, 2, 0, 0), (52, .invokevirtual 170, 3, 171, 1170), (55, .istore 5, 2, 0, 0), (57, .iload 5, 2, 0, 0), (59, .ifCond .lt 26, 3, 85, 0), (62, .aload_n 0, 1, 0, 0), (63, .getfield 76, 3, 1031, 945), (66, .iload 5, 2, 0, 0), (68, .iaload, 1, 0, 0), (69, .aload_n 0, 1, 0, 0), (70, .getfield 76, 3, 1031, 945), (73, .iload_n 1, 1, 0, 0), (74, .iaload, 1, 0, 0), (75, .iconst 1, 1, 0, 0), (76, .isub, 1, 0, 0), (77, .if_icmp .ne 8, 3, 85, 0), (80, .iload 4, 2, 0, 0), (82, .goto 4, 3, 86, 0), (85, .iload_n 3, 1, 0, 0), (86, .istore_n 3, 1, 0, 0), (87, .iinc 4 (-1), 3, 0, 0), (90, .goto (-47), 3, 43, 0), (93, .aload_n 0, 1, 0, 0), (94, .iload_n 3, 1, 0, 0), (95, .aload_n 0, 1, 0, 0), (96, .getfield 76, 3, 1031, 945), (99, .iload_n 1, 1, 0, 0), (100, .iaload, 1, 0, 0), (101, .invokevirtual 111, 3, 143, 1073), (104, .ireturn, 1, 0, 0)]
def rw_218 : List Row := [(0, .aload_n 0, 1, 0, 0), (1, .iload_n 1, 1, 0, 0), (2, .invokevirtual 212, 3, 168, 1190), (5, .ifCond .eq 16, 3, 21, 0), (8, .aload_n 0, 1, 0, 0), (9, .iload_n 2, 1, 0, 0), (10, .invokevirtual 212, 3, 168, 1190), (13, .ifCond .eq 8, 3, 21, 0), (16, .iload_n 1, 1, 0, 0), (17, .iload_n 2, 1, 0, 0), (18, .if_icmp .ne 5, 3, 23, 0), (21, .iconst (-1), 1, 0, 0), (22, .ireturn, 1, 0, 0), (23, .iconst 0, 1, 0, 0), (24, .istore_n 3, 1, 0, 0), (25, .iconst 0, 1, 0, 0), (26, .istore 4, 2, 0, 0), (28, .iload 4, 2, 0, 0), (30, .aload_n 0, 1, 0, 0), (31, .getfield 149, 3, 1011, 925), (34, .aload_n 0, 1, 0, 0), (35, .getfield 152, 3, 1012, 926), (38, .imul, 1, 0, 0), (39, .if_icmp .ge 61, 3, 100, 0), (42, .iload 4, 2, 0, 0), (44, .iload_n 1, 1, 0, 0), (45, .if_icmp .eq 49, 3, 94, 0), (48, .iload 4, 2, 0, 0), (50, .iload_n 2, 1, 0, 0), (51, .if_icmp .eq 43, 3, 94, 0), (54, .iload 4, 2, 0, 0), (56, .aload_n 0, 1, 0, 0), (57, .getfield 39, 3, 1015, 929), (60, .iconst 0, 1, 0, 0), (61, .iaload, 1, 0, 0), (62, .if_icmp .eq 32, 3, 94, 0), (65, .aload_n 0, 1, 0, 0), (66, .iload_n 2, 1, 0, 0), (67, .iload 4, 2, 0, 0), (69, .invokevirtual 258, 3, 216, 1340), (72, .iload_n 3, 1, 0, 0), (73, .aload_n 0, 1, 0, 0), (74, .getfield 76, 3, 1031, 945), (77, .iload_n 1, 1, 0, 0), (78, .iaload, 1, 0, 0), (79, .ldc 248, 2, 1000000, 1315), (81, .if_icmp .lt 10, 3, 91, 0), (84, .iconst 1, 1, 0, 0), (85, .iload 4, 2, 0, 0), (87, .ishl, 1, 0, 0), (88, .goto 4, 3, 92, 0), (91, .iconst 0, 1, 0, 0), (92, .ior, 1, 0, 0), (93, .istore_n 3, 1, 0, 0), (94, .iinc 4 1, 3, 0, 0), (97, .goto (-69), 3, 28, 0), (100, .iload_n 3, 1, 0, 0), (101, .ireturn, 1, 0, 0)]
def rw_219 : List Row := [(0, .aload_n 0, 1, 0, 0), (1, .iload_n 1, 1, 0, 0), (2, .iconst 0, 1, 0, 0), (3, .bipush 6, 2, 0, 0), (5, .invokestatic 89, 3, 137, 1039), (8, .invokevirtual 222, 3, 197, 1252), (11, .istore_n 2, 1, 0, 0), (12, .iload_n 2, 1, 0, 0), (13, .ifCond .ge 5, 3, 18, 0), (16, .iload_n 2, 1, 0, 0), (17, .ireturn, 1, 0, 0), (18, .aload_n 0, 1, 0, 0), (19, .getfield 149, 3, 1011, 925), (22, .aload_n 0, 1, 0, 0), (23, .getfield 152, 3, 1012, 926), (26, .imul, 1, 0, 0), (27, .istore_n 3, 1, 0, 0), (28, .iconst 0, 1, 0, 0), (29, .istore 4, 2, 0, 0), (31, .iload 4, 2, 0, 0), (33, .iload_n 3, 1, 0, 0), (34, .if_icmp .ge 22, 3, 56, 0), (37, .aload_n 0, 1, 0, 0), (38, .getfield 79, 3, 1032, 946), (41, .iload 4, 2, 0, 0), (43, .aload_n 0, 1, 0, 0), (44, .iload 4, 2, 0, 0), (46, .invokevirtual 232, 3, 175, 1276), (49, .iastore, 1, 0, 0), (50, .iinc 4 1, 3, 0, 0), (53, .goto (-22), 3, 31, 0), (56, .iload_n 1, 1, 0, 0), (57, .iconst 1, 1, 0, 0), (58, .isub, 1, 0, 0), (59, .istore 4, 2, 0, 0), (61, .iload 4, 2, 0, 0), (63, .ifCond .lt 188, 3, 251, 0), (66, .iconst 0, 1, 0, 0), (67, .istore 5, 2, 0, 0), (69, .iload 5, 2, 0, 0), (71, .iload_n 3, 1, 0, 0), (72, .if_icmp .ge 144, 3, 216, 0), (75, .aload_n 0, 1, 0, 0), (76, .getfield 82, 3, 1033, 947), (79, .iload 5, 2, 0, 0), (81, .aload_n 0, 1, 0, 0), (82, .getfield 79, 3, 1032, 946), (85, .iload 5, 2, 0, 0), (87, .iaload, 1, 0, 0), (88, .iastore, 1, 0, 0), (89, .iconst 1, 1, 0, 0), (90, .istore 6, 2, 0, 0), (92, .iload 6, 2, 0, 0), (94, .iconst 4, 1, 0, 0), (95, .if_icmp .gt 115, 3, 210, 0), (98, .aload_n 0, 1, 0, 0), (99, .iload 5, 2, 0, 0), (101, .iload 6, 2, 0, 0), (103, .invokevirtual 170, 3, 171, 1170), (106, .ifCond .ge 13, 3, 119, 0), (109, .aload_n 0, 1, 0, 0), (110, .getfield 79, 3, 1032, 946), (113, .iload 5, 2, 0, 0), (115, .iaload, 1, 0, 0), (116, .goto 16, 3, 132, 0), (119, .aload_n 0, 1, 0, 0), (120, .getfield 79, 3, 1032, 946), (123, .aload_n 0, 1, 0, 0), (124, .iload 5, 2, 0, 0), (126, .iload 6, 2, 0, 0), (128, .invokevirtual 170, 3, 171, 1170), (131, .iaload, 1, 0, 0), (132, .istore 7, 2, 0, 0), (134, .iload 4, 2, 0, 0), (136, .iconst 2, 1, 0, 0), (137, .irem, 1, 0, 0), (138, .ifCond .ne 23, 3, 161, 0), (141, .iload 7, 2, 0, 0), (143, .aload_n 0, 1, 0, 0), (144, .getfield 82, 3, 1033, 947), (147, .iload 5, 2, 0, 0), (149, .iaload, 1, 0, 0), (150, .if_icmp .le 7, 3, 157, 0), (153, .iconst 1, 1, 0, 0), (154, .goto 24, 3, 178, 0), (157, .iconst 0, 1, 0, 0), (158, .goto 20, 3, 178, 0), (161, .iload 7, 2, 0, 0), (163, .aload_n 0, 1, 0, 0), (164, .getfield 82, 3, 1033, 947), (167, .iload 5, 2, 0, 0), (169, .iaload, 1, 0, 0), (170, .if_icmp .ge 7, 3, 177, 0), (173, .iconst 1, 1, 0, 0), (174, .goto 4, 3, 178, 0), (177, .iconst 0, 1, 0, 0), (178, .istore 8, 2, 0, 0), (180, .aload_n 0, 1, 0, 0), (181, .getfield 82, 3, 1033, 947), (184, .iload 5, 2, 0, 0), (186, .iload 8, 2, 0, 0), (188, .ifCond .eq 8, 3, 196, 0), (191, .iload 7, 2, 0, 0), (193, .goto 10, 3, 203, 0), (196, .aload_n 0, 1, 0, 0), (197, .getfield 82, 3, 1033, 947), (200, .iload 5, 2, 0, 0), (202, .iaload, 1, 0, 0), (203, .iastore, 1, 0, 0), (204, .iinc 6 1, 3, 0, 0), (207, .goto (-115), 3, 92, 0), (210, .iinc 5 1, 3, 0, 0), (213, .goto (-144), 3, 69, 0), (216, .iconst 0, 1, 0, 0), (217, .istore 5, 2, 0, 0), (219, .iload 5, 2, 0, 0), (221, .iload_n 3, 1, 0, 0), (222, .if_icmp .ge 23, 3, 245, 0), (225, .aload_n 0, 1, 0, 0), (226, .getfield 79, 3, 1032, 946), (229, .iload 5, 2, 0, 0), (231, .aload_n 0, 1, 0, 0), (232, .getfield 82, 3, 1033, 947), (235, .iload 5, 2, 0, 0), (237, .iaload, 1, 0, 0), (238, .iastore, 1, 0, 0), (239, .iinc 5 1, 3, 0, 0), (242, .goto (-23), 3, 219, 0), (245, .iinc 4 (-1), 3, 0, 0), (248, .goto (-187), 3, 61, 0), (251, .aload_n 0, 1, 0, 0), (252, .getfield 79, 3, 1032, 946), (255, .aload_n 0, 1, 0, 0), (256, .getfield 39, 3, 1015, 929), (259, .iconst 0, 1, 0, 0), (260, .iaload, 1, 0, 0), (261, .iaload, 1, 0, 0), (262, .ireturn, 1, 0, 0)]
def rw_220 : List Row := [(0, .iconst 0, 1, 0, 0), (1, .istore_n 3, 1, 0, 0), (2, .aload_n 0, 1, 0, 0), (3, .lconst 1, 1, 0, 0), (4, .putfield 262, 3, 1034, 948), (7, .aload_n 0, 1, 0, 0), (8, .lconst 0, 1, 0, 0), (9, .putfield 265, 3, 1035, 949), (12, .aload_n 0, 1, 0, 0), (13, .lconst 0, 1, 0, 0), (14, .putfield 268, 3, 1036, 950), (17, .iconst 0, 1, 0, 0), (18, .istore 4, 2, 0, 0), (20, .iload 4, 2, 0, 0), (22, .aload_n 0, 1, 0, 0), (23, .getfield 146, 3, 1010, 924), (26, .if_icmp .ge 76, 3, 102, 0), (29, .aload_n 0, 1, 0, 0), (30, .iload 4, 2, 0, 0), (32, .aload_n 0, 1, 0, 0), (33, .getfield 39, 3, 1015, 929), (36, .iconst 0, 1, 0, 0), (37, .iaload, 1, 0, 0), (38, .aload_n 0, 1, 0, 0), (39, .getfield 39, 3, 1015, 929), (42, .iconst 1, 1, 0, 0), (43, .iaload, 1, 0, 0), (44, .invokevirtual 180, 3, 177, 1162), (47, .bipush (-9), 2, 0, 0), (49, .if_icmp .eq 7, 3, 56, 0), (52, .iconst 1, 1, 0, 0), (53, .goto 4, 3, 57, 0), (56, .iconst 0, 1, 0, 0), (57, .istore 5, 2, 0, 0), (59, .iload_n 3, 1, 0, 0), (60, .iload 5, 2, 0, 0), (62, .ifCond .eq 10, 3, 72, 0), (65, .iconst 1, 1, 0, 0), (66, .iload 4, 2, 0, 0), (68, .ishl, 1, 0, 0), (69, .goto 4, 3, 73, 0), (72, .iconst 0, 1, 0, 0), (73, .ior, 1, 0, 0), (74, .istore_n 3, 1, 0, 0), (75, .aload_n 0, 1, 0, 0), (76, .dup, 1, 0, 0), (77, .getfield 262, 3, 1034, 948), (80, .iload 5, 2, 0, 0), (82, .ifCond .eq 9, 3, 91, 0), (85, .ldc2_w 271, 3, 12, 1360), (88, .goto 4, 3, 92, 0), (91, .lconst 1, 1, 0, 0), (92, .lmul, 1, 0, 0), (93, .putfield 262, 3, 1034, 948), (96, .iinc 4 1, 3, 0, 0), (99, .goto (-79), 3, 20, 0), (102, .iconst 0, 1, 0, 0), (103, .istore 4, 2, 0, 0), (105, .iload 4, 2, 0, 0), (107, .iload_n 3, 1, 0, 0), (108, .if_icmp .gt 153, 3, 261, 0), (111, .iload 4, 2, 0, 0), (113, .iload_n 3, 1, 0, 0), (114, .iconst (-1), 1, 0, 0), (115, .ixor, 1, 0, 0), (116, .iand, 1, 0, 0), (117, .ifCond .ne 138, 3, 255, 0), (120, .lconst 1, 1, 0, 0), (121, .lstore 5, 2, 0, 0), (123, .iconst 0, 1, 0, 0), (124, .istore 7, 2, 0, 0), (126, .iload 7, 2, 0, 0), (128, .aload_n 0, 1, 0, 0), (129, .getfield 146, 3, 1010, 924), (132, .if_icmp .ge 47, 3, 179, 0), (135, .lload 5, 2, 0, 0), (137, .iload_n 3, 1, 0, 0), (138, .iload 7, 2, 0, 0), (140, .invokestatic 176, 3, 138, 1214), (143, .ifCond .ne 7, 3, 150, 0), (146, .lconst 1, 1, 0, 0), (147, .goto 23, 3, 170, 0), (150, .iload 4, 2, 0, 0), (152, .iload 7, 2, 0, 0), (154, .invokestatic 176, 3, 138, 1214), (157, .ifCond .eq 11, 3, 168, 0), (160, .bipush 12, 2, 0, 0), (162, .iload_n 2, 1, 0, 0), (163, .isub, 1, 0, 0), (164, .i2l, 1, 0, 0), (165, .goto 5, 3, 170, 0), (168, .iload_n 2, 1, 0, 0), (169, .i2l, 1, 0, 0), (170, .lmul, 1, 0, 0), (171, .lstore 5, 2, 0, 0), (173, .iinc 7 1, 3, 0, 0), (176, .goto (-50), 3, 126, 0), (179, .aload_n 0, 1, 0, 0), (180, .aload_n 0, 1, 0, 0), (181, .getfield 39, 3, 1015, 929), (184, .iconst 0, 1, 0, 0), (185, .iaload, 1, 0, 0), (186, .aload_n 0, 1, 0, 0), (187, .getfield 39, 3, 1015, 929), (190, .iconst 1, 1, 0, 0), (191, .iaload, 1, 0, 0), (192, .iload 4, 2, 0, 0), (194, .iconst 0, 1, 0, 0), (195, .iconst 0, 1, 0, 0), (196, .invokevirtual 187, 3, 178, 1210), (199, .aload_n 0, 1, 0, 0), (200, .invokevirtual 191, 3, 179, 1217), (203, .istore 7, 2, 0, 0), (205, .aload_n 0, 1, 0, 0), (206, .dup, 1, 0, 0), (207, .getfield 265, 3, 1035, 949), (210, .iload 7, 2, 0, 0), (212, .iload_n 1, 1, 0, 0), (213, .if_icmp .ne 8, 3, 221, 0), (216, .lload 5, 2, 0, 0), (218, .goto 4, 3, 222, 0), (221, .lconst 0, 1, 0, 0), (222, .ladd, 1, 0, 0), (223, .putfield 265, 3, 1035, 949), (226, .aload_n 0, 1, 0, 0), (227, .dup, 1, 0, 0), (228, .getfield 268, 3, 1036, 950), (231, .lload 5, 2, 0, 0), (233, .aload_n 0, 1, 0, 0), (234, .aload_n 0, 1, 0, 0), (235, .aload_n 0, 1, 0, 0), (236, .getfield 39, 3, 1015, 929), (239, .iconst 0, 1, 0, 0), (240, .iaload, 1, 0, 0), (241, .iload 7, 2, 0, 0), (243, .invokevirtual 170, 3, 171, 1170), (246, .invokevirtual 232, 3, 175, 1276), (249, .i2l, 1, 0, 0), (250, .lmul, 1, 0, 0), (251, .ladd, 1, 0, 0), (252, .putfield 268, 3, 1036, 950), (255, .iinc 4 1, 3, 0, 0), (258, .goto (-153), 3, 105, 0), (261, .return_, 1, 0, 0)]
def rw_221 : List Row := [(0, .aload_n 0, 1, 0, 0), (1, .iload_n 1, 1, 0, 0), (2, .iconst 0, 1, 0, 0), (3, .iconst 4, 1, 0, 0), (4, .invokestatic 89, 3, 137, 1039), (7, .ifCond .eq 17, 3, 24, 0), (10, .iload_n 2, 1, 0, 0), (11, .iconst 0, 1, 0, 0), (12, .bipush 12, 2, 0, 0), (14, .invokestatic 89, 3, 137, 1039), (17, .ifCond .eq 7, 3, 24, 0), (20, .iconst 1, 1, 0, 0), (21, .goto 4, 3, 25, 0), (24, .iconst 0, 1, 0, 0), (25, .invokevirtual 222, 3, 197, 1252), (28, .istore_n 3, 1, 0, 0), (29, .iload_n 3, 1, 0, 0), (30, .ifCond .ge 5, 3, 35, 0), (33, .iload_n 3, 1, 0, 0), (34, .ireturn, 1, 0, 0), (35, .aload_n 0, 1, 0, 0), (36, .iload_n 1, 1, 0, 0), (37, .iload_n 2, 1, 0, 0), (38, .invokevirtual 273, 3, 220, 1356), (41, .aload_n 0, 1, 0, 0), (42, .aload_n 0, 1, 0, 0), (43, .getfield 265, 3, 1035, 949), (46, .aload_n 0, 1, 0, 0), (47, .getfield 262, 3, 1034, 948), (50, .invokevirtual 276, 3, 145, 1361), (53, .ireturn, 1, 0, 0)]
def rw_222 : List Row := [(0, .aload_n 0, 1, 0, 0), (1, .iload_n 1, 1, 0, 0), (2, .iconst 0, 1, 0, 0), (3, .bipush 12, 2, 0, 0), (5, .invokestatic 89, 3, 137, 1039), (8, .invokevirtual 222, 3, 197, 1252), (11, .istore_n 2, 1, 0, 0), (12, .iload_n 2, 1, 0, 0), (13, .ifCond .ge 5, 3, 18, 0), (16, .iload_n 2, 1, 0, 0), (17, .ireturn, 1, 0, 0), (18, .aload_n 0, 1, 0, 0), (19, .iconst 0, 1, 0, 0), (20, .iload_n 1, 1, 0, 0), (21, .invokevirtual 273, 3, 220, 1356), (24, .aload_n 0, 1, 0, 0), (25, .aload_n 0, 1, 0, 0), (26, .getfield 268, 3, 1036, 950), (29, .aload_n 0, 1, 0, 0), (30, .getfield 262, 3, 1034, 948), (33, .invokevirtual 276, 3, 145, 1361), (36, .ireturn, 1, 0, 0)]
def rw_223 : List Row := [(0, .aload_n 0, 1, 0, 0), (1, .iload_n 1, 1, 0, 0), (2, .iconst 1, 1, 0, 0), (3, .bipush 20, 2, 0, 0), (5, .invokestatic 89, 3, 137, 1039), (8, .ifCond .eq 18, 3, 26, 0), (11, .iload_n 2, 1, 0, 0), (12, .iconst 1, 1, 0, 0), (13, .ldc_w 280, 3, 2147483646, 1373), (16, .invokestatic 89, 3, 137, 1039), (19, .ifCond .eq 7, 3, 26, 0), (22, .iconst 1, 1, 0, 0), (23, .goto 4, 3, 27, 0), (26, .iconst 0, 1, 0, 0), (27, .invokevirtual 222, 3, 197, 1252), (30, .istore_n 3, 1, 0, 0), (31, .iload_n 3, 1, 0, 0), (32, .ifCond .ge 5, 3, 37, 0), (35, .iload_n 3, 1, 0, 0), (36, .ireturn, 1, 0, 0), (37, .aload_n 0, 1, 0, 0), (38, .getfield 155, 3, 1023, 937), (41, .iload_n 1, 1, 0, 0), (42, .iadd, 1, 0, 0), (43, .bipush 40, 2, 0, 0), (45, .if_icmp .le 6, 3, 51, 0), (48, .bipush (-2), 2, 0, 0), (50, .ireturn, 1, 0, 0), (51, .iload_n 2, 1, 0, 0), (52, .i2l, 1, 0, 0), (53, .lstore 4, 2, 0, 0), (55, .iconst 0, 1, 0, 0), (56, .istore 6, 2, 0, 0), (58, .iload 6, 2, 0, 0), (60, .iload_n 1, 1, 0, 0), (61, .if_icmp .ge 101, 3, 162, 0), (64, .ldc2_w 281, 3, 48271, 1374), (67, .lload 4, 2, 0, 0), (69, .lmul, 1, 0, 0), (70, .ldc2_w 283, 3, 2147483647, 1375), (73, .lrem, 1, 0, 0), (74, .lstore 4, 2, 0, 0), (76, .aload_n 0, 1, 0, 0), (77, .invokevirtual 215, 3, 190, 1198), (80, .lload 4, 2, 0, 0), (82, .ldc2_w 285, 3, 3, 1376), (85, .lrem, 1, 0, 0), (86, .lconst 0, 1, 0, 0), (87, .lcmp, 1, 0, 0), (88, .ifCond .ne 60, 3, 148, 0), (91, .aload_n 0, 1, 0, 0), (92, .aload_n 0, 1, 0, 0), (93, .getfield 39, 3, 1015, 929), (96, .iconst 0, 1, 0, 0), (97, .iaload, 1, 0, 0), (98, .iconst 1, 1, 0, 0), (99, .lload 4, 2, 0, 0), (101, .ldc2_w 287, 3, 8, 1377), (104, .ldiv, 1, 0, 0), (105, .ldc2_w 289, 3, 4, 1378), (108, .lrem, 1, 0, 0), (109, .l2i, 1, 0, 0), (110, .iadd, 1, 0, 0), (111, .invokevirtual 170, 3, 171, 1170), (114, .istore 7, 2, 0, 0), (116, .aload_n 0, 1, 0, 0), (117, .getfield 39, 3, 1015, 929), (120, .iconst 0, 1, 0, 0), (121, .iload 7, 2, 0, 0), (123, .ifCond .ge 12, 3, 135, 0), (126, .aload_n 0, 1, 0, 0), (127, .getfield 39, 3, 1015, 929), (130, .iconst 0, 1, 0, 0), (131, .iaload, 1, 0, 0), (132, .goto 5, 3, 137, 0), (135, .iload 7, 2, 0, 0), (137, .iastore, 1, 0, 0), (138, .aload_n 0, 1, 0, 0), (139, .getfield 39, 3, 1015, 929), (142, .iconst 1, 1, 0, 0), (143, .iconst 0, 1, 0, 0), (144, .iastore, 1, 0, 0), (145, .goto 11, 3, 156, 0), (148, .aload_n 0, 1, 0, 0), (149, .aload_n 0, 1, 0, 0), (150, .getfield 39, 3, 1015, 929), (153, .invokevirtual 218, 3, 182, 1221), (156, .iinc 6 1, 3, 0, 0), (159, .goto (-101), 3, 58, 0), (162, .aload_n 0, 1, 0, 0), (163, .getfield 39, 3, 1015, 929), (166, .iconst 0, 1, 0, 0), (167, .iaload, 1, 0, 0), (168, .ireturn, 1, 0, 0)]
def rw_224 : List Row := [(0, .iconst 0, 1, 0, 0), (1, .istore_n 2, 1, 0, 0), (2, .iconst 0, 1, 0, 0), (3, .istore_n 3, 1, 0, 0), (4, .iload_n 3, 1, 0, 0), (5, .aload_n 0, 1, 0, 0), (6, .getfield 146, 3, 1010, 924), (9, .if_icmp .ge 58, 3, 67, 0), (12, .iload_n 2, 1, 0, 0), (13, .iload_n 1, 1, 0, 0), (14, .bipush 6, 2, 0, 0), (16, .if_icmp .ne 12, 3, 28, 0), (19, .aload_n 0, 1, 0, 0), (20, .getfield 36, 3, 1014, 928), (23, .iload_n 3, 1, 0, 0), (24, .iaload, 1, 0, 0), (25, .goto 34, 3, 59, 0), (28, .iload_n 1, 1, 0, 0), (29, .bipush 7, 2, 0, 0), (31, .if_icmp .ne 27, 3, 58, 0), (34, .aload_n 0, 1, 0, 0), (35, .getfield 33, 3, 1013, 927), (38, .iload_n 3, 1, 0, 0), (39, .iaload, 1, 0, 0), (40, .iconst 2, 1, 0, 0), (41, .if_icmp .eq 13, 3, 54, 0), (44, .aload_n 0, 1, 0, 0), (45, .getfield 33, 3, 1013, 927), (48, .iload_n 3, 1, 0, 0), (49, .iaload, 1, 0, 0), (50, .iconst 4, 1, 0, 0), (51, .if_icmp .ne 7, 3, 58, 0), (54, .iconst 1, 1, 0, 0), (55, .goto 4, 3, 59, 0), (58, .iconst 0, 1, 0, 0), (59, .iadd, 1, 0, 0), (60, .istore_n 2, 1, 0, 0), (61, .iinc 3 1, 3, 0, 0), (64, .goto (-60), 3, 4, 0), (67, .iconst 0, 1, 0, 0), (68, .istore_n 3, 1, 0, 0), (69, .iload_n 3, 1, 0, 0), (70, .bipush 6, 2, 0, 0), (72, .if_icmp .ge 32, 3, 104, 0), (75, .iload_n 2, 1, 0, 0), (76, .iload_n 1, 1, 0, 0), (77, .bipush 8, 2, 0, 0), (79, .if_icmp .ne 16, 3, 95, 0), (82, .aload_n 0, 1, 0, 0), (83, .getfield 17, 3, 1005, 919), (86, .iload_n 3, 1, 0, 0), (87, .iaload, 1, 0, 0), (88, .ifCond .lt 7, 3, 95, 0), (91, .iconst 1, 1, 0, 0), (92, .goto 4, 3, 96, 0), (95, .iconst 0, 1, 0, 0), (96, .iadd, 1, 0, 0), (97, .istore_n 2, 1, 0, 0), (98, .iinc 3 1, 3, 0, 0), (101, .goto (-32), 3, 69, 0), (104, .iconst 0, 1, 0, 0), (105, .istore_n 3, 1, 0, 0), (106, .iload_n 3, 1, 0, 0), (107, .iconst 4, 1, 0, 0), (108, .if_icmp .ge 32, 3, 140, 0), (111, .iload_n 2, 1, 0, 0), (112, .iload_n 1, 1, 0, 0), (113, .bipush 9, 2, 0, 0), (115, .if_icmp .ne 16, 3, 131, 0), (118, .aload_n 0, 1, 0, 0), (119, .getfield 26, 3, 1008, 922), (122, .iload_n 3, 1, 0, 0), (123, .iaload, 1, 0, 0), (124, .ifCond .lt 7, 3, 131, 0), (127, .iconst 1, 1, 0, 0), (128, .goto 4, 3, 132, 0), (131, .iconst 0, 1, 0, 0), (132, .iadd, 1, 0, 0), (133, .istore_n 2, 1, 0, 0), (134, .iinc 3 1, 3, 0, 0), (137, .goto (-31), 3, 106, 0), (140, .iconst 0, 1, 0, 0), (141, .istore_n 3, 1, 0, 0), (142, .iload_n 3, 1, 0, 0), (143, .iconst 3, 1, 0, 0), (144, .if_icmp .ge 32, 3, 176, 0), (147, .iload_n 2, 1, 0, 0), (148, .iload_n 1, 1, 0, 0), (149, .bipush 10, 2, 0, 0), (151, .if_icmp .ne 16, 3, 167, 0), (154, .aload_n 0, 1, 0, 0), (155, .getfield 57, 3, 1025, 939), (158, .iload_n 3, 1, 0, 0), (159, .baload, 1, 0, 0), (160, .ifCond .eq 7, 3, 167, 0), (163, .iconst 1, 1, 0, 0), (164, .goto 4, 3, 168, 0), (167, .iconst 0, 1, 0, 0), (168, .iadd, 1, 0, 0), (169, .istore_n 2, 1, 0, 0), (170, .iinc 3 1, 3, 0, 0), (173, .goto (-31), 3, 142, 0), (176, .iload_n 1, 1, 0, 0), (177, .tableswitch 80 0 5 #[39, 44, 54, 61, 66, 73], 39, 0, 0), (216, .aload_n 0, 1, 0, 0), (217, .getfield 146, 3, 1010, 924), (220, .ireturn, 1, 0, 0), (221, .aload_n 0, 1, 0, 0), (222, .getfield 149, 3, 1011, 925), (225, .aload_n 0, 1, 0, 0), (226, .getfield 152, 3, 1012, 926), (229, .imul, 1, 0, 0), (230, .ireturn, 1, 0, 0), (231, .aload_n 0, 1, 0, 0), (232, .getfield 39, 3, 1015, 929), (235, .iconst 0, 1, 0, 0), (236, .iaload, 1, 0, 0), (237, .ireturn, 1, 0, 0), (238, .aload_n 0, 1, 0, 0), (239, .getfield 155, 3, 1023, 937), (242, .ireturn, 1, 0, 0), (243, .aload_n 0, 1, 0, 0), (244, .getfield 39, 3, 1015, 929), (247, .iconst 2, 1, 0, 0), (248, .iaload, 1, 0, 0), (249, .ireturn, 1, 0, 0), (250, .aload_n 0, 1, 0, 0), (251, .getfield 39, 3, 1015, 929), (254, .iconst 1, 1, 0, 0), (255, .iaload, 1, 0, 0), (256, .ireturn, 1, 0, 0), (257, .iload_n 2, 1, 0, 0), (258, .ireturn, 1, 0, 0)]
def rw_225 : List Row := [(0, .iload_n 1, 1, 0, 0), (1, .iconst 0, 1, 0, 0), (2, .bipush 10, 2, 0, 0), (4, .invokestatic 89, 3, 137, 1039), (7, .ifCond .eq 11, 3, 18, 0), (10, .aload_n 0, 1, 0, 0), (11, .iload_n 1, 1, 0, 0), (12, .invokevirtual 291, 3, 224, 1383), (15, .goto 4, 3, 19, 0), (18, .iconst (-1), 1, 0, 0), (19, .ireturn, 1, 0, 0)]
def rw_226 : List Row := [(0, .aload_n 0, 1, 0, 0), (1, .ldc2_w 294, 3, 31, 1396), (4, .aload_n 0, 1, 0, 0), (5, .getfield 296, 3, 1037, 951), (8, .lmul, 1, 0, 0), (9, .lload_n 1, 1, 0, 0), (10, .ladd, 1, 0, 0), (11, .putfield 296, 3, 1037, 951), (14, .return_, 1, 0, 0)]
def rw_227 : List Row := [(0, .iconst 0, 1, 0, 0), (1, .istore_n 1, 1, 0, 0), (2, .iload_n 1, 1, 0, 0), (3, .aload_n 0, 1, 0, 0), (4, .getfield 146, 3, 1010, 924), (7, .if_icmp .ge 33, 3, 40, 0), (10, .iconst 0, 1, 0, 0), (11, .istore_n 2, 1, 0, 0), (12, .iload_n 2, 1, 0, 0), (13, .iconst 5, 1, 0, 0), (14, .if_icmp .ge 20, 3, 34, 0), (17, .aload_n 0, 1, 0, 0), (18, .aload_n 0, 1, 0, 0), (19, .iload_n 1, 1, 0, 0), (20, .iload_n 2, 1, 0, 0), (21, .invokevirtual 203, 3, 184, 1143), (24, .i2l, 1, 0, 0), (25, .invokevirtual 299, 3, 226, 1392), (28, .iinc 2 1, 3, 0, 0), (31, .goto (-19), 3, 12, 0), (34, .iinc 1 1, 3, 0, 0), (37, .goto (-35), 3, 2, 0), (40, .iconst 0, 1, 0, 0), (41, .istore_n 1, 1, 0, 0), (42, .iload_n 1, 1, 0, 0), (43, .iconst 3, 1, 0, 0), (44, .if_icmp .ge 35, 3, 79, 0), (47, .aload_n 0, 1, 0, 0), (48, .aload_n 0, 1, 0, 0), (49, .getfield 57, 3, 1025, 939), (52, .iload_n 1, 1, 0, 0), (53, .baload, 1, 0, 0), (54, .ifCond .eq 13, 3, 67, 0), (57, .aload_n 0, 1, 0, 0), (58, .getfield 61, 3, 1026, 940), (61, .iload_n 1, 1, 0, 0), (62, .iaload, 1, 0, 0), (63, .i2l, 1, 0, 0), (64, .goto 6, 3, 70, 0), (67, .ldc2_w 303, 3, (-1), 1401), (70, .invokevirtual 299, 3, 226, 1392), (73, .iinc 1 1, 3, 0, 0), (76, .goto (-34), 3, 42, 0), (79, .return_, 1, 0, 0)]
def rw_228 : List Row := [(0, .aload_n 0, 1, 0, 0), (1, .ldc2_w 305, 3, 17, 1391), (4, .putfield 296, 3, 1037, 951), (7, .iconst 0, 1, 0, 0), (8, .istore_n 1, 1, 0, 0), (9, .iload_n 1, 1, 0, 0), (10, .bipush 11, 2, 0, 0), (12, .if_icmp .ge 19, 3, 31, 0), (15, .aload_n 0, 1, 0, 0), (16, .aload_n 0, 1, 0, 0), (17, .iload_n 1, 1, 0, 0), (18, .invokevirtual 291, 3, 224, 1383), (21, .i2l, 1, 0, 0), (22, .invokevirtual 299, 3, 226, 1392), (25, .iinc 1 1, 3, 0, 0), (28, .goto (-19), 3, 9, 0), (31, .aload_n 0, 1, 0, 0), (32, .invokevirtual 307, 3, 227, 1397), (35, .iconst 0, 1, 0, 0), (36, .istore_n 1, 1, 0, 0), (37, .iload_n 1, 1, 0, 0), (38, .bipush 6, 2, 0, 0), (40, .if_icmp .ge 49, 3, 89, 0), (43, .aload_n 0, 1, 0, 0), (44, .aload_n 0, 1, 0, 0), (45, .getfield 17, 3, 1005, 919), (48, .iload_n 1, 1, 0, 0), (49, .iaload, 1, 0, 0), (50, .i2l, 1, 0, 0), (51, .invokevirtual 299, 3, 226, 1392), (54, .iconst 0, 1, 0, 0), (55, .istore_n 2, 1, 0, 0), (56, .iload_n 2, 1, 0, 0), (57, .aload_n 0, 1, 0, 0), (58, .getfield 17, 3, 1005, 919), (61, .iload_n 1, 1, 0, 0), (62, .iaload, 1, 0, 0), (63, .if_icmp .ge 20, 3, 83, 0), (66, .aload_n 0, 1, 0, 0), (67, .aload_n 0, 1, 0, 0), (68, .iload_n 1, 1, 0, 0), (69, .iload_n 2, 1, 0, 0), (70, .invokevirtual 107, 3, 149, 1069), (73, .i2l, 1, 0, 0), (74, .invokevirtual 299, 3, 226, 1392), (77, .iinc 2 1, 3, 0, 0), (80, .goto (-24), 3, 56, 0), (83, .iinc 1 1, 3, 0, 0), (86, .goto (-49), 3, 37, 0), (89, .iconst 0, 1, 0, 0), (90, .istore_n 1, 1, 0, 0), (91, .iload_n 1, 1, 0, 0), (92, .iconst 4, 1, 0, 0), (93, .if_icmp .ge 49, 3, 142, 0), (96, .aload_n 0, 1, 0, 0), (97, .aload_n 0, 1, 0, 0), (98, .getfield 26, 3, 1008, 922), (101, .iload_n 1, 1, 0, 0), (102, .iaload, 1, 0, 0), (103, .i2l, 1, 0, 0), (104, .invokevirtual 299, 3, 226, 1392), (107, .iconst 0, 1, 0, 0), (108, .istore_n 2, 1, 0, 0), (109, .iload_n 2, 1, 0, 0), (110, .aload_n 0, 1, 0, 0), (111, .getfield 26, 3, 1008, 922), (114, .iload_n 1, 1, 0, 0), (115, .iaload, 1, 0, 0), (116, .if_icmp .ge 20, 3, 136, 0), (119, .aload_n 0, 1, 0, 0), (120, .aload_n 0, 1, 0, 0), (121, .iload_n 1, 1, 0, 0), (122, .iload_n 2, 1, 0, 0), (123, .invokevirtual 120, 3, 159, 1112), (126, .i2l, 1, 0, 0), (127, .invokevirtual 299, 3, 226, 1392), (130, .iinc 2 1, 3, 0, 0), (133, .goto (-24), 3, 109, 0), (136, .iinc 1 1, 3, 0, 0), (139, .goto (-48), 3, 91, 0), (142, .aload_n 0, 1, 0, 0), (143, .getfield 296, 3, 1037, 951), (146, .lreturn, 1, 0, 0)]
def rw_229 : List Row := [(0, .iload_n 0, 1, 0, 0), (1, .iload_n 0, 1, 0, 0), (2, .iconst 1, 1, 0, 0), (3, .iushr, 1, 0, 0), (4, .ldc_w 265, 3, 1431655765, 746), (7, .iand, 1, 0, 0), (8, .isub, 1, 0, 0), (9, .istore_n 0, 1, 0, 0), (10, .iload_n 0, 1, 0, 0), (11, .ldc_w 266, 3, 858993459, 747), (14, .iand, 1, 0, 0), (15, .iload_n 0, 1, 0, 0), (16, .iconst 2, 1, 0, 0), (17, .iushr, 1, 0, 0), (18, .ldc_w 266, 3, 858993459, 747), (21, .iand, 1, 0, 0), (22, .iadd, 1, 0, 0), (23, .istore_n 0, 1, 0, 0), (24, .iload_n 0, 1, 0, 0), (25, .iload_n 0, 1, 0, 0), (26, .iconst 4, 1, 0, 0), (27, .iushr, 1, 0, 0), (28, .iadd, 1, 0, 0), (29, .ldc_w 267, 3, 252645135, 748), (32, .iand, 1, 0, 0), (33, .istore_n 0, 1, 0, 0), (34, .iload_n 0, 1, 0, 0), (35, .iload_n 0, 1, 0, 0), (36, .bipush 8, 2, 0, 0), (38, .iushr, 1, 0, 0), (39, .iadd, 1, 0, 0), (40, .istore_n 0, 1, 0, 0), (41, .iload_n 0, 1, 0, 0), (42, .iload_n 0, 1, 0, 0), (43, .bipush 16, 2, 0, 0), (45, .iushr, 1, 0, 0), (46, .iadd, 1, 0, 0), (47, .istore_n 0, 1, 0, 0), (48, .iload_n 0, 1, 0, 0), (49, .bipush 63, 2, 0, 0), (51, .iand, 1, 0, 0), (52, .ireturn, 1, 0, 0)]
def RT : List (List Row) := [rw_0, rw_1, rw_2, rw_3, rw_4, rw_5, rw_6, rw_7, rw_8, rw_9, rw_10, rw_11, rw_12, rw_13, rw_14, rw_15, rw_16, rw_17, rw_18, rw_19, rw_20, rw_21, rw_22, rw_23, rw_24, rw_25, rw_26, rw_27, rw_28, rw_29, rw_30, rw_31, rw_32, rw_33, rw_34, rw_35, rw_36, rw_37, rw_38, rw_39, rw_40, rw_41, rw_42, rw_43, rw_44, rw_45, rw_46, rw_47, rw_48, rw_49, rw_50, rw_51, rw_52, rw_53, rw_54, rw_55, rw_56, rw_57, rw_58, rw_59, rw_60, rw_61, rw_62, rw_63, rw_64, rw_65, rw_66, rw_67, rw_68, rw_69, rw_70, rw_71, rw_72, rw_73, rw_74, rw_75, rw_76, rw_77, rw_78, rw_79, rw_80, rw_81, rw_82, rw_83, rw_84, rw_85, rw_86, rw_87, rw_88, rw_89, rw_90, rw_91, rw_92, rw_93, rw_94, rw_95, rw_96, rw_97, rw_98, rw_99, rw_100, rw_101, rw_102, rw_103, rw_104, rw_105, rw_106, rw_107, rw_108, rw_109, rw_110, rw_111, rw_112, rw_113, rw_114, rw_115, rw_116, rw_117, rw_118, rw_119, rw_120, rw_121, rw_122, rw_123, rw_124, rw_125, rw_126, rw_127, rw_128, rw_129, rw_130, rw_131, rw_132, rw_133, rw_134, rw_135, rw_136, rw_137, rw_138, rw_139, rw_140, rw_141, rw_142, rw_143, rw_144, rw_145, rw_146, rw_147, rw_148, rw_149, rw_150, rw_151, rw_152, rw_153, rw_154, rw_155, rw_156, rw_157, rw_158, rw_159, rw_160, rw_161, rw_162, rw_163, rw_164, rw_165, rw_166, rw_167, rw_168, rw_169, rw_170, rw_171, rw_172, rw_173, rw_174, rw_175, rw_176, rw_177, rw_178, rw_179, rw_180, rw_181, rw_182, rw_183, rw_184, rw_185, rw_186, rw_187, rw_188, rw_189, rw_190, rw_191, rw_192, rw_193, rw_194, rw_195, rw_196, rw_197, rw_198, rw_199, rw_200, rw_201, rw_202, rw_203, rw_204, rw_205, rw_206, rw_207, rw_208, rw_209, rw_210, rw_211, rw_212, rw_213, rw_214, rw_215, rw_216, rw_217, rw_218, rw_219, rw_220, rw_221, rw_222, rw_223, rw_224, rw_225, rw_226, rw_227, rw_228, rw_229]
/-- of a method: 0 static, 1 of an object, 2 a constructor; the class by vwCl; parameters; words of locals; answer: 0 none 1 int 2 boolean 3 long -/
def MT : List (Nat × Nat × Nat × Nat × Nat) := [(0, 99, 1, 4, 2), (2, 0, 0, 1, 0), (1, 0, 3, 5, 0), (0, 0, 4, 10, 1), (1, 0, 3, 6, 0), (1, 0, 0, 4, 1), (1, 0, 0, 4, 1), (1, 0, 2, 5, 1), (1, 0, 2, 7, 1), (2, 1, 0, 1, 0), (1, 1, 3, 7, 0), (0, 1, 4, 8, 3), (1, 1, 1, 5, 0), (0, 1, 2, 11, 3), (2, 2, 0, 1, 0), (1, 2, 2, 7, 1), (1, 2, 3, 8, 1), (1, 2, 2, 6, 1), (1, 2, 3, 7, 1), (1, 2, 0, 2, 0), (1, 2, 1, 2, 0), (1, 2, 2, 5, 1), (2, 3, 0, 1, 0), (1, 3, 0, 1, 0), (1, 3, 1, 2, 0), (1, 3, 3, 4, 0), (1, 3, 0, 1, 2), (1, 3, 0, 1, 1), (1, 3, 1, 2, 2), (1, 3, 1, 2, 2), (1, 3, 2, 3, 1), (1, 3, 2, 5, 1), (1, 3, 3, 4, 2), (0, 3, 1, 1, 1), (1, 3, 2, 3, 2), (1, 3, 2, 3, 2), (1, 3, 2, 3, 1), (1, 3, 3, 4, 1), (0, 3, 3, 3, 1), (1, 3, 1, 4, 1), (1, 3, 1, 4, 1), (1, 3, 1, 4, 1), (1, 3, 0, 1, 1), (1, 3, 0, 3, 1), (1, 3, 1, 2, 0), (1, 3, 1, 3, 0), (1, 3, 2, 3, 0), (1, 3, 1, 2, 2), (1, 3, 1, 3, 0), (2, 4, 0, 1, 0), (1, 4, 4, 7, 1), (1, 4, 4, 9, 1), (1, 4, 2, 5, 1), (2, 5, 0, 1, 0), (1, 5, 3, 8, 1), (1, 5, 1, 3, 0), (1, 5, 4, 9, 1), (1, 5, 4, 6, 1), (1, 5, 2, 5, 1), (1, 5, 3, 8, 1), (2, 6, 0, 1, 0), (1, 6, 2, 4, 1), (1, 6, 1, 6, 2), (1, 6, 1, 6, 2), (0, 6, 1, 2, 1), (1, 6, 2, 4, 1), (1, 6, 0, 1, 2), (1, 6, 0, 1, 1), (1, 6, 0, 2, 0), (2, 7, 1, 2, 0), (1, 7, 0, 1, 2), (1, 7, 0, 1, 0), (1, 7, 2, 4, 0), (1, 7, 2, 3, 2), (1, 7, 1, 6, 3), (2, 8, 0, 1, 0), (1, 8, 1, 2, 0), (1, 8, 2, 5, 0), (1, 8, 2, 5, 1), (2, 9, 0, 2, 0), (1, 9, 2, 3, 1), (1, 9, 3, 5, 1), (1, 9, 2, 4, 1), (1, 9, 1, 2, 1), (1, 9, 5, 6, 1), (1, 9, 1, 6, 1), (1, 9, 2, 3, 1), (1, 9, 3, 6, 1), (1, 9, 1, 2, 1), (1, 9, 1, 3, 1), (1, 9, 2, 3, 1), (1, 9, 2, 3, 1), (1, 9, 2, 3, 1), (1, 9, 0, 1, 1), (1, 9, 1, 2, 1), (1, 9, 2, 4, 1), (1, 9, 1, 3, 1), (1, 9, 1, 2, 1), (1, 9, 1, 2, 1), (1, 9, 1, 2, 1), (1, 9, 0, 1, 1), (1, 9, 1, 3, 1), (1, 9, 1, 3, 1), (1, 9, 1, 3, 1), (1, 9, 0, 2, 1), (1, 9, 2, 3, 1), (1, 9, 1, 4, 1), (1, 9, 1, 5, 1), (1, 9, 2, 4, 1), (1, 9, 2, 6, 1), (1, 9, 2, 4, 1), (1, 9, 2, 6, 1), (1, 9, 1, 2, 1), (1, 9, 2, 3, 1), (1, 9, 1, 5, 1), (1, 9, 2, 5, 1), (1, 9, 0, 1, 1), (1, 9, 0, 1, 3), (1, 9, 0, 1, 3), (1, 9, 1, 2, 1), (1, 9, 0, 1, 1), (1, 9, 1, 2, 1), (1, 9, 0, 5, 3), (0, 9, 1, 1, 2), (0, 9, 1, 1, 2), (0, 9, 1, 1, 2), (1, 9, 1, 2, 1), (1, 9, 2, 3, 1), (1, 9, 1, 2, 1), (1, 9, 2, 3, 1), (1, 9, 2, 6, 1), (1, 9, 2, 3, 1), (1, 9, 1, 4, 1), (1, 9, 0, 2, 1), (0, 9, 1, 3, 1), (1, 9, 0, 3, 1), (2, 10, 0, 2, 0), (0, 10, 3, 3, 2), (0, 10, 2, 2, 2), (0, 10, 1, 3, 1), (1, 10, 1, 2, 1), (1, 10, 0, 1, 1), (1, 10, 1, 2, 1), (1, 10, 2, 3, 1), (1, 10, 0, 1, 1), (1, 10, 2, 11, 1), (1, 10, 0, 1, 3), (1, 10, 0, 1, 3), (0, 10, 1, 1, 2), (1, 10, 2, 3, 1), (1, 10, 2, 4, 1), (1, 10, 3, 5, 1), (1, 10, 2, 3, 1), (1, 10, 1, 2, 1), (1, 10, 5, 7, 1), (1, 10, 1, 5, 1), (0, 10, 1, 1, 2), (1, 10, 2, 4, 1), (1, 10, 3, 5, 1), (1, 10, 2, 3, 1), (0, 10, 1, 1, 1), (1, 10, 3, 5, 1), (1, 10, 1, 3, 2), (1, 10, 1, 5, 2), (1, 10, 1, 2, 1), (1, 10, 1, 2, 1), (1, 10, 1, 3, 1), (1, 10, 1, 2, 2), (1, 10, 1, 2, 2), (0, 10, 2, 2, 1), (1, 10, 2, 3, 1), (1, 10, 2, 3, 1), (0, 10, 1, 1, 1), (1, 10, 3, 5, 1), (1, 10, 2, 3, 1), (1, 10, 1, 4, 1), (1, 10, 3, 4, 2), (1, 10, 3, 8, 1), (1, 10, 5, 8, 0), (1, 10, 0, 4, 1), (1, 10, 0, 1, 1), (1, 10, 2, 3, 1), (1, 10, 1, 3, 0), (1, 10, 0, 2, 0), (1, 10, 2, 3, 1), (1, 10, 2, 3, 1), (1, 10, 1, 4, 1), (1, 10, 1, 4, 1), (1, 10, 2, 6, 1), (1, 10, 2, 3, 1), (1, 10, 0, 2, 0), (1, 10, 0, 2, 1), (1, 10, 1, 2, 1), (1, 10, 2, 4, 1), (1, 10, 1, 4, 1), (1, 10, 1, 3, 1), (1, 10, 1, 3, 1), (1, 10, 1, 2, 1), (1, 10, 1, 5, 1), (1, 10, 0, 4, 1), (1, 10, 1, 4, 1), (1, 10, 1, 6, 1), (1, 10, 1, 4, 1), (1, 10, 1, 3, 1), (1, 10, 0, 2, 1), (1, 10, 2, 9, 1), (1, 10, 2, 9, 1), (1, 10, 3, 7, 1), (1, 10, 1, 6, 1), (1, 10, 1, 4, 1), (1, 10, 2, 7, 1), (1, 10, 1, 8, 1), (1, 10, 2, 7, 1), (1, 10, 2, 4, 1), (1, 10, 3, 8, 1), (1, 10, 2, 9, 1), (1, 10, 2, 8, 0), (1, 10, 2, 6, 1), (1, 10, 2, 5, 1), (1, 10, 1, 9, 1), (1, 10, 2, 8, 0), (1, 10, 2, 4, 1), (1, 10, 1, 3, 1), (1, 10, 2, 8, 1), (1, 10, 1, 4, 1), (1, 10, 1, 2, 1), (1, 10, 1, 3, 0), (1, 10, 0, 3, 0), (1, 10, 0, 3, 3), (0, 99, 1, 1, 1)]
def YT : List MethodName := [yL_law, yX0_init, yX0_hold, yX0_choiceOf, yX0_heap, yX0_winner, yX0_lead, yX0_votersFor, yX0_cheapestBought, yX1_init, yX1_weigh, yX1_weightOf, yX1_tell, yX1_commonDivisor, yX2_init, yX2_fittingCells, yX2_fittingKinds, yX2_bestTeller, yX2_bestCell, yX2_startTally, yX2_addToTally, yX2_takeIfLess, yX3_init, yX3_clear, yX3_become, yX3_settle, yX3_isEmpty, yX3_cells, yX3_hasCell, yX3_hasOne, yX3_far, yX3_beside, yX3_canGo, yX3_against, yX3_isOf, yX3_liesNorth, yX3_gains, yX3_gainsAs, yX3_gainOf, yX3_gainfulCells, yX3_worth, yX3_hearthsOf, yX3_allHearths, yX3_widows, yX3_goInYear, yX3_bePushed, yX3_moveHouse, yX3_remember, yX3_undoFrom, yX4_init, yX4_steps, yX4_reachBeside, yX4_firstWay, yX5_init, yX5_bestCourse, yX5_weighCells, yX5_bestWay, yX5_gainedBy, yX5_duelWorth, yX5_wanted, yX6_init, yX6_readLand, yX6_readGround, yX6_readOne, yX6_kindOf, yX6_figure, yX6_atEnd, yX6_sign, yX6_skipBlanks, yX7_init, yX7_isMissing, yX7_remove, yX7_renew, yX7_holds, yX7_mixInto, yX8_init, yX8_begin, yX8_pass, yX8_untilRepeat, yX9_init, yX9_row, yX9_lay, yX9_at, yX9_tear, yX9_copy, yX9_mean, yX9_text, yX9_put, yX9_fault, yX9_land, yX9_one, yX9_mark, yX9_gain, yX9_year, yX9_push, yX9_house, yX9_undo, yX9_keep, yX9_on, yX9_votes, yX9_carries, yX9_buy, yX9_then, yX9_when, yX9_round, yX9_course, yX9_fits, yX9_next, yX9_kinds, yX9_test, yX9_way, yX9_parts, yX9_duel, yX9_odds, yX9_mid, yX9_lots, yX9_asked, yX9_upper, yX9_lower, yX9_count, yX9_finding, yX9_findings, yX9_digest, yX9_isRow, yX9_isText, yX9_isWay, yX9_refuse, yX9_placeRefusal, yX9_cellPairsRefusal, yX9_kindPairsRefusal, yX9_pairsRefusal, yX9_aboutOne, yX9_abstainersBeside, yX9_passYear, yX9_present, yX9_keptLands, yX10_init, yX10_in, yX10_has, yX10_bits, yX10_meets, yX10_finding, yX10_findings, yX10_tells, yX10_asked, yX10_fraction, yX10_upper, yX10_lower, yX10_isRow, yX10_rowAt, yX10_row, yX10_lay, yX10_at, yX10_tear, yX10_copy, yX10_mean, yX10_isText, yX10_text, yX10_put, yX10_byteAt, yX10_kindBy, yX10_figure, yX10_readsHead, yX10_readsOne, yX10_faultOf, yX10_fault, yX10_land, yX10_isOne, yX10_isCell, yX10_apart, yX10_far, yX10_beside, yX10_against, yX10_gainBy, yX10_gainOn, yX10_all, yX10_canBe, yX10_voteOn, yX10_layCounts, yX10_carried, yX10_everybody, yX10_carriedFrom, yX10_passes, yX10_copyNow, yX10_oneTells, yX10_one, yX10_silent, yX10_cellsOf, yX10_mark, yX10_gain, yX10_remember, yX10_year, yX10_push, yX10_house, yX10_undo, yX10_keep, yX10_on, yX10_need, yX10_votes, yX10_carries, yX10_hearthsOf, yX10_buy, yX10_then, yX10_when, yX10_round, yX10_gainedBy, yX10_course, yX10_needPairs, yX10_fitSet, yX10_fits, yX10_alike, yX10_next, yX10_kindSet, yX10_kinds, yX10_alikeKinds, yX10_test, yX10_laySteps, yX10_way, yX10_parts, yX10_duel, yX10_layParts, yX10_odds, yX10_mid, yX10_lots, yX10_counted, yX10_count, yX10_mix, yX10_mixLand, yX10_digest, yJ6_bitCount_0f7a4]
def CT : List ByteArray := [cL_law, cX0_init, cX0_hold, cX0_choiceOf, cX0_heap, cX0_winner, cX0_lead, cX0_votersFor, cX0_cheapestBought, cX1_init, cX1_weigh, cX1_weightOf, cX1_tell, cX1_commonDivisor, cX2_init, cX2_fittingCells, cX2_fittingKinds, cX2_bestTeller, cX2_bestCell, cX2_startTally, cX2_addToTally, cX2_takeIfLess, cX3_init, cX3_clear, cX3_become, cX3_settle, cX3_isEmpty, cX3_cells, cX3_hasCell, cX3_hasOne, cX3_far, cX3_beside, cX3_canGo, cX3_against, cX3_isOf, cX3_liesNorth, cX3_gains, cX3_gainsAs, cX3_gainOf, cX3_gainfulCells, cX3_worth, cX3_hearthsOf, cX3_allHearths, cX3_widows, cX3_goInYear, cX3_bePushed, cX3_moveHouse, cX3_remember, cX3_undoFrom, cX4_init, cX4_steps, cX4_reachBeside, cX4_firstWay, cX5_init, cX5_bestCourse, cX5_weighCells, cX5_bestWay, cX5_gainedBy, cX5_duelWorth, cX5_wanted, cX6_init, cX6_readLand, cX6_readGround, cX6_readOne, cX6_kindOf, cX6_figure, cX6_atEnd, cX6_sign, cX6_skipBlanks, cX7_init, cX7_isMissing, cX7_remove, cX7_renew, cX7_holds, cX7_mixInto, cX8_init, cX8_begin, cX8_pass, cX8_untilRepeat, cX9_init, cX9_row, cX9_lay, cX9_at, cX9_tear, cX9_copy, cX9_mean, cX9_text, cX9_put, cX9_fault, cX9_land, cX9_one, cX9_mark, cX9_gain, cX9_year, cX9_push, cX9_house, cX9_undo, cX9_keep, cX9_on, cX9_votes, cX9_carries, cX9_buy, cX9_then, cX9_when, cX9_round, cX9_course, cX9_fits, cX9_next, cX9_kinds, cX9_test, cX9_way, cX9_parts, cX9_duel, cX9_odds, cX9_mid, cX9_lots, cX9_asked, cX9_upper, cX9_lower, cX9_count, cX9_finding, cX9_findings, cX9_digest, cX9_isRow, cX9_isText, cX9_isWay, cX9_refuse, cX9_placeRefusal, cX9_cellPairsRefusal, cX9_kindPairsRefusal, cX9_pairsRefusal, cX9_aboutOne, cX9_abstainersBeside, cX9_passYear, cX9_present, cX9_keptLands, cX10_init, cX10_in, cX10_has, cX10_bits, cX10_meets, cX10_finding, cX10_findings, cX10_tells, cX10_asked, cX10_fraction, cX10_upper, cX10_lower, cX10_isRow, cX10_rowAt, cX10_row, cX10_lay, cX10_at, cX10_tear, cX10_copy, cX10_mean, cX10_isText, cX10_text, cX10_put, cX10_byteAt, cX10_kindBy, cX10_figure, cX10_readsHead, cX10_readsOne, cX10_faultOf, cX10_fault, cX10_land, cX10_isOne, cX10_isCell, cX10_apart, cX10_far, cX10_beside, cX10_against, cX10_gainBy, cX10_gainOn, cX10_all, cX10_canBe, cX10_voteOn, cX10_layCounts, cX10_carried, cX10_everybody, cX10_carriedFrom, cX10_passes, cX10_copyNow, cX10_oneTells, cX10_one, cX10_silent, cX10_cellsOf, cX10_mark, cX10_gain, cX10_remember, cX10_year, cX10_push, cX10_house, cX10_undo, cX10_keep, cX10_on, cX10_need, cX10_votes, cX10_carries, cX10_hearthsOf, cX10_buy, cX10_then, cX10_when, cX10_round, cX10_gainedBy, cX10_course, cX10_needPairs, cX10_fitSet, cX10_fits, cX10_alike, cX10_next, cX10_kindSet, cX10_kinds, cX10_alikeKinds, cX10_test, cX10_laySteps, cX10_way, cX10_parts, cX10_duel, cX10_layParts, cX10_odds, cX10_mid, cX10_lots, cX10_counted, cX10_count, cX10_mix, cX10_mixLand, cX10_digest, cJ6_bitCount_0f7a4]
def OT : List String := [RL, RX0, RX0, RX0, RX0, RX0, RX0, RX0, RX0, RX1, RX1, RX1, RX1, RX1, RX2, RX2, RX2, RX2, RX2, RX2, RX2, RX2, RX3, RX3, RX3, RX3, RX3, RX3, RX3, RX3, RX3, RX3, RX3, RX3, RX3, RX3, RX3, RX3, RX3, RX3, RX3, RX3, RX3, RX3, RX3, RX3, RX3, RX3, RX3, RX4, RX4, RX4, RX4, RX5, RX5, RX5, RX5, RX5, RX5, RX5, RX6, RX6, RX6, RX6, RX6, RX6, RX6, RX6, RX6, RX7, RX7, RX7, RX7, RX7, RX7, RX8, RX8, RX8, RX8, RX9, RX9, RX9, RX9, RX9, RX9, RX9, RX9, RX9, RX9, RX9, RX9, RX9, RX9, RX9, RX9, RX9, RX9, RX9, RX9, RX9, RX9, RX9, RX9, RX9, RX9, RX9, RX9, RX9, RX9, RX9, RX9, RX9, RX9, RX9, RX9, RX9, RX9, RX9, RX9, RX9, RX9, RX9, RX9, RX9, RX9, RX9, RX9, RX9, RX9, RX9, RX9, RX9, RX9, RX9, RX9, RX9, RX10, RX10, RX10, RX10, RX10, RX10, RX10, RX10, RX10, RX10, RX10, RX10, RX10, RX10, RX10, RX10, RX10, RX10, RX10, RX10, RX10, RX10, RX10, RX10, RX10, RX10, RX10, RX10, RX10, RX10, RX10, RX10, RX10, RX10, RX10, RX10, RX10, RX10, RX10, RX10, RX10, RX10, RX10, RX10, RX10, RX10, RX10, RX10, RX10, RX10, RX10, RX10, RX10, RX10, RX10, RX10, RX10, RX10, RX10, RX10, RX10, RX10, RX10, RX10, RX10, RX10, RX10, RX10, RX10, RX10, RX10, RX10, RX10, RX10, RX10, RX10, RX10, RX10, RX10, RX10, RX10, RX10, RX10, RX10, RX10, RX10, RX10, RX10, RX10, RX10, RX10, RX10, RX10, RJ6]
def mKind (j : Nat) : Nat := (MT.getD j (9, 99, 0, 0, 0)).1
def mCls (j : Nat) : Nat := (MT.getD j (9, 99, 0, 0, 0)).2.1
def mPar (j : Nat) : Nat := (MT.getD j (9, 99, 0, 0, 0)).2.2.1
def mLoc (j : Nat) : Nat := (MT.getD j (9, 99, 0, 0, 0)).2.2.2.1
def mRet (j : Nat) : Nat := (MT.getD j (9, 99, 0, 0, 0)).2.2.2.2
end
section
/-! the rows are what the bytes decode to, and what they link to stands in the tables: decided by the kernel, method by method -/
def tb (p : Nat) (w : Cond) : Bool := decide (lw_tbl[p]? = some w)
def FT (ci k : Nat) : String × String × String × Bool := ((vwCl.getD ci ("", fun _ => ("", "", "", false), 0)).2.1 k)
def NT (ci : Nat) : Nat := (vwCl.getD ci ("", fun _ => ("", "", "", false), 0)).2.2
def CN (ci : Nat) : String := (vwCl.getD ci ("", fun _ => ("", "", "", false), 0)).1
def yOf (j : Nat) : MethodName := YT.getD j ⟨"", "", ""⟩
def cOf (j : Nat) : ByteArray := CT.getD j ⟨#[]⟩
def oOf (j : Nat) : String := OT.getD j ""
def retTy (k : Nat) : Option FieldType := match k with
  | 1 => some .int
  | 2 => some .boolean
  | 3 => some .long
  | _ => none
def lenOf (ins : Instr) (len : Nat) : Nat := match ins with
  | .aload _ => 2 | .iload _ => 2 | .lload _ => 2 | .istore _ => 2 | .lstore _ => 2 | .iinc _ _ => 3 | .bipush _ => 2 | .sipush _ => 3 | .ldc _ => 2 | .ldc_w _ => 3 | .ldc2_w _ => 3
  | .goto _ => 3 | .ifCond _ _ => 3 | .if_icmp _ _ => 3 | .ifnull _ => 3 | .getfield _ => 3 | .putfield _ => 3 | .getstatic _ => 3 | .invokevirtual _ => 3 | .invokestatic _ => 3 | .invokespecial _ => 3
  | .new _ => 3 | .newarray _ => 2 | .anewarray _ => 3 | .multianewarray _ _ => 4 | .tableswitch _ _ _ _ => len | _ => 1
def rnF (x : Int) : String × String × String × String := if x = -3 then ("VotedHill$Reader", "KIND_LETTERS", "[C", "") else if x = -4 then ("VotedHill$Land", "WIDER_KIND", "[I", "") else ("VotedHill$Land", "AGAINST", "[I", "")
def okWord (mi : Nat) (own : String) (pc : Nat) (ins : Instr) (x : Int) (pos : Nat) : Bool := match ins with
  | .getfield idx => decide ((x % 100).toNat < NT (x / 100).toNat ∧ (x / 100).toNat < 11 ∧ 0 ≤ x) && tb pos (.fieldLink own idx (FT (x / 100).toNat (x % 100).toNat).1 (FT (x / 100).toNat (x % 100).toNat).2.1 (FT (x / 100).toNat (x % 100).toNat).2.2.1)
  | .putfield idx => decide ((x % 100).toNat < NT (x / 100).toNat ∧ (x / 100).toNat < 11 ∧ 0 ≤ x) && tb pos (.fieldLink own idx (FT (x / 100).toNat (x % 100).toNat).1 (FT (x / 100).toNat (x % 100).toNat).2.1 (FT (x / 100).toNat (x % 100).toNat).2.2.1)
      && (!(FT (x / 100).toNat (x % 100).toNat).2.2.2 || (decide (mKind mi = 2) && decide ((FT (x / 100).toNat (x % 100).toNat).1 = own)))
  | .getstatic idx => decide (x = -3 ∨ x = -4 ∨ x = -5) && tb pos (.fieldLink own idx (rnF x).1 (rnF x).2.1 (rnF x).2.2.1)
  | .invokevirtual idx => decide (0 ≤ x ∧ mKind x.toNat = 1) && tb pos (.methodLink own idx (yOf x.toNat))
  | .invokestatic idx => if x = -2 then tb pos (.methodLink own idx arraycopyName) else if x = -3 then tb pos (.methodLink own idx Lib.Math.max.name) else if x = -4 then tb pos (.methodLink own idx Lib.Math.min.name)
      else if x = -5 then tb pos (.methodLink own idx Lib.Math.abs.name) else decide (0 ≤ x ∧ mKind x.toNat = 0) && tb pos (.methodLink own idx (yOf x.toNat))
  | .invokespecial idx => if x = -1 then tb pos (.methodLink own idx Lib.objectInit) else decide (0 ≤ x ∧ mKind x.toNat = 2) && (tb pos (.methodLink own idx (yOf x.toNat)) || tb pos (.methodLinkNest own idx (yOf x.toNat) "VotedHill"))
  | .goto off => decide ((pc : Int) + off = x ∧ 0 ≤ x)
  | .ifCond _ off => decide ((pc : Int) + off = x ∧ 0 ≤ x)
  | .if_icmp _ off => decide ((pc : Int) + off = x ∧ 0 ≤ x)
  | .ldc idx => tb pos (.constant own idx (Int32.ofInt x))
  | .ldc_w idx => tb pos (.constant own idx (Int32.ofInt x))
  | .ldc2_w idx => tb pos (.constantLong own idx (Int64.ofInt x))
  | .tableswitch dflt _ _ offs => decide (0 ≤ (pc : Int) + dflt) && offs.toList.all (fun o => decide (0 ≤ (pc : Int) + o))
  | .new idx => decide (0 ≤ x ∧ x.toNat < 11) && tb pos (.classLink own idx (CN x.toNat))
  | .anewarray idx => (decide (x = 5) && tb pos (.classLink own idx "VotedHill$Strip")) || (decide (x = 6) && tb pos (.classLink own idx "VotedHill$Land"))
  | .multianewarray idx _ => tb pos (.classLink own idx "[[I")
  | .newarray t => tb pos (.arrayClass (newarray.typeOf t))
  | _ => true
def okRow (mi : Nat) (own : String) (bytes : ByteArray) (r : Row) : Bool :=
  decide (decode bytes r.1 = .ok (r.2.1, r.2.2.1)) && decide (r.2.2.1 = lenOf r.2.1 r.2.2.1) && okWord mi own r.1 r.2.1 r.2.2.2.1 r.2.2.2.2
theorem okr_0_0 : rw_0_0.all (okRow 0 RL cL_law) = true := by decide +kernel
theorem okr_0_1 : rw_0_1.all (okRow 0 RL cL_law) = true := by decide +kernel
theorem okr_0_2 : rw_0_2.all (okRow 0 RL cL_law) = true := by decide +kernel
theorem okr_0_3 : rw_0_3.all (okRow 0 RL cL_law) = true := by decide +kernel
theorem okr_0_4 : rw_0_4.all (okRow 0 RL cL_law) = true := by decide +kernel
theorem okr_0_5 : rw_0_5.all (okRow 0 RL cL_law) = true := by decide +kernel
theorem okr_0_6 : rw_0_6.all (okRow 0 RL cL_law) = true := by decide +kernel
theorem okr_0_7 : rw_0_7.all (okRow 0 RL cL_law) = true := by decide +kernel
theorem okr_0_8 : rw_0_8.all (okRow 0 RL cL_law) = true := by decide +kernel
theorem okr_0 : rw_0.all (okRow 0 RL cL_law) = true := by
  simp only [rw_0, List.all_append, okr_0_0, okr_0_1, okr_0_2, okr_0_3, okr_0_4, okr_0_5, okr_0_6, okr_0_7, okr_0_8, Bool.and_self]
theorem okr_1 : rw_1.all (okRow 1 RX0 cX0_init) = true := by decide +kernel
theorem okr_2 : rw_2.all (okRow 2 RX0 cX0_hold) = true := by decide +kernel
theorem okr_3 : rw_3.all (okRow 3 RX0 cX0_choiceOf) = true := by decide +kernel
theorem okr_4 : rw_4.all (okRow 4 RX0 cX0_heap) = true := by decide +kernel
theorem okr_5 : rw_5.all (okRow 5 RX0 cX0_winner) = true := by decide +kernel
theorem okr_6 : rw_6.all (okRow 6 RX0 cX0_lead) = true := by decide +kernel
theorem okr_7 : rw_7.all (okRow 7 RX0 cX0_votersFor) = true := by decide +kernel
theorem okr_8 : rw_8.all (okRow 8 RX0 cX0_cheapestBought) = true := by decide +kernel
theorem okr_9 : rw_9.all (okRow 9 RX1 cX1_init) = true := by decide +kernel
theorem okr_10 : rw_10.all (okRow 10 RX1 cX1_weigh) = true := by decide +kernel
theorem okr_11 : rw_11.all (okRow 11 RX1 cX1_weightOf) = true := by decide +kernel
theorem okr_12 : rw_12.all (okRow 12 RX1 cX1_tell) = true := by decide +kernel
theorem okr_13 : rw_13.all (okRow 13 RX1 cX1_commonDivisor) = true := by decide +kernel
theorem okr_14 : rw_14.all (okRow 14 RX2 cX2_init) = true := by decide +kernel
theorem okr_15 : rw_15.all (okRow 15 RX2 cX2_fittingCells) = true := by decide +kernel
theorem okr_16 : rw_16.all (okRow 16 RX2 cX2_fittingKinds) = true := by decide +kernel
theorem okr_17 : rw_17.all (okRow 17 RX2 cX2_bestTeller) = true := by decide +kernel
theorem okr_18 : rw_18.all (okRow 18 RX2 cX2_bestCell) = true := by decide +kernel
theorem okr_19 : rw_19.all (okRow 19 RX2 cX2_startTally) = true := by decide +kernel
theorem okr_20 : rw_20.all (okRow 20 RX2 cX2_addToTally) = true := by decide +kernel
theorem okr_21 : rw_21.all (okRow 21 RX2 cX2_takeIfLess) = true := by decide +kernel
theorem okr_22 : rw_22.all (okRow 22 RX3 cX3_init) = true := by decide +kernel
theorem okr_23 : rw_23.all (okRow 23 RX3 cX3_clear) = true := by decide +kernel
theorem okr_24 : rw_24.all (okRow 24 RX3 cX3_become) = true := by decide +kernel
theorem okr_25 : rw_25.all (okRow 25 RX3 cX3_settle) = true := by decide +kernel
theorem okr_26 : rw_26.all (okRow 26 RX3 cX3_isEmpty) = true := by decide +kernel
theorem okr_27 : rw_27.all (okRow 27 RX3 cX3_cells) = true := by decide +kernel
theorem okr_28 : rw_28.all (okRow 28 RX3 cX3_hasCell) = true := by decide +kernel
theorem okr_29 : rw_29.all (okRow 29 RX3 cX3_hasOne) = true := by decide +kernel
theorem okr_30 : rw_30.all (okRow 30 RX3 cX3_far) = true := by decide +kernel
theorem okr_31 : rw_31.all (okRow 31 RX3 cX3_beside) = true := by decide +kernel
theorem okr_32 : rw_32.all (okRow 32 RX3 cX3_canGo) = true := by decide +kernel
theorem okr_33 : rw_33.all (okRow 33 RX3 cX3_against) = true := by decide +kernel
theorem okr_34 : rw_34.all (okRow 34 RX3 cX3_isOf) = true := by decide +kernel
theorem okr_35 : rw_35.all (okRow 35 RX3 cX3_liesNorth) = true := by decide +kernel
theorem okr_36 : rw_36.all (okRow 36 RX3 cX3_gains) = true := by decide +kernel
theorem okr_37 : rw_37.all (okRow 37 RX3 cX3_gainsAs) = true := by decide +kernel
theorem okr_38 : rw_38.all (okRow 38 RX3 cX3_gainOf) = true := by decide +kernel
theorem okr_39 : rw_39.all (okRow 39 RX3 cX3_gainfulCells) = true := by decide +kernel
theorem okr_40 : rw_40.all (okRow 40 RX3 cX3_worth) = true := by decide +kernel
theorem okr_41 : rw_41.all (okRow 41 RX3 cX3_hearthsOf) = true := by decide +kernel
theorem okr_42 : rw_42.all (okRow 42 RX3 cX3_allHearths) = true := by decide +kernel
theorem okr_43 : rw_43.all (okRow 43 RX3 cX3_widows) = true := by decide +kernel
theorem okr_44 : rw_44.all (okRow 44 RX3 cX3_goInYear) = true := by decide +kernel
theorem okr_45 : rw_45.all (okRow 45 RX3 cX3_bePushed) = true := by decide +kernel
theorem okr_46 : rw_46.all (okRow 46 RX3 cX3_moveHouse) = true := by decide +kernel
theorem okr_47 : rw_47.all (okRow 47 RX3 cX3_remember) = true := by decide +kernel
theorem okr_48 : rw_48.all (okRow 48 RX3 cX3_undoFrom) = true := by decide +kernel
theorem okr_49 : rw_49.all (okRow 49 RX4 cX4_init) = true := by decide +kernel
theorem okr_50 : rw_50.all (okRow 50 RX4 cX4_steps) = true := by decide +kernel
theorem okr_51 : rw_51.all (okRow 51 RX4 cX4_reachBeside) = true := by decide +kernel
theorem okr_52 : rw_52.all (okRow 52 RX4 cX4_firstWay) = true := by decide +kernel
theorem okr_53 : rw_53.all (okRow 53 RX5 cX5_init) = true := by decide +kernel
theorem okr_54 : rw_54.all (okRow 54 RX5 cX5_bestCourse) = true := by decide +kernel
theorem okr_55 : rw_55.all (okRow 55 RX5 cX5_weighCells) = true := by decide +kernel
theorem okr_56 : rw_56.all (okRow 56 RX5 cX5_bestWay) = true := by decide +kernel
theorem okr_57 : rw_57.all (okRow 57 RX5 cX5_gainedBy) = true := by decide +kernel
theorem okr_58 : rw_58.all (okRow 58 RX5 cX5_duelWorth) = true := by decide +kernel
theorem okr_59 : rw_59.all (okRow 59 RX5 cX5_wanted) = true := by decide +kernel
theorem okr_60 : rw_60.all (okRow 60 RX6 cX6_init) = true := by decide +kernel
theorem okr_61 : rw_61.all (okRow 61 RX6 cX6_readLand) = true := by decide +kernel
theorem okr_62 : rw_62.all (okRow 62 RX6 cX6_readGround) = true := by decide +kernel
theorem okr_63 : rw_63.all (okRow 63 RX6 cX6_readOne) = true := by decide +kernel
theorem okr_64 : rw_64.all (okRow 64 RX6 cX6_kindOf) = true := by decide +kernel
theorem okr_65 : rw_65.all (okRow 65 RX6 cX6_figure) = true := by decide +kernel
theorem okr_66 : rw_66.all (okRow 66 RX6 cX6_atEnd) = true := by decide +kernel
theorem okr_67 : rw_67.all (okRow 67 RX6 cX6_sign) = true := by decide +kernel
theorem okr_68 : rw_68.all (okRow 68 RX6 cX6_skipBlanks) = true := by decide +kernel
theorem okr_69 : rw_69.all (okRow 69 RX7 cX7_init) = true := by decide +kernel
theorem okr_70 : rw_70.all (okRow 70 RX7 cX7_isMissing) = true := by decide +kernel
theorem okr_71 : rw_71.all (okRow 71 RX7 cX7_remove) = true := by decide +kernel
theorem okr_72 : rw_72.all (okRow 72 RX7 cX7_renew) = true := by decide +kernel
theorem okr_73 : rw_73.all (okRow 73 RX7 cX7_holds) = true := by decide +kernel
theorem okr_74 : rw_74.all (okRow 74 RX7 cX7_mixInto) = true := by decide +kernel
theorem okr_75 : rw_75.all (okRow 75 RX8 cX8_init) = true := by decide +kernel
theorem okr_76 : rw_76.all (okRow 76 RX8 cX8_begin) = true := by decide +kernel
theorem okr_77 : rw_77.all (okRow 77 RX8 cX8_pass) = true := by decide +kernel
theorem okr_78 : rw_78.all (okRow 78 RX8 cX8_untilRepeat) = true := by decide +kernel
theorem okr_79 : rw_79.all (okRow 79 RX9 cX9_init) = true := by decide +kernel
theorem okr_80 : rw_80.all (okRow 80 RX9 cX9_row) = true := by decide +kernel
theorem okr_81 : rw_81.all (okRow 81 RX9 cX9_lay) = true := by decide +kernel
theorem okr_82 : rw_82.all (okRow 82 RX9 cX9_at) = true := by decide +kernel
theorem okr_83 : rw_83.all (okRow 83 RX9 cX9_tear) = true := by decide +kernel
theorem okr_84 : rw_84.all (okRow 84 RX9 cX9_copy) = true := by decide +kernel
theorem okr_85 : rw_85.all (okRow 85 RX9 cX9_mean) = true := by decide +kernel
theorem okr_86 : rw_86.all (okRow 86 RX9 cX9_text) = true := by decide +kernel
theorem okr_87 : rw_87.all (okRow 87 RX9 cX9_put) = true := by decide +kernel
theorem okr_88 : rw_88.all (okRow 88 RX9 cX9_fault) = true := by decide +kernel
theorem okr_89 : rw_89.all (okRow 89 RX9 cX9_land) = true := by decide +kernel
theorem okr_90 : rw_90.all (okRow 90 RX9 cX9_one) = true := by decide +kernel
theorem okr_91 : rw_91.all (okRow 91 RX9 cX9_mark) = true := by decide +kernel
theorem okr_92 : rw_92.all (okRow 92 RX9 cX9_gain) = true := by decide +kernel
theorem okr_93 : rw_93.all (okRow 93 RX9 cX9_year) = true := by decide +kernel
theorem okr_94 : rw_94.all (okRow 94 RX9 cX9_push) = true := by decide +kernel
theorem okr_95 : rw_95.all (okRow 95 RX9 cX9_house) = true := by decide +kernel
theorem okr_96 : rw_96.all (okRow 96 RX9 cX9_undo) = true := by decide +kernel
theorem okr_97 : rw_97.all (okRow 97 RX9 cX9_keep) = true := by decide +kernel
theorem okr_98 : rw_98.all (okRow 98 RX9 cX9_on) = true := by decide +kernel
theorem okr_99 : rw_99.all (okRow 99 RX9 cX9_votes) = true := by decide +kernel
theorem okr_100 : rw_100.all (okRow 100 RX9 cX9_carries) = true := by decide +kernel
theorem okr_101 : rw_101.all (okRow 101 RX9 cX9_buy) = true := by decide +kernel
theorem okr_102 : rw_102.all (okRow 102 RX9 cX9_then) = true := by decide +kernel
theorem okr_103 : rw_103.all (okRow 103 RX9 cX9_when) = true := by decide +kernel
theorem okr_104 : rw_104.all (okRow 104 RX9 cX9_round) = true := by decide +kernel
theorem okr_105 : rw_105.all (okRow 105 RX9 cX9_course) = true := by decide +kernel
theorem okr_106 : rw_106.all (okRow 106 RX9 cX9_fits) = true := by decide +kernel
theorem okr_107 : rw_107.all (okRow 107 RX9 cX9_next) = true := by decide +kernel
theorem okr_108 : rw_108.all (okRow 108 RX9 cX9_kinds) = true := by decide +kernel
theorem okr_109 : rw_109.all (okRow 109 RX9 cX9_test) = true := by decide +kernel
theorem okr_110 : rw_110.all (okRow 110 RX9 cX9_way) = true := by decide +kernel
theorem okr_111 : rw_111.all (okRow 111 RX9 cX9_parts) = true := by decide +kernel
theorem okr_112 : rw_112.all (okRow 112 RX9 cX9_duel) = true := by decide +kernel
theorem okr_113 : rw_113.all (okRow 113 RX9 cX9_odds) = true := by decide +kernel
theorem okr_114 : rw_114.all (okRow 114 RX9 cX9_mid) = true := by decide +kernel
theorem okr_115 : rw_115.all (okRow 115 RX9 cX9_lots) = true := by decide +kernel
theorem okr_116 : rw_116.all (okRow 116 RX9 cX9_asked) = true := by decide +kernel
theorem okr_117 : rw_117.all (okRow 117 RX9 cX9_upper) = true := by decide +kernel
theorem okr_118 : rw_118.all (okRow 118 RX9 cX9_lower) = true := by decide +kernel
theorem okr_119 : rw_119.all (okRow 119 RX9 cX9_count) = true := by decide +kernel
theorem okr_120 : rw_120.all (okRow 120 RX9 cX9_finding) = true := by decide +kernel
theorem okr_121 : rw_121.all (okRow 121 RX9 cX9_findings) = true := by decide +kernel
theorem okr_122 : rw_122.all (okRow 122 RX9 cX9_digest) = true := by decide +kernel
theorem okr_123 : rw_123.all (okRow 123 RX9 cX9_isRow) = true := by decide +kernel
theorem okr_124 : rw_124.all (okRow 124 RX9 cX9_isText) = true := by decide +kernel
theorem okr_125 : rw_125.all (okRow 125 RX9 cX9_isWay) = true := by decide +kernel
theorem okr_126 : rw_126.all (okRow 126 RX9 cX9_refuse) = true := by decide +kernel
theorem okr_127 : rw_127.all (okRow 127 RX9 cX9_placeRefusal) = true := by decide +kernel
theorem okr_128 : rw_128.all (okRow 128 RX9 cX9_cellPairsRefusal) = true := by decide +kernel
theorem okr_129 : rw_129.all (okRow 129 RX9 cX9_kindPairsRefusal) = true := by decide +kernel
theorem okr_130 : rw_130.all (okRow 130 RX9 cX9_pairsRefusal) = true := by decide +kernel
theorem okr_131 : rw_131.all (okRow 131 RX9 cX9_aboutOne) = true := by decide +kernel
theorem okr_132 : rw_132.all (okRow 132 RX9 cX9_abstainersBeside) = true := by decide +kernel
theorem okr_133 : rw_133.all (okRow 133 RX9 cX9_passYear) = true := by decide +kernel
theorem okr_134 : rw_134.all (okRow 134 RX9 cX9_present) = true := by decide +kernel
theorem okr_135 : rw_135.all (okRow 135 RX9 cX9_keptLands) = true := by decide +kernel
theorem okr_136 : rw_136.all (okRow 136 RX10 cX10_init) = true := by decide +kernel
theorem okr_137 : rw_137.all (okRow 137 RX10 cX10_in) = true := by decide +kernel
theorem okr_138 : rw_138.all (okRow 138 RX10 cX10_has) = true := by decide +kernel
theorem okr_139 : rw_139.all (okRow 139 RX10 cX10_bits) = true := by decide +kernel
theorem okr_140 : rw_140.all (okRow 140 RX10 cX10_meets) = true := by decide +kernel
theorem okr_141 : rw_141.all (okRow 141 RX10 cX10_finding) = true := by decide +kernel
theorem okr_142 : rw_142.all (okRow 142 RX10 cX10_findings) = true := by decide +kernel
theorem okr_143 : rw_143.all (okRow 143 RX10 cX10_tells) = true := by decide +kernel
theorem okr_144 : rw_144.all (okRow 144 RX10 cX10_asked) = true := by decide +kernel
theorem okr_145 : rw_145.all (okRow 145 RX10 cX10_fraction) = true := by decide +kernel
theorem okr_146 : rw_146.all (okRow 146 RX10 cX10_upper) = true := by decide +kernel
theorem okr_147 : rw_147.all (okRow 147 RX10 cX10_lower) = true := by decide +kernel
theorem okr_148 : rw_148.all (okRow 148 RX10 cX10_isRow) = true := by decide +kernel
theorem okr_149 : rw_149.all (okRow 149 RX10 cX10_rowAt) = true := by decide +kernel
theorem okr_150 : rw_150.all (okRow 150 RX10 cX10_row) = true := by decide +kernel
theorem okr_151 : rw_151.all (okRow 151 RX10 cX10_lay) = true := by decide +kernel
theorem okr_152 : rw_152.all (okRow 152 RX10 cX10_at) = true := by decide +kernel
theorem okr_153 : rw_153.all (okRow 153 RX10 cX10_tear) = true := by decide +kernel
theorem okr_154 : rw_154.all (okRow 154 RX10 cX10_copy) = true := by decide +kernel
theorem okr_155 : rw_155.all (okRow 155 RX10 cX10_mean) = true := by decide +kernel
theorem okr_156 : rw_156.all (okRow 156 RX10 cX10_isText) = true := by decide +kernel
theorem okr_157 : rw_157.all (okRow 157 RX10 cX10_text) = true := by decide +kernel
theorem okr_158 : rw_158.all (okRow 158 RX10 cX10_put) = true := by decide +kernel
theorem okr_159 : rw_159.all (okRow 159 RX10 cX10_byteAt) = true := by decide +kernel
theorem okr_160 : rw_160.all (okRow 160 RX10 cX10_kindBy) = true := by decide +kernel
theorem okr_161 : rw_161.all (okRow 161 RX10 cX10_figure) = true := by decide +kernel
theorem okr_162 : rw_162.all (okRow 162 RX10 cX10_readsHead) = true := by decide +kernel
theorem okr_163 : rw_163.all (okRow 163 RX10 cX10_readsOne) = true := by decide +kernel
theorem okr_164 : rw_164.all (okRow 164 RX10 cX10_faultOf) = true := by decide +kernel
theorem okr_165 : rw_165.all (okRow 165 RX10 cX10_fault) = true := by decide +kernel
theorem okr_166 : rw_166.all (okRow 166 RX10 cX10_land) = true := by decide +kernel
theorem okr_167 : rw_167.all (okRow 167 RX10 cX10_isOne) = true := by decide +kernel
theorem okr_168 : rw_168.all (okRow 168 RX10 cX10_isCell) = true := by decide +kernel
theorem okr_169 : rw_169.all (okRow 169 RX10 cX10_apart) = true := by decide +kernel
theorem okr_170 : rw_170.all (okRow 170 RX10 cX10_far) = true := by decide +kernel
theorem okr_171 : rw_171.all (okRow 171 RX10 cX10_beside) = true := by decide +kernel
theorem okr_172 : rw_172.all (okRow 172 RX10 cX10_against) = true := by decide +kernel
theorem okr_173 : rw_173.all (okRow 173 RX10 cX10_gainBy) = true := by decide +kernel
theorem okr_174 : rw_174.all (okRow 174 RX10 cX10_gainOn) = true := by decide +kernel
theorem okr_175 : rw_175.all (okRow 175 RX10 cX10_all) = true := by decide +kernel
theorem okr_176 : rw_176.all (okRow 176 RX10 cX10_canBe) = true := by decide +kernel
theorem okr_177 : rw_177.all (okRow 177 RX10 cX10_voteOn) = true := by decide +kernel
theorem okr_178 : rw_178.all (okRow 178 RX10 cX10_layCounts) = true := by decide +kernel
theorem okr_179 : rw_179.all (okRow 179 RX10 cX10_carried) = true := by decide +kernel
theorem okr_180 : rw_180.all (okRow 180 RX10 cX10_everybody) = true := by decide +kernel
theorem okr_181 : rw_181.all (okRow 181 RX10 cX10_carriedFrom) = true := by decide +kernel
theorem okr_182 : rw_182.all (okRow 182 RX10 cX10_passes) = true := by decide +kernel
theorem okr_183 : rw_183.all (okRow 183 RX10 cX10_copyNow) = true := by decide +kernel
theorem okr_184 : rw_184.all (okRow 184 RX10 cX10_oneTells) = true := by decide +kernel
theorem okr_185 : rw_185.all (okRow 185 RX10 cX10_one) = true := by decide +kernel
theorem okr_186 : rw_186.all (okRow 186 RX10 cX10_silent) = true := by decide +kernel
theorem okr_187 : rw_187.all (okRow 187 RX10 cX10_cellsOf) = true := by decide +kernel
theorem okr_188 : rw_188.all (okRow 188 RX10 cX10_mark) = true := by decide +kernel
theorem okr_189 : rw_189.all (okRow 189 RX10 cX10_gain) = true := by decide +kernel
theorem okr_190 : rw_190.all (okRow 190 RX10 cX10_remember) = true := by decide +kernel
theorem okr_191 : rw_191.all (okRow 191 RX10 cX10_year) = true := by decide +kernel
theorem okr_192 : rw_192.all (okRow 192 RX10 cX10_push) = true := by decide +kernel
theorem okr_193 : rw_193.all (okRow 193 RX10 cX10_house) = true := by decide +kernel
theorem okr_194 : rw_194.all (okRow 194 RX10 cX10_undo) = true := by decide +kernel
theorem okr_195 : rw_195.all (okRow 195 RX10 cX10_keep) = true := by decide +kernel
theorem okr_196 : rw_196.all (okRow 196 RX10 cX10_on) = true := by decide +kernel
theorem okr_197 : rw_197.all (okRow 197 RX10 cX10_need) = true := by decide +kernel
theorem okr_198 : rw_198.all (okRow 198 RX10 cX10_votes) = true := by decide +kernel
theorem okr_199 : rw_199.all (okRow 199 RX10 cX10_carries) = true := by decide +kernel
theorem okr_200 : rw_200.all (okRow 200 RX10 cX10_hearthsOf) = true := by decide +kernel
theorem okr_201 : rw_201.all (okRow 201 RX10 cX10_buy) = true := by decide +kernel
theorem okr_202 : rw_202.all (okRow 202 RX10 cX10_then) = true := by decide +kernel
theorem okr_203 : rw_203.all (okRow 203 RX10 cX10_when) = true := by decide +kernel
theorem okr_204 : rw_204.all (okRow 204 RX10 cX10_round) = true := by decide +kernel
theorem okr_205 : rw_205.all (okRow 205 RX10 cX10_gainedBy) = true := by decide +kernel
theorem okr_206 : rw_206.all (okRow 206 RX10 cX10_course) = true := by decide +kernel
theorem okr_207 : rw_207.all (okRow 207 RX10 cX10_needPairs) = true := by decide +kernel
theorem okr_208 : rw_208.all (okRow 208 RX10 cX10_fitSet) = true := by decide +kernel
theorem okr_209 : rw_209.all (okRow 209 RX10 cX10_fits) = true := by decide +kernel
theorem okr_210 : rw_210.all (okRow 210 RX10 cX10_alike) = true := by decide +kernel
theorem okr_211 : rw_211.all (okRow 211 RX10 cX10_next) = true := by decide +kernel
theorem okr_212 : rw_212.all (okRow 212 RX10 cX10_kindSet) = true := by decide +kernel
theorem okr_213 : rw_213.all (okRow 213 RX10 cX10_kinds) = true := by decide +kernel
theorem okr_214 : rw_214.all (okRow 214 RX10 cX10_alikeKinds) = true := by decide +kernel
theorem okr_215 : rw_215.all (okRow 215 RX10 cX10_test) = true := by decide +kernel
theorem okr_216 : rw_216.all (okRow 216 RX10 cX10_laySteps) = true := by decide +kernel
theorem okr_217 : rw_217.all (okRow 217 RX10 cX10_way) = true := by decide +kernel
theorem okr_218 : rw_218.all (okRow 218 RX10 cX10_parts) = true := by decide +kernel
theorem okr_219 : rw_219.all (okRow 219 RX10 cX10_duel) = true := by decide +kernel
theorem okr_220 : rw_220.all (okRow 220 RX10 cX10_layParts) = true := by decide +kernel
theorem okr_221 : rw_221.all (okRow 221 RX10 cX10_odds) = true := by decide +kernel
theorem okr_222 : rw_222.all (okRow 222 RX10 cX10_mid) = true := by decide +kernel
theorem okr_223 : rw_223.all (okRow 223 RX10 cX10_lots) = true := by decide +kernel
theorem okr_224 : rw_224.all (okRow 224 RX10 cX10_counted) = true := by decide +kernel
theorem okr_225 : rw_225.all (okRow 225 RX10 cX10_count) = true := by decide +kernel
theorem okr_226 : rw_226.all (okRow 226 RX10 cX10_mix) = true := by decide +kernel
theorem okr_227 : rw_227.all (okRow 227 RX10 cX10_mixLand) = true := by decide +kernel
theorem okr_228 : rw_228.all (okRow 228 RX10 cX10_digest) = true := by decide +kernel
theorem okr_229 : rw_229.all (okRow 229 RJ6 cJ6_bitCount_0f7a4) = true := by decide +kernel
end
section
/-! THE PURE MACHINE: whole numbers, cells by their order of making; no frame, no table -/
abbrev PV : Type := Int ⊕ (Int ⊕ Int)
abbrev vI (x : Int) : PV := Sum.inl x
abbrev vL (x : Int) : PV := Sum.inr (Sum.inl x)
abbrev vR (r : Int) : PV := Sum.inr (Sum.inr r)
abbrev PL : Type := List (Option PV)
abbrev Hp : Type := Int → Int → Int
abbrev Shp : Type := List (Nat × Nat)
def up (w : Hp) (r i x : Int) : Hp := fun a j => if a = r ∧ j = i then x else w a j
def w32 (z : Int) : Int := Int.bmod z 4294967296
def w64 (z : Int) : Int := Int.bmod z 18446744073709551616
def iDiv (x y : Int) : Int := w32 (Int.tdiv x y)
def iRem (x y : Int) : Int := w32 (x - w32 (iDiv x y * y))
def lDiv (x y : Int) : Int := w64 (Int.tdiv x y)
def lRem (x y : Int) : Int := w64 (x - w64 (lDiv x y * y))
def iAnd (x y : Int) : Int := (Int32.ofInt x &&& Int32.ofInt y).toInt
def iOr (x y : Int) : Int := (Int32.ofInt x ||| Int32.ofInt y).toInt
def iXor (x y : Int) : Int := (Int32.ofInt x ^^^ Int32.ofInt y).toInt
def iShl (x y : Int) : Int := (Int32.ofInt x <<< (Int32.ofInt y &&& 31)).toInt
def iShr (x y : Int) : Int := (Int32.ofInt x >>> (Int32.ofInt y &&& 31)).toInt
def iUshr (x y : Int) : Int := ((Int32.ofInt x).toUInt32 >>> ((Int32.ofInt y).toUInt32 &&& Int32.toUInt32 31)).toInt32.toInt
def iB (x : Int) : Int := Int.bmod x 256
def lCmp (x y : Int) : Int := if x < y then -1 else if x = y then 0 else 1
/-- a store of one word's value into local i: a long that began just ahead is gone -/
def lset (ls : PL) (i : Nat) (v : PV) : PL :=
  let l1 := ls.set i (some v)
  match i with
  | 0 => l1
  | j + 1 => match l1[j]? with
    | some (some (Sum.inr (Sum.inl _))) => l1.set j none
    | _ => l1
def lset2 (ls : PL) (i : Nat) (v : PV) : PL := (lset ls i v).set (i + 1) none
/-- kinds of fields: 0 int, 1 long, 2 reference, 3 boolean -/
def FK : List (List Nat) := [[2, 2], [1, 1, 2, 1], [0, 2], [0, 0, 0, 0, 0, 0, 0, 2, 2, 2, 2, 2, 2, 2, 2], [2, 2], [2, 2, 2], [2, 0], [2, 0], [0, 0, 0, 2],
  [2, 2, 2, 2, 2, 2, 2, 2, 2, 2, 2, 2, 2, 0, 0], [0, 2, 0, 1, 1, 2, 2, 2, 2, 2, 0, 0, 0, 2, 2, 2, 2, 0, 0, 3, 2, 2, 2, 0, 2, 2, 2, 2, 2, 2, 2, 2, 2, 2, 1, 1, 1, 1]]
def fk (ci k : Nat) : Nat := (FK.getD ci []).getD k 9
/-- a value of a kind out of a cell -/
def tagd (k : Nat) (x : Int) : Option PV := match k with
  | 0 => some (vI x)
  | 1 => some (vL x)
  | 2 => some (vR x)
  | 3 => some (vI x)
  | _ => none
/-- the number that goes into a cell of a kind -/
def untag (k : Nat) (v : PV) : Option Int := match k, v with
  | 0, Sum.inl x => some x
  | 1, Sum.inr (Sum.inl x) => some x
  | 2, Sum.inr (Sum.inr r) => some r
  | 3, Sum.inl x => if x = 0 ∨ x = 1 then some x else none
  | _, _ => none
def shAt (sh : Shp) (r : Int) : Option (Nat × Nat) := if 0 ≤ r then sh[r.toNat]? else none
/-- load from an array: the kinds of array cells that an instruction reads -/
def ldArr (sh : Shp) (ks : List Nat) (ro : List Int) (r i : Int) (w : Hp) : Option Int :=
  if 0 ≤ r then match sh[r.toNat]? with
    | some (k, n) => if ks.contains k = true ∧ 0 ≤ i ∧ i < n then some (w r i) else none
    | none => none
  else if ro.contains r = true ∧ 0 ≤ i ∧ i < w r (-1) then some (w r i) else none
def stArr (sh : Shp) (ks : List Nat) (r i : Int) : Bool :=
  match shAt sh r with
  | some (k, n) => ks.contains k && decide (0 ≤ i ∧ i < n)
  | none => false
abbrev R1 : Type := Option (Nat × PL × List PV × Hp)
def tgt (b : Prop) [Decidable b] (x : Int) (nx : Nat) : Nat := if b then x.toNat else nx
/-- one instruction that neither makes a cell, nor calls, nor returns -/
def step1 (sh : Shp) (ins : Instr) (len : Nat) (x : Int) (pc : Nat) (ls : PL) (st : List PV) (w : Hp) : R1 :=
  match ins with
  | .aload_n k => match ls[k.val]? with
    | some (some (Sum.inr (Sum.inr r))) => if r = -1 then none else some (pc + len, ls, vR r :: st, w)
    | _ => none
  | .aload k => match ls[k]? with
    | some (some (Sum.inr (Sum.inr r))) => if r = -1 then none else some (pc + len, ls, vR r :: st, w)
    | _ => none
  | .iload_n k => match ls[k.val]? with
    | some (some (Sum.inl a)) => some (pc + len, ls, vI a :: st, w)
    | _ => none
  | .iload k => match ls[k]? with
    | some (some (Sum.inl a)) => some (pc + len, ls, vI a :: st, w)
    | _ => none
  | .lload_n k => match ls[k.val]? with
    | some (some (Sum.inr (Sum.inl a))) => some (pc + len, ls, vL a :: st, w)
    | _ => none
  | .lload k => match ls[k]? with
    | some (some (Sum.inr (Sum.inl a))) => some (pc + len, ls, vL a :: st, w)
    | _ => none
  | .istore_n k => match st with
    | Sum.inl a :: st => if k.val < ls.length then some (pc + len, lset ls k.val (vI a), st, w) else none
    | _ => none
  | .istore k => match st with
    | Sum.inl a :: st => if k < ls.length then some (pc + len, lset ls k (vI a), st, w) else none
    | _ => none
  | .astore_n k => match st with
    | Sum.inr (Sum.inr r) :: st => if r = -1 then none else if k.val < ls.length then some (pc + len, lset ls k.val (vR r), st, w) else none
    | _ => none
  | .lstore_n k => match st with
    | Sum.inr (Sum.inl a) :: st => if k.val + 1 < ls.length then some (pc + len, lset2 ls k.val (vL a), st, w) else none
    | _ => none
  | .lstore k => match st with
    | Sum.inr (Sum.inl a) :: st => if k + 1 < ls.length then some (pc + len, lset2 ls k (vL a), st, w) else none
    | _ => none
  | .iinc k n => match ls[k]? with
    | some (some (Sum.inl a)) => some (pc + len, lset ls k (vI (w32 (a + w32 n))), st, w)
    | _ => none
  | .iconst n => some (pc + len, ls, vI (w32 n) :: st, w)
  | .bipush n => some (pc + len, ls, vI (iB n) :: st, w)
  | .sipush n => some (pc + len, ls, vI (Int.bmod n 65536) :: st, w)
  | .ldc _ => some (pc + len, ls, vI (w32 x) :: st, w)
  | .ldc_w _ => some (pc + len, ls, vI (w32 x) :: st, w)
  | .ldc2_w _ => some (pc + len, ls, vL (w64 x) :: st, w)
  | .lconst n => some (pc + len, ls, vL n.val :: st, w)
  | .aconst_null => some (pc + len, ls, vR (-1) :: st, w)
  | .dup => match st with
    | Sum.inl a :: st => some (pc + len, ls, vI a :: vI a :: st, w)
    | Sum.inr (Sum.inr a) :: st => some (pc + len, ls, vR a :: vR a :: st, w)
    | _ => none
  | .dup2 => match st with
    | Sum.inl a :: Sum.inr (Sum.inr b) :: st => some (pc + len, ls, vI a :: vR b :: vI a :: vR b :: st, w)
    | _ => none
  | .pop => match st with
    | Sum.inl _ :: st => some (pc + len, ls, st, w)
    | _ => none
  | .iadd => match st with
    | Sum.inl b :: Sum.inl a :: st => some (pc + len, ls, vI (w32 (a + b)) :: st, w)
    | _ => none
  | .isub => match st with
    | Sum.inl b :: Sum.inl a :: st => some (pc + len, ls, vI (w32 (a - b)) :: st, w)
    | _ => none
  | .imul => match st with
    | Sum.inl b :: Sum.inl a :: st => some (pc + len, ls, vI (w32 (a * b)) :: st, w)
    | _ => none
  | .idiv => match st with
    | Sum.inl b :: Sum.inl a :: st => if b = 0 then none else some (pc + len, ls, vI (iDiv a b) :: st, w)
    | _ => none
  | .irem => match st with
    | Sum.inl b :: Sum.inl a :: st => if b = 0 then none else some (pc + len, ls, vI (iRem a b) :: st, w)
    | _ => none
  | .ineg => match st with
    | Sum.inl a :: st => some (pc + len, ls, vI (w32 (-a)) :: st, w)
    | _ => none
  | .iand => match st with
    | Sum.inl b :: Sum.inl a :: st => some (pc + len, ls, vI (iAnd a b) :: st, w)
    | _ => none
  | .ior => match st with
    | Sum.inl b :: Sum.inl a :: st => some (pc + len, ls, vI (iOr a b) :: st, w)
    | _ => none
  | .ixor => match st with
    | Sum.inl b :: Sum.inl a :: st => some (pc + len, ls, vI (iXor a b) :: st, w)
    | _ => none
  | .ishl => match st with
    | Sum.inl b :: Sum.inl a :: st => some (pc + len, ls, vI (iShl a b) :: st, w)
    | _ => none
  | .ishr => match st with
    | Sum.inl b :: Sum.inl a :: st => some (pc + len, ls, vI (iShr a b) :: st, w)
    | _ => none
  | .iushr => match st with
    | Sum.inl b :: Sum.inl a :: st => some (pc + len, ls, vI (iUshr a b) :: st, w)
    | _ => none
  | .i2l => match st with
    | Sum.inl a :: st => some (pc + len, ls, vL a :: st, w)
    | _ => none
  | .l2i => match st with
    | Sum.inr (Sum.inl a) :: st => some (pc + len, ls, vI (w32 a) :: st, w)
    | _ => none
  | .i2b => match st with
    | Sum.inl a :: st => some (pc + len, ls, vI (iB a) :: st, w)
    | _ => none
  | .ladd => match st with
    | Sum.inr (Sum.inl b) :: Sum.inr (Sum.inl a) :: st => some (pc + len, ls, vL (w64 (a + b)) :: st, w)
    | _ => none
  | .lmul => match st with
    | Sum.inr (Sum.inl b) :: Sum.inr (Sum.inl a) :: st => some (pc + len, ls, vL (w64 (a * b)) :: st, w)
    | _ => none
  | .ldiv => match st with
    | Sum.inr (Sum.inl b) :: Sum.inr (Sum.inl a) :: st => if b = 0 then none else some (pc + len, ls, vL (lDiv a b) :: st, w)
    | _ => none
  | .lrem => match st with
    | Sum.inr (Sum.inl b) :: Sum.inr (Sum.inl a) :: st => if b = 0 then none else some (pc + len, ls, vL (lRem a b) :: st, w)
    | _ => none
  | .lcmp => match st with
    | Sum.inr (Sum.inl b) :: Sum.inr (Sum.inl a) :: st => some (pc + len, ls, vI (lCmp a b) :: st, w)
    | _ => none
  | .goto _ => some (x.toNat, ls, st, w)
  | .ifCond c _ => match st with
    | Sum.inl a :: st => match c with
      | .eq => some (tgt (a = 0) x (pc + len), ls, st, w)
      | .ne => some (tgt (a ≠ 0) x (pc + len), ls, st, w)
      | .lt => some (tgt (a < 0) x (pc + len), ls, st, w)
      | .ge => some (tgt (0 ≤ a) x (pc + len), ls, st, w)
      | .gt => some (tgt (0 < a) x (pc + len), ls, st, w)
      | .le => some (tgt (a ≤ 0) x (pc + len), ls, st, w)
    | _ => none
  | .if_icmp c _ => match st with
    | Sum.inl b :: Sum.inl a :: st => match c with
      | .eq => some (tgt (a = b) x (pc + len), ls, st, w)
      | .ne => some (tgt (a ≠ b) x (pc + len), ls, st, w)
      | .lt => some (tgt (a < b) x (pc + len), ls, st, w)
      | .ge => some (tgt (b ≤ a) x (pc + len), ls, st, w)
      | .gt => some (tgt (b < a) x (pc + len), ls, st, w)
      | .le => some (tgt (a ≤ b) x (pc + len), ls, st, w)
    | _ => none
  | .ifnull _ => match st with
    | Sum.inr (Sum.inr r) :: st => if r = -1 then none else some (pc + len, ls, st, w)
    | _ => none
  | .tableswitch dflt lo hi offs => match st with
    | Sum.inl a :: st => if a < lo ∨ hi < a then some (((pc : Int) + dflt).toNat, ls, st, w) else match offs[(a - lo).toNat]? with
      | some o => some (((pc : Int) + o).toNat, ls, st, w)
      | none => none
    | _ => none
  | .getfield _ => match st with
    | Sum.inr (Sum.inr r) :: st => if shAt sh r = some (0, (x / 100).toNat) then match tagd (fk (x / 100).toNat (x % 100).toNat) (w r (x % 100)) with
        | some v => some (pc + len, ls, v :: st, w)
        | none => none
      else none
    | _ => none
  | .putfield _ => match st with
    | v :: Sum.inr (Sum.inr r) :: st => if shAt sh r = some (0, (x / 100).toNat) then match untag (fk (x / 100).toNat (x % 100).toNat) v with
        | some z => some (pc + len, ls, st, up w r (x % 100) z)
        | none => none
      else none
    | _ => none
  | .getstatic _ => some (pc + len, ls, vR x :: st, w)
  | .arraylength => match st with
    | Sum.inr (Sum.inr r) :: st => if 0 ≤ r then match sh[r.toNat]? with
        | some (k + 1, n) => if n < 2147483648 then some (pc + len, ls, vI n :: st, w) else none
        | _ => none
      else if (r = -2 ∨ r = -3 ∨ r = -4 ∨ r = -5) ∧ 0 ≤ w r (-1) then some (pc + len, ls, vI (w r (-1)) :: st, w) else none
    | _ => none
  | .iaload => match st with
    | Sum.inl i :: Sum.inr (Sum.inr r) :: st => match ldArr sh [1] [-2, -4, -5] r i w with
      | some v => some (pc + len, ls, vI v :: st, w)
      | none => none
    | _ => none
  | .caload => match st with
    | Sum.inl i :: Sum.inr (Sum.inr r) :: st => match ldArr sh [] [-3] r i w with
      | some v => some (pc + len, ls, vI v :: st, w)
      | none => none
    | _ => none
  | .baload => match st with
    | Sum.inl i :: Sum.inr (Sum.inr r) :: st => match ldArr sh [3, 4] [] r i w with
      | some v => some (pc + len, ls, vI v :: st, w)
      | none => none
    | _ => none
  | .laload => match st with
    | Sum.inl i :: Sum.inr (Sum.inr r) :: st => match ldArr sh [2] [] r i w with
      | some v => some (pc + len, ls, vL v :: st, w)
      | none => none
    | _ => none
  | .aaload => match st with
    | Sum.inl i :: Sum.inr (Sum.inr r) :: st => match ldArr sh [5, 6, 7] [] r i w with
      | some v => some (pc + len, ls, vR v :: st, w)
      | none => none
    | _ => none
  | .iastore => match st with
    | Sum.inl v :: Sum.inl i :: Sum.inr (Sum.inr r) :: st => if stArr sh [1] r i = true then some (pc + len, ls, st, up w r i v) else none
    | _ => none
  | .lastore => match st with
    | Sum.inr (Sum.inl v) :: Sum.inl i :: Sum.inr (Sum.inr r) :: st => if stArr sh [2] r i = true then some (pc + len, ls, st, up w r i v) else none
    | _ => none
  | .bastore => match st with
    | Sum.inl v :: Sum.inl i :: Sum.inr (Sum.inr r) :: st => if stArr sh [3] r i = true then some (pc + len, ls, st, up w r i (iB v))
      else if stArr sh [4] r i = true ∧ (v = 0 ∨ v = 1) then some (pc + len, ls, st, up w r i v) else none
    | _ => none
  | .aastore => match st with
    | Sum.inr (Sum.inr v) :: Sum.inl i :: Sum.inr (Sum.inr r) :: st =>
      if stArr sh [5] r i = true ∧ shAt sh v = some (0, 7) then some (pc + len, ls, st, up w r i v)
      else if stArr sh [6] r i = true ∧ shAt sh v = some (0, 3) then some (pc + len, ls, st, up w r i v) else none
    | _ => none
  | .invokespecial _ => match st with
    | Sum.inr (Sum.inr r) :: st => if x = -1 ∧ r ≠ -1 ∧ st.length ≤ 4 then some (pc + len, ls, st, w) else none
    | _ => none
  | .invokestatic _ => if x = -2 then match st with
    | Sum.inl n :: Sum.inl dp :: Sum.inr (Sum.inr d) :: Sum.inl sp :: Sum.inr (Sum.inr s) :: st => match shAt sh s, shAt sh d with
      | some (1, n0), some (1, n1) => if 0 ≤ n ∧ 0 ≤ sp ∧ 0 ≤ dp ∧ sp + n ≤ n0 ∧ dp + n ≤ n1 ∧ st.length ≤ 4 then
          some (pc + len, ls, st, fun a j => if a = d ∧ dp ≤ j ∧ j < dp + n then w s (sp + (j - dp)) else w a j) else none
      | _, _ => none
    | _ => none
    else if x = -3 then match st with
    | Sum.inl b :: Sum.inl a :: st => if st.length ≤ 4 then some (pc + len, ls, vI (if a < b then b else a) :: st, w) else none
    | _ => none
    else if x = -4 then match st with
    | Sum.inl b :: Sum.inl a :: st => if st.length ≤ 4 then some (pc + len, ls, vI (if b < a then b else a) :: st, w) else none
    | _ => none
    else if x = -5 then match st with
    | Sum.inl a :: st => if st.length ≤ 4 then some (pc + len, ls, vI (if 0 ≤ a then a else w32 (0 - a)) :: st, w) else none
    | _ => none
    else none
  | _ => none
def rowOf (mi pc : Nat) : Option Row := (RT.getD mi []).find? (fun r => Nat.beq r.1 pc)
def mPop (j : Nat) : Nat := if mKind j = 0 then mPar j else mPar j + 1
def spread : List PV → PL
  | [] => []
  | Sum.inr (Sum.inl a) :: l => some (vL a) :: none :: spread l
  | v :: l => some v :: spread l
def entryLs (j : Nat) (as : List PV) : PL := spread as ++ List.replicate (mLoc j - (spread as).length) none
def callOf (ins : Instr) (x : Int) : Option Nat := match ins with
  | .invokevirtual _ => if 0 ≤ x then some x.toNat else none
  | .invokestatic _ => if 0 ≤ x then some x.toNat else none
  | .invokespecial _ => if 0 ≤ x then some x.toNat else none
  | _ => none
/-- the receiver is of the callee's class; a static one has none -/
def recvOk (sh : Shp) (j : Nat) (as : List PV) : Bool := match mKind j with
  | 0 => true
  | 1 => match as with
    | Sum.inr (Sum.inr r) :: _ => decide (shAt sh r = some (0, mCls j))
    | _ => false
  | 2 => match as with
    | Sum.inr (Sum.inr r) :: _ => decide (shAt sh r = some (0, mCls j))
    | _ => false
  | _ => false
def retOf (mi : Nat) (ins : Instr) (st : List PV) : Option (Option PV) := match ins with
  | .ireturn => match st with
    | [Sum.inl a] => if mRet mi = 1 ∨ (mRet mi = 2 ∧ (a = 0 ∨ a = 1)) then some (some (vI a)) else none
    | _ => none
  | .lreturn => match st with
    | [Sum.inr (Sum.inl a)] => if mRet mi = 3 then some (some (vL a)) else none
    | _ => none
  | .return_ => match st with
    | [] => if mRet mi = 0 then some none else none
    | _ => none
  | _ => none
def fill (w : Hp) (r : Int) (f : Int → Int) : Hp := fun a j => if a = r then f j else w a j
/-- an instruction that makes cells -/
def allocOf (sh : Shp) (ins : Instr) (x : Int) (st : List PV) (w : Hp) : Option (List PV × Shp × Hp) := match ins with
  | .new _ => if x.toNat < 11 then some (vR sh.length :: st, sh ++ [(0, x.toNat)], fill w sh.length (fun j => if fk x.toNat j.toNat = 2 then -1 else 0)) else none
  | .newarray t => match st with
    | Sum.inl n :: st => if 0 ≤ n ∧ n ≤ 10000 then match t with
        | .int => some (vR sh.length :: st, sh ++ [(1, n.toNat)], fill w sh.length (fun _ => 0))
        | .long => some (vR sh.length :: st, sh ++ [(2, n.toNat)], fill w sh.length (fun _ => 0))
        | .byte => some (vR sh.length :: st, sh ++ [(3, n.toNat)], fill w sh.length (fun _ => 0))
        | .boolean => some (vR sh.length :: st, sh ++ [(4, n.toNat)], fill w sh.length (fun _ => 0))
        | _ => none
      else none
    | _ => none
  | .anewarray _ => match st with
    | Sum.inl n :: st => if 0 ≤ n ∧ n ≤ 10000 ∧ (x = 5 ∨ x = 6) then some (vR sh.length :: st, sh ++ [(x.toNat, n.toNat)], fill w sh.length (fun _ => -1)) else none
    | _ => none
  | .multianewarray _ d => match st with
    | Sum.inl k :: Sum.inl n :: st => if 0 ≤ n ∧ n ≤ 100 ∧ 0 ≤ k ∧ k ≤ 1000 ∧ d = 2 ∧ sh.any (fun q => Nat.beq q.1 1) = true then
        some (vR sh.length :: st, sh ++ ((7, n.toNat) :: List.replicate n.toNat (1, k.toNat)),
          fun a j => if a = sh.length then (if 0 ≤ j ∧ j < n then (sh.length : Int) + 1 + j else -1) else if (sh.length : Int) < a ∧ a ≤ sh.length + n then 0 else w a j) else none
    | _ => none
  | _ => none
/-- the machine: fuel, depth of calls, method, place, locals, stack, shapes, cells -/
def ev : Nat → Nat → Nat → Nat → PL → List PV → Shp → Hp → Option (Option PV × Shp × Hp)
  | 0, _, _, _, _, _, _, _ => none
  | n + 1, d, mi, pc, ls, st, sh, w => match rowOf mi pc with
    | none => none
    | some (_, ins, len, x, _) => match callOf ins x with
      | some j => match d with
        | 0 => none
        | d' + 1 => if mPop j ≤ st.length ∧ (st.drop (mPop j)).length ≤ 4 ∧ recvOk sh j (st.take (mPop j)).reverse = true ∧ j < 230 ∧ 0 < j ∧ (spread (st.take (mPop j)).reverse).length ≤ mLoc j then
            match ev n d' j 0 (entryLs j (st.take (mPop j)).reverse) [] sh w with
            | none => none
            | some (v, sh1, w1) => ev n (d' + 1) mi (pc + len) ls (v.toList ++ st.drop (mPop j)) sh1 w1
          else none
      | none => match retOf mi ins st with
        | some v => some (v, sh, w)
        | none => match allocOf sh ins x st w with
          | some (st', sh', w') => ev n d mi (pc + len) ls st' sh' w'
          | none => match step1 sh ins len x pc ls st w with
            | some (pc', ls', st', w') => ev n d mi pc' ls' st' sh w'
            | none => none
end
section
/-! every row of every method is right; the words that a method may use; classes -/
def P_ok (a : Nat) : Prop := (RT.getD a []).all (okRow a (oOf a) (cOf a)) = true
theorem oka_0 : ∀ a, a < 1 → P_ok a := lt_s lt_0 (show P_ok 0 from okr_0)
theorem oka_1 : ∀ a, a < 2 → P_ok a := lt_s oka_0 (show P_ok 1 from okr_1)
theorem oka_2 : ∀ a, a < 3 → P_ok a := lt_s oka_1 (show P_ok 2 from okr_2)
theorem oka_3 : ∀ a, a < 4 → P_ok a := lt_s oka_2 (show P_ok 3 from okr_3)
theorem oka_4 : ∀ a, a < 5 → P_ok a := lt_s oka_3 (show P_ok 4 from okr_4)
theorem oka_5 : ∀ a, a < 6 → P_ok a := lt_s oka_4 (show P_ok 5 from okr_5)
theorem oka_6 : ∀ a, a < 7 → P_ok a := lt_s oka_5 (show P_ok 6 from okr_6)
theorem oka_7 : ∀ a, a < 8 → P_ok a := lt_s oka_6 (show P_ok 7 from okr_7)
theorem oka_8 : ∀ a, a < 9 → P_ok a := lt_s oka_7 (show P_ok 8 from okr_8)
theorem oka_9 : ∀ a, a < 10 → P_ok a := lt_s oka_8 (show P_ok 9 from okr_9)
theorem oka_10 : ∀ a, a < 11 → P_ok a := lt_s oka_9 (show P_ok 10 from okr_10)
theorem oka_11 : ∀ a, a < 12 → P_ok a := lt_s oka_10 (show P_ok 11 from okr_11)
theorem oka_12 : ∀ a, a < 13 → P_ok a := lt_s oka_11 (show P_ok 12 from okr_12)
theorem oka_13 : ∀ a, a < 14 → P_ok a := lt_s oka_12 (show P_ok 13 from okr_13)
theorem oka_14 : ∀ a, a < 15 → P_ok a := lt_s oka_13 (show P_ok 14 from okr_14)
theorem oka_15 : ∀ a, a < 16 → P_ok a := lt_s oka_14 (show P_ok 15 from okr_15)
theorem oka_16 : ∀ a, a < 17 → P_ok a := lt_s oka_15 (show P_ok 16 from okr_16)
theorem oka_17 : ∀ a, a < 18 → P_ok a := lt_s oka_16 (show P_ok 17 from okr_17)
theorem oka_18 : ∀ a, a < 19 → P_ok a := lt_s oka_17 (show P_ok 18 from okr_18)
theorem oka_19 : ∀ a, a < 20 → P_ok a := lt_s oka_18 (show P_ok 19 from okr_19)
theorem oka_20 : ∀ a, a < 21 → P_ok a := lt_s oka_19 (show P_ok 20 from okr_20)
theorem oka_21 : ∀ a, a < 22 → P_ok a := lt_s oka_20 (show P_ok 21 from okr_21)
theorem oka_22 : ∀ a, a < 23 → P_ok a := lt_s oka_21 (show P_ok 22 from okr_22)
theorem oka_23 : ∀ a, a < 24 → P_ok a := lt_s oka_22 (show P_ok 23 from okr_23)
theorem oka_24 : ∀ a, a < 25 → P_ok a := lt_s oka_23 (show P_ok 24 from okr_24)
theorem oka_25 : ∀ a, a < 26 → P_ok a := lt_s oka_24 (show P_ok 25 from okr_25)
theorem oka_26 : ∀ a, a < 27 → P_ok a := lt_s oka_25 (show P_ok 26 from okr_26)
theorem oka_27 : ∀ a, a < 28 → P_ok a := lt_s oka_26 (show P_ok 27 from okr_27)
theorem oka_28 : ∀ a, a < 29 → P_ok a := lt_s oka_27 (show P_ok 28 from okr_28)
theorem oka_29 : ∀ a, a < 30 → P_ok a := lt_s oka_28 (show P_ok 29 from okr_29)
theorem oka_30 : ∀ a, a < 31 → P_ok a := lt_s oka_29 (show P_ok 30 from okr_30)
theorem oka_31 : ∀ a, a < 32 → P_ok a := lt_s oka_30 (show P_ok 31 from okr_31)
theorem oka_32 : ∀ a, a < 33 → P_ok a := lt_s oka_31 (show P_ok 32 from okr_32)
theorem oka_33 : ∀ a, a < 34 → P_ok a := lt_s oka_32 (show P_ok 33 from okr_33)
theorem oka_34 : ∀ a, a < 35 → P_ok a := lt_s oka_33 (show P_ok 34 from okr_34)
theorem oka_35 : ∀ a, a < 36 → P_ok a := lt_s oka_34 (show P_ok 35 from okr_35)
theorem oka_36 : ∀ a, a < 37 → P_ok a := lt_s oka_35 (show P_ok 36 from okr_36)
theorem oka_37 : ∀ a, a < 38 → P_ok a := lt_s oka_36 (show P_ok 37 from okr_37)
theorem oka_38 : ∀ a, a < 39 → P_ok a := lt_s oka_37 (show P_ok 38 from okr_38)
theorem oka_39 : ∀ a, a < 40 → P_ok a := lt_s oka_38 (show P_ok 39 from okr_39)
theorem oka_40 : ∀ a, a < 41 → P_ok a := lt_s oka_39 (show P_ok 40 from okr_40)
theorem oka_41 : ∀ a, a < 42 → P_ok a := lt_s oka_40 (show P_ok 41 from okr_41)
theorem oka_42 : ∀ a, a < 43 → P_ok a := lt_s oka_41 (show P_ok 42 from okr_42)
theorem oka_43 : ∀ a, a < 44 → P_ok a := lt_s oka_42 (show P_ok 43 from okr_43)
theorem oka_44 : ∀ a, a < 45 → P_ok a := lt_s oka_43 (show P_ok 44 from okr_44)
theorem oka_45 : ∀ a, a < 46 → P_ok a := lt_s oka_44 (show P_ok 45 from okr_45)
theorem oka_46 : ∀ a, a < 47 → P_ok a := lt_s oka_45 (show P_ok 46 from okr_46)
theorem oka_47 : ∀ a, a < 48 → P_ok a := lt_s oka_46 (show P_ok 47 from okr_47)
theorem oka_48 : ∀ a, a < 49 → P_ok a := lt_s oka_47 (show P_ok 48 from okr_48)
theorem oka_49 : ∀ a, a < 50 → P_ok a := lt_s oka_48 (show P_ok 49 from okr_49)
theorem oka_50 : ∀ a, a < 51 → P_ok a := lt_s oka_49 (show P_ok 50 from okr_50)
theorem oka_51 : ∀ a, a < 52 → P_ok a := lt_s oka_50 (show P_ok 51 from okr_51)
theorem oka_52 : ∀ a, a < 53 → P_ok a := lt_s oka_51 (show P_ok 52 from okr_52)
theorem oka_53 : ∀ a, a < 54 → P_ok a := lt_s oka_52 (show P_ok 53 from okr_53)
theorem oka_54 : ∀ a, a < 55 → P_ok a := lt_s oka_53 (show P_ok 54 from okr_54)
theorem oka_55 : ∀ a, a < 56 → P_ok a := lt_s oka_54 (show P_ok 55 from okr_55)
theorem oka_56 : ∀ a, a < 57 → P_ok a := lt_s oka_55 (show P_ok 56 from okr_56)
theorem oka_57 : ∀ a, a < 58 → P_ok a := lt_s oka_56 (show P_ok 57 from okr_57)
theorem oka_58 : ∀ a, a < 59 → P_ok a := lt_s oka_57 (show P_ok 58 from okr_58)
theorem oka_59 : ∀ a, a < 60 → P_ok a := lt_s oka_58 (show P_ok 59 from okr_59)
theorem oka_60 : ∀ a, a < 61 → P_ok a := lt_s oka_59 (show P_ok 60 from okr_60)
theorem oka_61 : ∀ a, a < 62 → P_ok a := lt_s oka_60 (show P_ok 61 from okr_61)
theorem oka_62 : ∀ a, a < 63 → P_ok a := lt_s oka_61 (show P_ok 62 from okr_62)
theorem oka_63 : ∀ a, a < 64 → P_ok a := lt_s oka_62 (show P_ok 63 from okr_63)
theorem oka_64 : ∀ a, a < 65 → P_ok a := lt_s oka_63 (show P_ok 64 from okr_64)
theorem oka_65 : ∀ a, a < 66 → P_ok a := lt_s oka_64 (show P_ok 65 from okr_65)
theorem oka_66 : ∀ a, a < 67 → P_ok a := lt_s oka_65 (show P_ok 66 from okr_66)
theorem oka_67 : ∀ a, a < 68 → P_ok a := lt_s oka_66 (show P_ok 67 from okr_67)
theorem oka_68 : ∀ a, a < 69 → P_ok a := lt_s oka_67 (show P_ok 68 from okr_68)
theorem oka_69 : ∀ a, a < 70 → P_ok a := lt_s oka_68 (show P_ok 69 from okr_69)
theorem oka_70 : ∀ a, a < 71 → P_ok a := lt_s oka_69 (show P_ok 70 from okr_70)
theorem oka_71 : ∀ a, a < 72 → P_ok a := lt_s oka_70 (show P_ok 71 from okr_71)
theorem oka_72 : ∀ a, a < 73 → P_ok a := lt_s oka_71 (show P_ok 72 from okr_72)
theorem oka_73 : ∀ a, a < 74 → P_ok a := lt_s oka_72 (show P_ok 73 from okr_73)
theorem oka_74 : ∀ a, a < 75 → P_ok a := lt_s oka_73 (show P_ok 74 from okr_74)
theorem oka_75 : ∀ a, a < 76 → P_ok a := lt_s oka_74 (show P_ok 75 from okr_75)
theorem oka_76 : ∀ a, a < 77 → P_ok a := lt_s oka_75 (show P_ok 76 from okr_76)
theorem oka_77 : ∀ a, a < 78 → P_ok a := lt_s oka_76 (show P_ok 77 from okr_77)
theorem oka_78 : ∀ a, a < 79 → P_ok a := lt_s oka_77 (show P_ok 78 from okr_78)
theorem oka_79 : ∀ a, a < 80 → P_ok a := lt_s oka_78 (show P_ok 79 from okr_79)
theorem oka_80 : ∀ a, a < 81 → P_ok a := lt_s oka_79 (show P_ok 80 from okr_80)
theorem oka_81 : ∀ a, a < 82 → P_ok a := lt_s oka_80 (show P_ok 81 from okr_81)
theorem oka_82 : ∀ a, a < 83 → P_ok a := lt_s oka_81 (show P_ok 82 from okr_82)
theorem oka_83 : ∀ a, a < 84 → P_ok a := lt_s oka_82 (show P_ok 83 from okr_83)
theorem oka_84 : ∀ a, a < 85 → P_ok a := lt_s oka_83 (show P_ok 84 from okr_84)
theorem oka_85 : ∀ a, a < 86 → P_ok a := lt_s oka_84 (show P_ok 85 from okr_85)
theorem oka_86 : ∀ a, a < 87 → P_ok a := lt_s oka_85 (show P_ok 86 from okr_86)
theorem oka_87 : ∀ a, a < 88 → P_ok a := lt_s oka_86 (show P_ok 87 from okr_87)
theorem oka_88 : ∀ a, a < 89 → P_ok a := lt_s oka_87 (show P_ok 88 from okr_88)
theorem oka_89 : ∀ a, a < 90 → P_ok a := lt_s oka_88 (show P_ok 89 from okr_89)
theorem oka_90 : ∀ a, a < 91 → P_ok a := lt_s oka_89 (show P_ok 90 from okr_90)
theorem oka_91 : ∀ a, a < 92 → P_ok a := lt_s oka_90 (show P_ok 91 from okr_91)
theorem oka_92 : ∀ a, a < 93 → P_ok a := lt_s oka_91 (show P_ok 92 from okr_92)
theorem oka_93 : ∀ a, a < 94 → P_ok a := lt_s oka_92 (show P_ok 93 from okr_93)
theorem oka_94 : ∀ a, a < 95 → P_ok a := lt_s oka_93 (show P_ok 94 from okr_94)
theorem oka_95 : ∀ a, a < 96 → P_ok a := lt_s oka_94 (show P_ok 95 from okr_95)
theorem oka_96 : ∀ a, a < 97 → P_ok a := lt_s oka_95 (show P_ok 96 from okr_96)
theorem oka_97 : ∀ a, a < 98 → P_ok a := lt_s oka_96 (show P_ok 97 from okr_97)
theorem oka_98 : ∀ a, a < 99 → P_ok a := lt_s oka_97 (show P_ok 98 from okr_98)
theorem oka_99 : ∀ a, a < 100 → P_ok a := lt_s oka_98 (show P_ok 99 from okr_99)
theorem oka_100 : ∀ a, a < 101 → P_ok a := lt_s oka_99 (show P_ok 100 from okr_100)
theorem oka_101 : ∀ a, a < 102 → P_ok a := lt_s oka_100 (show P_ok 101 from okr_101)
theorem oka_102 : ∀ a, a < 103 → P_ok a := lt_s oka_101 (show P_ok 102 from okr_102)
theorem oka_103 : ∀ a, a < 104 → P_ok a := lt_s oka_102 (show P_ok 103 from okr_103)
theorem oka_104 : ∀ a, a < 105 → P_ok a := lt_s oka_103 (show P_ok 104 from okr_104)
theorem oka_105 : ∀ a, a < 106 → P_ok a := lt_s oka_104 (show P_ok 105 from okr_105)
theorem oka_106 : ∀ a, a < 107 → P_ok a := lt_s oka_105 (show P_ok 106 from okr_106)
theorem oka_107 : ∀ a, a < 108 → P_ok a := lt_s oka_106 (show P_ok 107 from okr_107)
theorem oka_108 : ∀ a, a < 109 → P_ok a := lt_s oka_107 (show P_ok 108 from okr_108)
theorem oka_109 : ∀ a, a < 110 → P_ok a := lt_s oka_108 (show P_ok 109 from okr_109)
theorem oka_110 : ∀ a, a < 111 → P_ok a := lt_s oka_109 (show P_ok 110 from okr_110)
theorem oka_111 : ∀ a, a < 112 → P_ok a := lt_s oka_110 (show P_ok 111 from okr_111)
theorem oka_112 : ∀ a, a < 113 → P_ok a := lt_s oka_111 (show P_ok 112 from okr_112)
theorem oka_113 : ∀ a, a < 114 → P_ok a := lt_s oka_112 (show P_ok 113 from okr_113)
theorem oka_114 : ∀ a, a < 115 → P_ok a := lt_s oka_113 (show P_ok 114 from okr_114)
theorem oka_115 : ∀ a, a < 116 → P_ok a := lt_s oka_114 (show P_ok 115 from okr_115)
theorem oka_116 : ∀ a, a < 117 → P_ok a := lt_s oka_115 (show P_ok 116 from okr_116)
theorem oka_117 : ∀ a, a < 118 → P_ok a := lt_s oka_116 (show P_ok 117 from okr_117)
theorem oka_118 : ∀ a, a < 119 → P_ok a := lt_s oka_117 (show P_ok 118 from okr_118)
theorem oka_119 : ∀ a, a < 120 → P_ok a := lt_s oka_118 (show P_ok 119 from okr_119)
theorem oka_120 : ∀ a, a < 121 → P_ok a := lt_s oka_119 (show P_ok 120 from okr_120)
theorem oka_121 : ∀ a, a < 122 → P_ok a := lt_s oka_120 (show P_ok 121 from okr_121)
theorem oka_122 : ∀ a, a < 123 → P_ok a := lt_s oka_121 (show P_ok 122 from okr_122)
theorem oka_123 : ∀ a, a < 124 → P_ok a := lt_s oka_122 (show P_ok 123 from okr_123)
theorem oka_124 : ∀ a, a < 125 → P_ok a := lt_s oka_123 (show P_ok 124 from okr_124)
theorem oka_125 : ∀ a, a < 126 → P_ok a := lt_s oka_124 (show P_ok 125 from okr_125)
theorem oka_126 : ∀ a, a < 127 → P_ok a := lt_s oka_125 (show P_ok 126 from okr_126)
theorem oka_127 : ∀ a, a < 128 → P_ok a := lt_s oka_126 (show P_ok 127 from okr_127)
theorem oka_128 : ∀ a, a < 129 → P_ok a := lt_s oka_127 (show P_ok 128 from okr_128)
theorem oka_129 : ∀ a, a < 130 → P_ok a := lt_s oka_128 (show P_ok 129 from okr_129)
theorem oka_130 : ∀ a, a < 131 → P_ok a := lt_s oka_129 (show P_ok 130 from okr_130)
theorem oka_131 : ∀ a, a < 132 → P_ok a := lt_s oka_130 (show P_ok 131 from okr_131)
theorem oka_132 : ∀ a, a < 133 → P_ok a := lt_s oka_131 (show P_ok 132 from okr_132)
theorem oka_133 : ∀ a, a < 134 → P_ok a := lt_s oka_132 (show P_ok 133 from okr_133)
theorem oka_134 : ∀ a, a < 135 → P_ok a := lt_s oka_133 (show P_ok 134 from okr_134)
theorem oka_135 : ∀ a, a < 136 → P_ok a := lt_s oka_134 (show P_ok 135 from okr_135)
theorem oka_136 : ∀ a, a < 137 → P_ok a := lt_s oka_135 (show P_ok 136 from okr_136)
theorem oka_137 : ∀ a, a < 138 → P_ok a := lt_s oka_136 (show P_ok 137 from okr_137)
theorem oka_138 : ∀ a, a < 139 → P_ok a := lt_s oka_137 (show P_ok 138 from okr_138)
theorem oka_139 : ∀ a, a < 140 → P_ok a := lt_s oka_138 (show P_ok 139 from okr_139)
theorem oka_140 : ∀ a, a < 141 → P_ok a := lt_s oka_139 (show P_ok 140 from okr_140)
theorem oka_141 : ∀ a, a < 142 → P_ok a := lt_s oka_140 (show P_ok 141 from okr_141)
theorem oka_142 : ∀ a, a < 143 → P_ok a := lt_s oka_141 (show P_ok 142 from okr_142)
theorem oka_143 : ∀ a, a < 144 → P_ok a := lt_s oka_142 (show P_ok 143 from okr_143)
theorem oka_144 : ∀ a, a < 145 → P_ok a := lt_s oka_143 (show P_ok 144 from okr_144)
theorem oka_145 : ∀ a, a < 146 → P_ok a := lt_s oka_144 (show P_ok 145 from okr_145)
theorem oka_146 : ∀ a, a < 147 → P_ok a := lt_s oka_145 (show P_ok 146 from okr_146)
theorem oka_147 : ∀ a, a < 148 → P_ok a := lt_s oka_146 (show P_ok 147 from okr_147)
theorem oka_148 : ∀ a, a < 149 → P_ok a := lt_s oka_147 (show P_ok 148 from okr_148)
theorem oka_149 : ∀ a, a < 150 → P_ok a := lt_s oka_148 (show P_ok 149 from okr_149)
theorem oka_150 : ∀ a, a < 151 → P_ok a := lt_s oka_149 (show P_ok 150 from okr_150)
theorem oka_151 : ∀ a, a < 152 → P_ok a := lt_s oka_150 (show P_ok 151 from okr_151)
theorem oka_152 : ∀ a, a < 153 → P_ok a := lt_s oka_151 (show P_ok 152 from okr_152)
theorem oka_153 : ∀ a, a < 154 → P_ok a := lt_s oka_152 (show P_ok 153 from okr_153)
theorem oka_154 : ∀ a, a < 155 → P_ok a := lt_s oka_153 (show P_ok 154 from okr_154)
theorem oka_155 : ∀ a, a < 156 → P_ok a := lt_s oka_154 (show P_ok 155 from okr_155)
theorem oka_156 : ∀ a, a < 157 → P_ok a := lt_s oka_155 (show P_ok 156 from okr_156)
theorem oka_157 : ∀ a, a < 158 → P_ok a := lt_s oka_156 (show P_ok 157 from okr_157)
theorem oka_158 : ∀ a, a < 159 → P_ok a := lt_s oka_157 (show P_ok 158 from okr_158)
theorem oka_159 : ∀ a, a < 160 → P_ok a := lt_s oka_158 (show P_ok 159 from okr_159)
theorem oka_160 : ∀ a, a < 161 → P_ok a := lt_s oka_159 (show P_ok 160 from okr_160)
theorem oka_161 : ∀ a, a < 162 → P_ok a := lt_s oka_160 (show P_ok 161 from okr_161)
theorem oka_162 : ∀ a, a < 163 → P_ok a := lt_s oka_161 (show P_ok 162 from okr_162)
theorem oka_163 : ∀ a, a < 164 → P_ok a := lt_s oka_162 (show P_ok 163 from okr_163)
theorem oka_164 : ∀ a, a < 165 → P_ok a := lt_s oka_163 (show P_ok 164 from okr_164)
theorem oka_165 : ∀ a, a < 166 → P_ok a := lt_s oka_164 (show P_ok 165 from okr_165)
theorem oka_166 : ∀ a, a < 167 → P_ok a := lt_s oka_165 (show P_ok 166 from okr_166)
theorem oka_167 : ∀ a, a < 168 → P_ok a := lt_s oka_166 (show P_ok 167 from okr_167)
theorem oka_168 : ∀ a, a < 169 → P_ok a := lt_s oka_167 (show P_ok 168 from okr_168)
theorem oka_169 : ∀ a, a < 170 → P_ok a := lt_s oka_168 (show P_ok 169 from okr_169)
theorem oka_170 : ∀ a, a < 171 → P_ok a := lt_s oka_169 (show P_ok 170 from okr_170)
theorem oka_171 : ∀ a, a < 172 → P_ok a := lt_s oka_170 (show P_ok 171 from okr_171)
theorem oka_172 : ∀ a, a < 173 → P_ok a := lt_s oka_171 (show P_ok 172 from okr_172)
theorem oka_173 : ∀ a, a < 174 → P_ok a := lt_s oka_172 (show P_ok 173 from okr_173)
theorem oka_174 : ∀ a, a < 175 → P_ok a := lt_s oka_173 (show P_ok 174 from okr_174)
theorem oka_175 : ∀ a, a < 176 → P_ok a := lt_s oka_174 (show P_ok 175 from okr_175)
theorem oka_176 : ∀ a, a < 177 → P_ok a := lt_s oka_175 (show P_ok 176 from okr_176)
theorem oka_177 : ∀ a, a < 178 → P_ok a := lt_s oka_176 (show P_ok 177 from okr_177)
theorem oka_178 : ∀ a, a < 179 → P_ok a := lt_s oka_177 (show P_ok 178 from okr_178)
theorem oka_179 : ∀ a, a < 180 → P_ok a := lt_s oka_178 (show P_ok 179 from okr_179)
theorem oka_180 : ∀ a, a < 181 → P_ok a := lt_s oka_179 (show P_ok 180 from okr_180)
theorem oka_181 : ∀ a, a < 182 → P_ok a := lt_s oka_180 (show P_ok 181 from okr_181)
theorem oka_182 : ∀ a, a < 183 → P_ok a := lt_s oka_181 (show P_ok 182 from okr_182)
theorem oka_183 : ∀ a, a < 184 → P_ok a := lt_s oka_182 (show P_ok 183 from okr_183)
theorem oka_184 : ∀ a, a < 185 → P_ok a := lt_s oka_183 (show P_ok 184 from okr_184)
theorem oka_185 : ∀ a, a < 186 → P_ok a := lt_s oka_184 (show P_ok 185 from okr_185)
theorem oka_186 : ∀ a, a < 187 → P_ok a := lt_s oka_185 (show P_ok 186 from okr_186)
theorem oka_187 : ∀ a, a < 188 → P_ok a := lt_s oka_186 (show P_ok 187 from okr_187)
theorem oka_188 : ∀ a, a < 189 → P_ok a := lt_s oka_187 (show P_ok 188 from okr_188)
theorem oka_189 : ∀ a, a < 190 → P_ok a := lt_s oka_188 (show P_ok 189 from okr_189)
theorem oka_190 : ∀ a, a < 191 → P_ok a := lt_s oka_189 (show P_ok 190 from okr_190)
theorem oka_191 : ∀ a, a < 192 → P_ok a := lt_s oka_190 (show P_ok 191 from okr_191)
theorem oka_192 : ∀ a, a < 193 → P_ok a := lt_s oka_191 (show P_ok 192 from okr_192)
theorem oka_193 : ∀ a, a < 194 → P_ok a := lt_s oka_192 (show P_ok 193 from okr_193)
theorem oka_194 : ∀ a, a < 195 → P_ok a := lt_s oka_193 (show P_ok 194 from okr_194)
theorem oka_195 : ∀ a, a < 196 → P_ok a := lt_s oka_194 (show P_ok 195 from okr_195)
theorem oka_196 : ∀ a, a < 197 → P_ok a := lt_s oka_195 (show P_ok 196 from okr_196)
theorem oka_197 : ∀ a, a < 198 → P_ok a := lt_s oka_196 (show P_ok 197 from okr_197)
theorem oka_198 : ∀ a, a < 199 → P_ok a := lt_s oka_197 (show P_ok 198 from okr_198)
theorem oka_199 : ∀ a, a < 200 → P_ok a := lt_s oka_198 (show P_ok 199 from okr_199)
theorem oka_200 : ∀ a, a < 201 → P_ok a := lt_s oka_199 (show P_ok 200 from okr_200)
theorem oka_201 : ∀ a, a < 202 → P_ok a := lt_s oka_200 (show P_ok 201 from okr_201)
theorem oka_202 : ∀ a, a < 203 → P_ok a := lt_s oka_201 (show P_ok 202 from okr_202)
theorem oka_203 : ∀ a, a < 204 → P_ok a := lt_s oka_202 (show P_ok 203 from okr_203)
theorem oka_204 : ∀ a, a < 205 → P_ok a := lt_s oka_203 (show P_ok 204 from okr_204)
theorem oka_205 : ∀ a, a < 206 → P_ok a := lt_s oka_204 (show P_ok 205 from okr_205)
theorem oka_206 : ∀ a, a < 207 → P_ok a := lt_s oka_205 (show P_ok 206 from okr_206)
theorem oka_207 : ∀ a, a < 208 → P_ok a := lt_s oka_206 (show P_ok 207 from okr_207)
theorem oka_208 : ∀ a, a < 209 → P_ok a := lt_s oka_207 (show P_ok 208 from okr_208)
theorem oka_209 : ∀ a, a < 210 → P_ok a := lt_s oka_208 (show P_ok 209 from okr_209)
theorem oka_210 : ∀ a, a < 211 → P_ok a := lt_s oka_209 (show P_ok 210 from okr_210)
theorem oka_211 : ∀ a, a < 212 → P_ok a := lt_s oka_210 (show P_ok 211 from okr_211)
theorem oka_212 : ∀ a, a < 213 → P_ok a := lt_s oka_211 (show P_ok 212 from okr_212)
theorem oka_213 : ∀ a, a < 214 → P_ok a := lt_s oka_212 (show P_ok 213 from okr_213)
theorem oka_214 : ∀ a, a < 215 → P_ok a := lt_s oka_213 (show P_ok 214 from okr_214)
theorem oka_215 : ∀ a, a < 216 → P_ok a := lt_s oka_214 (show P_ok 215 from okr_215)
theorem oka_216 : ∀ a, a < 217 → P_ok a := lt_s oka_215 (show P_ok 216 from okr_216)
theorem oka_217 : ∀ a, a < 218 → P_ok a := lt_s oka_216 (show P_ok 217 from okr_217)
theorem oka_218 : ∀ a, a < 219 → P_ok a := lt_s oka_217 (show P_ok 218 from okr_218)
theorem oka_219 : ∀ a, a < 220 → P_ok a := lt_s oka_218 (show P_ok 219 from okr_219)
theorem oka_220 : ∀ a, a < 221 → P_ok a := lt_s oka_219 (show P_ok 220 from okr_220)
theorem oka_221 : ∀ a, a < 222 → P_ok a := lt_s oka_220 (show P_ok 221 from okr_221)
theorem oka_222 : ∀ a, a < 223 → P_ok a := lt_s oka_221 (show P_ok 222 from okr_222)
theorem oka_223 : ∀ a, a < 224 → P_ok a := lt_s oka_222 (show P_ok 223 from okr_223)
theorem oka_224 : ∀ a, a < 225 → P_ok a := lt_s oka_223 (show P_ok 224 from okr_224)
theorem oka_225 : ∀ a, a < 226 → P_ok a := lt_s oka_224 (show P_ok 225 from okr_225)
theorem oka_226 : ∀ a, a < 227 → P_ok a := lt_s oka_225 (show P_ok 226 from okr_226)
theorem oka_227 : ∀ a, a < 228 → P_ok a := lt_s oka_226 (show P_ok 227 from okr_227)
theorem oka_228 : ∀ a, a < 229 → P_ok a := lt_s oka_227 (show P_ok 228 from okr_228)
theorem oka_229 : ∀ a, a < 230 → P_ok a := lt_s oka_228 (show P_ok 229 from okr_229)
theorem row_ok {mi pc : Nat} {r : Row} (hm : mi < 230) (h : rowOf mi pc = some r) : r.1 = pc ∧ okRow mi (oOf mi) (cOf mi) r = true := by
  have h1 := oka_229 mi hm
  unfold rowOf at h
  have h2 := List.mem_of_find?_eq_some h
  have h3 := List.find?_some h
  exact ⟨Nat.eq_of_beq_eq_true h3, List.all_eq_true.mp h1 r h2⟩
end
section
/-- the words that every method of ours may use -/
def WT : List Cond := lw_tbl.filter goodWord
theorem WT_in {p : Nat} {w : Cond} (h : tb p w = true) (hg : goodWord w = true) : w ∈ WT := List.mem_filter.mpr ⟨List.mem_of_getElem? (of_decide_eq_true h), hg⟩
theorem WT_good : GoodIn lw_tbl WT := fun w h => ⟨(List.mem_filter.mp h).1, good_of_word (List.mem_filter.mp h).2⟩
theorem WT_self : GoodIn WT WT := fun w h => ⟨h, good_of_word (List.mem_filter.mp h).2⟩
theorem WT_of {ws : List Cond} (ps : List Nat) (hp : ws = ps.filterMap (fun i => lw_tbl[i]?)) (h : ws.all goodWord = true) : ∀ w ∈ ws, w ∈ WT := fun w hw => List.mem_filter.mpr ⟨by
  rw [hp] at hw
  obtain ⟨i, -, hi⟩ := List.mem_filterMap.mp hw
  exact List.mem_of_getElem? hi, List.all_eq_true.mp h w hw⟩
/-- what a method's own table row must be: its code, its kind, its class -/
def okM (j : Nat) (p : Nat × Nat × Nat × Nat) : Bool :=
  tb p.2.1 (.initialized (yOf j).cls) && (match mKind j with
    | 0 => tb p.2.2.1 (.static (yOf j))
    | 1 => tb p.2.2.1 (.instanceMethod (yOf j)) && tb p.2.2.2 (.selects (CN (mCls j)) (yOf j) (yOf j)) && decide ((yOf j).cls = CN (mCls j)) && decide (mCls j < 11)
    | 2 => tb p.2.2.1 (.instanceMethod (yOf j)) && decide ((yOf j).name = "<init>") && decide (mCls j < 11) && decide (mRet j = 0)
    | _ => false)
  && decide ((parseMethodDescriptor (yOf j).desc).map (fun d => d.parameters.length) = some (mPar j)) && Jvm.plainName (yOf j).cls && decide ((yOf j).cls ≠ "java/lang/invoke/MethodHandle" ∧ (yOf j).cls ≠ "java/lang/invoke/VarHandle") && decide (mLoc j ≤ 12) && decide ((yOf j).cls = oOf j)
theorem okm_0 : ∀ q ∈ [(1, 182, 69, 181, 0), (2, 569, 69, 567, 568), (3, 504, 69, 503, 0), (4, 574, 69, 572, 573), (5, 578, 69, 576, 577), (6, 644, 69, 642, 643), (7, 636, 69, 634, 635), (8, 654, 69, 652, 653), (9, 263, 74, 262, 0), (10, 835, 74, 833, 834), (11, 838, 74, 837, 0), (12, 844, 74, 842, 843), (13, 847, 74, 846, 0), (14, 236, 72, 235, 0), (15, 740, 72, 738, 739), (16, 782, 72, 780, 781), (17, 756, 72, 754, 755), (18, 791, 72, 789, 790), (19, 760, 72, 759, 17), (20, 764, 72, 763, 18), (21, 768, 72, 767, 19), (22, 94, 67, 93, 0), (23, 428, 67, 426, 427)], okM q.1 q.2 = true := by decide +kernel
theorem okm_1 : ∀ q ∈ [(24, 469, 67, 467, 468), (25, 461, 67, 459, 460), (26, 561, 67, 559, 560), (27, 544, 67, 542, 543), (28, 553, 67, 551, 552), (29, 479, 67, 477, 478), (30, 491, 67, 489, 490), (31, 513, 67, 511, 512), (32, 509, 67, 507, 508), (33, 590, 67, 589, 0), (34, 518, 67, 516, 517), (35, 498, 67, 496, 497), (36, 487, 67, 485, 486), (37, 535, 67, 533, 534), (38, 501, 67, 500, 0), (39, 540, 67, 538, 539), (40, 685, 67, 683, 684), (41, 662, 67, 660, 661), (42, 658, 67, 656, 657), (43, 879, 67, 877, 878), (44, 582, 67, 580, 581), (45, 601, 67, 599, 600), (46, 609, 67, 607, 608), (47, 586, 67, 585, 11)], okM q.1 q.2 = true := by decide +kernel
theorem okm_2 : ∀ q ∈ [(48, 617, 67, 615, 616), (49, 250, 73, 249, 0), (50, 799, 73, 797, 798), (51, 804, 73, 803, 21), (52, 809, 73, 807, 808), (53, 218, 71, 217, 0), (54, 707, 71, 705, 706), (55, 711, 71, 710, 12), (56, 717, 71, 716, 13), (57, 721, 71, 720, 14), (58, 821, 71, 819, 820), (59, 825, 71, 824, 22), (60, 169, 68, 168, 0), (61, 424, 68, 422, 423), (62, 432, 68, 431, 2), (63, 452, 68, 451, 7), (64, 455, 68, 454, 0), (65, 448, 68, 447, 6), (66, 440, 68, 439, 4), (67, 444, 68, 443, 5), (68, 436, 68, 435, 3), (69, 285, 75, 284, 0), (70, 378, 75, 376, 377), (71, 390, 75, 388, 389)], okM q.1 q.2 = true := by decide +kernel
theorem okm_3 : ∀ q ∈ [(72, 363, 75, 361, 362), (73, 398, 75, 396, 397), (74, 906, 75, 904, 905), (75, 197, 70, 196, 0), (76, 673, 70, 671, 672), (77, 677, 70, 675, 676), (78, 697, 70, 695, 696), (79, 84, 66, 83, 0), (80, 352, 66, 350, 351), (81, 370, 66, 368, 369), (82, 382, 66, 380, 381), (83, 386, 66, 384, 385), (84, 394, 66, 392, 393), (85, 405, 66, 403, 404), (86, 409, 66, 407, 408), (87, 416, 66, 414, 415), (88, 420, 66, 418, 419), (89, 465, 66, 463, 464), (90, 475, 66, 473, 474), (91, 524, 66, 522, 523), (92, 549, 66, 547, 548), (93, 557, 66, 555, 556), (94, 596, 66, 594, 595), (95, 605, 66, 603, 604)], okM q.1 q.2 = true := by decide +kernel
theorem okm_4 : ∀ q ∈ [(96, 613, 66, 611, 612), (97, 621, 66, 619, 620), (98, 625, 66, 623, 624), (99, 629, 66, 627, 628), (100, 640, 66, 638, 639), (101, 649, 66, 647, 648), (102, 669, 66, 667, 668), (103, 689, 66, 687, 688), (104, 693, 66, 691, 692), (105, 703, 66, 701, 702), (106, 728, 66, 726, 727), (107, 752, 66, 750, 751), (108, 773, 66, 771, 772), (109, 787, 66, 785, 786), (110, 795, 66, 793, 794), (111, 813, 66, 811, 812), (112, 817, 66, 815, 816), (113, 831, 66, 829, 830), (114, 851, 66, 849, 850), (115, 855, 66, 853, 854), (116, 862, 66, 860, 861), (117, 866, 66, 864, 865), (118, 870, 66, 868, 869), (119, 874, 66, 872, 873)], okM q.1 q.2 = true := by decide +kernel
theorem okm_5 : ∀ q ∈ [(120, 891, 66, 889, 890), (121, 895, 66, 893, 894), (122, 899, 66, 897, 898), (123, 355, 66, 354, 0), (124, 412, 66, 411, 0), (125, 632, 66, 631, 0), (126, 359, 66, 358, 0), (127, 374, 66, 373, 1), (128, 732, 66, 731, 15), (129, 777, 66, 776, 20), (130, 736, 66, 735, 16), (131, 483, 66, 482, 8), (132, 531, 66, 530, 9), (133, 565, 66, 564, 10), (134, 883, 66, 882, 0), (135, 887, 66, 886, 23), (136, 912, 77, 911, 0), (137, 1041, 77, 1040, 0), (138, 1216, 77, 1215, 0), (139, 1310, 77, 1309, 0), (140, 1064, 77, 1063, 24), (141, 1034, 77, 1032, 1033), (142, 1038, 77, 1036, 1037), (143, 1076, 77, 1075, 26)], okM q.1 q.2 = true := by decide +kernel
theorem okm_6 : ∀ q ∈ [(144, 1045, 77, 1043, 1044), (145, 1364, 77, 1363, 61), (146, 1049, 77, 1047, 1048), (147, 1053, 77, 1051, 1052), (148, 1060, 77, 1059, 0), (149, 1072, 77, 1071, 25), (150, 1057, 77, 1055, 1056), (151, 1068, 77, 1066, 1067), (152, 1080, 77, 1078, 1079), (153, 1084, 77, 1082, 1083), (154, 1088, 77, 1086, 1087), (155, 1092, 77, 1090, 1091), (156, 1099, 77, 1098, 0), (157, 1096, 77, 1094, 1095), (158, 1103, 77, 1101, 1102), (159, 1115, 77, 1114, 28), (160, 1122, 77, 1121, 0), (161, 1126, 77, 1125, 30), (162, 1130, 77, 1129, 31), (163, 1119, 77, 1118, 29), (164, 1111, 77, 1110, 27), (165, 1107, 77, 1105, 1106), (166, 1134, 77, 1132, 1133), (167, 1142, 77, 1141, 32)], okM q.1 q.2 = true := by decide +kernel
theorem okm_7 : ∀ q ∈ [(168, 1193, 77, 1192, 42), (169, 1161, 77, 1160, 0), (170, 1158, 77, 1157, 36), (171, 1173, 77, 1172, 39), (172, 1227, 77, 1226, 0), (173, 1154, 77, 1153, 35), (174, 1150, 77, 1149, 34), (175, 1279, 77, 1278, 52), (176, 1169, 77, 1168, 38), (177, 1165, 77, 1164, 37), (178, 1213, 77, 1212, 46), (179, 1220, 77, 1219, 47), (180, 1209, 77, 1208, 45), (181, 1205, 77, 1204, 44), (182, 1224, 77, 1223, 48), (183, 1275, 77, 1274, 51), (184, 1146, 77, 1145, 33), (185, 1138, 77, 1136, 1137), (186, 1181, 77, 1180, 40), (187, 1185, 77, 1184, 41), (188, 1177, 77, 1175, 1176), (189, 1189, 77, 1187, 1188), (190, 1201, 77, 1200, 43), (191, 1197, 77, 1195, 1196)], okM q.1 q.2 = true := by decide +kernel
theorem okm_8 : ∀ q ∈ [(192, 1231, 77, 1229, 1230), (193, 1235, 77, 1233, 1234), (194, 1239, 77, 1237, 1238), (195, 1243, 77, 1241, 1242), (196, 1247, 77, 1245, 1246), (197, 1255, 77, 1254, 49), (198, 1251, 77, 1249, 1250), (199, 1259, 77, 1257, 1258), (200, 1267, 77, 1266, 50), (201, 1263, 77, 1261, 1262), (202, 1271, 77, 1269, 1270), (203, 1283, 77, 1281, 1282), (204, 1287, 77, 1285, 1286), (205, 1295, 77, 1294, 53), (206, 1291, 77, 1289, 1290), (207, 1303, 77, 1302, 54), (208, 1307, 77, 1306, 55), (209, 1299, 77, 1297, 1298), (210, 1319, 77, 1318, 56), (211, 1314, 77, 1312, 1313), (212, 1327, 77, 1326, 57), (213, 1323, 77, 1321, 1322), (214, 1335, 77, 1334, 58), (215, 1331, 77, 1329, 1330)], okM q.1 q.2 = true := by decide +kernel
theorem okm_9 : ∀ q ∈ [(216, 1343, 77, 1342, 59), (217, 1339, 77, 1337, 1338), (218, 1347, 77, 1345, 1346), (219, 1351, 77, 1349, 1350), (220, 1359, 77, 1358, 60), (221, 1355, 77, 1353, 1354), (222, 1368, 77, 1366, 1367), (223, 1372, 77, 1370, 1371), (224, 1386, 77, 1385, 62), (225, 1382, 77, 1380, 1381), (226, 1395, 77, 1394, 63), (227, 1400, 77, 1399, 64), (228, 1390, 77, 1388, 1389), (229, 745, 79, 744, 0)], okM q.1 q.2 = true := by decide +kernel
theorem tk_1 {w : Cond} (i : Nat) (hi : tables_1_1[i]? = some w) (hg : goodWord w = true) : w ∈ WT := List.mem_filter.mpr ⟨List.mem_append_right _ (have h := List.mem_of_getElem? hi; (show w ∈ tables_1 from List.mem_append_left _ h)), hg⟩
theorem tk_2 {w : Cond} (i : Nat) (hi : tables_1_2[i]? = some w) (hg : goodWord w = true) : w ∈ WT := List.mem_filter.mpr ⟨List.mem_append_right _ (have h := List.mem_of_getElem? hi; (show w ∈ tables_1 from List.mem_append_right _ (List.mem_append_left _ h))), hg⟩
theorem tk_3 {w : Cond} (i : Nat) (hi : tables_1_3[i]? = some w) (hg : goodWord w = true) : w ∈ WT := List.mem_filter.mpr ⟨List.mem_append_right _ (have h := List.mem_of_getElem? hi; (show w ∈ tables_1 from List.mem_append_right _ (List.mem_append_right _ (List.mem_append_left _ h)))), hg⟩
theorem tk_4 {w : Cond} (i : Nat) (hi : tables_1_4[i]? = some w) (hg : goodWord w = true) : w ∈ WT := List.mem_filter.mpr ⟨List.mem_append_right _ (have h := List.mem_of_getElem? hi; (show w ∈ tables_1 from List.mem_append_right _ (List.mem_append_right _ (List.mem_append_right _ (List.mem_append_left _ h))))), hg⟩
theorem tk_5 {w : Cond} (i : Nat) (hi : tables_1_5[i]? = some w) (hg : goodWord w = true) : w ∈ WT := List.mem_filter.mpr ⟨List.mem_append_right _ (have h := List.mem_of_getElem? hi; (show w ∈ tables_1 from List.mem_append_right _ (List.mem_append_right _ (List.mem_append_right _ (List.mem_append_right _ (List.mem_append_left _ h)))))), hg⟩
theorem tk_6 {w : Cond} (i : Nat) (hi : tables_1_6[i]? = some w) (hg : goodWord w = true) : w ∈ WT := List.mem_filter.mpr ⟨List.mem_append_right _ (have h := List.mem_of_getElem? hi; (show w ∈ tables_1 from List.mem_append_right _ (List.mem_append_right _ (List.mem_append_right _ (List.mem_append_right _ (List.mem_append_right _ (h))))))), hg⟩
def OKM (j : Nat) : Prop := (∃ p, okM j p = true) ∧ Cond.code (yOf j) (cOf j) (mLoc j) (retTy (mRet j)) ∈ WT
theorem okM_0 : ∀ a, a < 1 → 0 < a → OKM a := fun a h1 h2 => absurd h1 (by omega)
theorem okM_1 : ∀ a, a < 2 → 0 < a → OKM a := lt_s okM_0 (fun _ => ⟨⟨(182, 69, 181, 0), okm_0 (1, (182, 69, 181, 0)) (List.mem_of_getElem? (i := 0) rfl)⟩, tk_1 117 rfl rfl⟩)
theorem okM_2 : ∀ a, a < 3 → 0 < a → OKM a := lt_s okM_1 (fun _ => ⟨⟨(569, 69, 567, 568), okm_0 (2, (569, 69, 567, 568)) (List.mem_of_getElem? (i := 1) rfl)⟩, tk_3 24 rfl rfl⟩)
theorem okM_3 : ∀ a, a < 4 → 0 < a → OKM a := lt_s okM_2 (fun _ => ⟨⟨(504, 69, 503, 0), okm_0 (3, (504, 69, 503, 0)) (List.mem_of_getElem? (i := 2) rfl)⟩, tk_2 199 rfl rfl⟩)
theorem okM_4 : ∀ a, a < 5 → 0 < a → OKM a := lt_s okM_3 (fun _ => ⟨⟨(574, 69, 572, 573), okm_0 (4, (574, 69, 572, 573)) (List.mem_of_getElem? (i := 3) rfl)⟩, tk_3 29 rfl rfl⟩)
theorem okM_5 : ∀ a, a < 6 → 0 < a → OKM a := lt_s okM_4 (fun _ => ⟨⟨(578, 69, 576, 577), okm_0 (5, (578, 69, 576, 577)) (List.mem_of_getElem? (i := 4) rfl)⟩, tk_3 33 rfl rfl⟩)
theorem okM_6 : ∀ a, a < 7 → 0 < a → OKM a := lt_s okM_5 (fun _ => ⟨⟨(644, 69, 642, 643), okm_0 (6, (644, 69, 642, 643)) (List.mem_of_getElem? (i := 5) rfl)⟩, tk_3 99 rfl rfl⟩)
theorem okM_7 : ∀ a, a < 8 → 0 < a → OKM a := lt_s okM_6 (fun _ => ⟨⟨(636, 69, 634, 635), okm_0 (7, (636, 69, 634, 635)) (List.mem_of_getElem? (i := 6) rfl)⟩, tk_3 91 rfl rfl⟩)
theorem okM_8 : ∀ a, a < 9 → 0 < a → OKM a := lt_s okM_7 (fun _ => ⟨⟨(654, 69, 652, 653), okm_0 (8, (654, 69, 652, 653)) (List.mem_of_getElem? (i := 7) rfl)⟩, tk_3 109 rfl rfl⟩)
theorem okM_9 : ∀ a, a < 10 → 0 < a → OKM a := lt_s okM_8 (fun _ => ⟨⟨(263, 74, 262, 0), okm_0 (9, (263, 74, 262, 0)) (List.mem_of_getElem? (i := 8) rfl)⟩, tk_1 198 rfl rfl⟩)
theorem okM_10 : ∀ a, a < 11 → 0 < a → OKM a := lt_s okM_9 (fun _ => ⟨⟨(835, 74, 833, 834), okm_0 (10, (835, 74, 833, 834)) (List.mem_of_getElem? (i := 9) rfl)⟩, tk_4 50 rfl rfl⟩)
theorem okM_11 : ∀ a, a < 12 → 0 < a → OKM a := lt_s okM_10 (fun _ => ⟨⟨(838, 74, 837, 0), okm_0 (11, (838, 74, 837, 0)) (List.mem_of_getElem? (i := 10) rfl)⟩, tk_4 53 rfl rfl⟩)
theorem okM_12 : ∀ a, a < 13 → 0 < a → OKM a := lt_s okM_11 (fun _ => ⟨⟨(844, 74, 842, 843), okm_0 (12, (844, 74, 842, 843)) (List.mem_of_getElem? (i := 11) rfl)⟩, tk_4 59 rfl rfl⟩)
theorem okM_13 : ∀ a, a < 14 → 0 < a → OKM a := lt_s okM_12 (fun _ => ⟨⟨(847, 74, 846, 0), okm_0 (13, (847, 74, 846, 0)) (List.mem_of_getElem? (i := 12) rfl)⟩, tk_4 62 rfl rfl⟩)
theorem okM_14 : ∀ a, a < 15 → 0 < a → OKM a := lt_s okM_13 (fun _ => ⟨⟨(236, 72, 235, 0), okm_0 (14, (236, 72, 235, 0)) (List.mem_of_getElem? (i := 13) rfl)⟩, tk_1 171 rfl rfl⟩)
theorem okM_15 : ∀ a, a < 16 → 0 < a → OKM a := lt_s okM_14 (fun _ => ⟨⟨(740, 72, 738, 739), okm_0 (15, (740, 72, 738, 739)) (List.mem_of_getElem? (i := 14) rfl)⟩, tk_3 195 rfl rfl⟩)
theorem okM_16 : ∀ a, a < 17 → 0 < a → OKM a := lt_s okM_15 (fun _ => ⟨⟨(782, 72, 780, 781), okm_0 (16, (782, 72, 780, 781)) (List.mem_of_getElem? (i := 15) rfl)⟩, tk_3 237 rfl rfl⟩)
theorem okM_17 : ∀ a, a < 18 → 0 < a → OKM a := lt_s okM_16 (fun _ => ⟨⟨(756, 72, 754, 755), okm_0 (17, (756, 72, 754, 755)) (List.mem_of_getElem? (i := 16) rfl)⟩, tk_3 211 rfl rfl⟩)
theorem okM_18 : ∀ a, a < 19 → 0 < a → OKM a := lt_s okM_17 (fun _ => ⟨⟨(791, 72, 789, 790), okm_0 (18, (791, 72, 789, 790)) (List.mem_of_getElem? (i := 17) rfl)⟩, tk_4 6 rfl rfl⟩)
theorem okM_19 : ∀ a, a < 20 → 0 < a → OKM a := lt_s okM_18 (fun _ => ⟨⟨(760, 72, 759, 17), okm_0 (19, (760, 72, 759, 17)) (List.mem_of_getElem? (i := 18) rfl)⟩, tk_3 215 rfl rfl⟩)
theorem okM_20 : ∀ a, a < 21 → 0 < a → OKM a := lt_s okM_19 (fun _ => ⟨⟨(764, 72, 763, 18), okm_0 (20, (764, 72, 763, 18)) (List.mem_of_getElem? (i := 19) rfl)⟩, tk_3 219 rfl rfl⟩)
theorem okM_21 : ∀ a, a < 22 → 0 < a → OKM a := lt_s okM_20 (fun _ => ⟨⟨(768, 72, 767, 19), okm_0 (21, (768, 72, 767, 19)) (List.mem_of_getElem? (i := 20) rfl)⟩, tk_3 223 rfl rfl⟩)
theorem okM_22 : ∀ a, a < 23 → 0 < a → OKM a := lt_s okM_21 (fun _ => ⟨⟨(94, 67, 93, 0), okm_0 (22, (94, 67, 93, 0)) (List.mem_of_getElem? (i := 21) rfl)⟩, tk_1 29 rfl rfl⟩)
theorem okM_23 : ∀ a, a < 24 → 0 < a → OKM a := lt_s okM_22 (fun _ => ⟨⟨(428, 67, 426, 427), okm_0 (23, (428, 67, 426, 427)) (List.mem_of_getElem? (i := 22) rfl)⟩, tk_2 123 rfl rfl⟩)
theorem okM_24 : ∀ a, a < 25 → 0 < a → OKM a := lt_s okM_23 (fun _ => ⟨⟨(469, 67, 467, 468), okm_1 (24, (469, 67, 467, 468)) (List.mem_of_getElem? (i := 0) rfl)⟩, tk_2 164 rfl rfl⟩)
theorem okM_25 : ∀ a, a < 26 → 0 < a → OKM a := lt_s okM_24 (fun _ => ⟨⟨(461, 67, 459, 460), okm_1 (25, (461, 67, 459, 460)) (List.mem_of_getElem? (i := 1) rfl)⟩, tk_2 156 rfl rfl⟩)
theorem okM_26 : ∀ a, a < 27 → 0 < a → OKM a := lt_s okM_25 (fun _ => ⟨⟨(561, 67, 559, 560), okm_1 (26, (561, 67, 559, 560)) (List.mem_of_getElem? (i := 2) rfl)⟩, tk_3 16 rfl rfl⟩)
theorem okM_27 : ∀ a, a < 28 → 0 < a → OKM a := lt_s okM_26 (fun _ => ⟨⟨(544, 67, 542, 543), okm_1 (27, (544, 67, 542, 543)) (List.mem_of_getElem? (i := 3) rfl)⟩, tk_2 239 rfl rfl⟩)
theorem okM_28 : ∀ a, a < 29 → 0 < a → OKM a := lt_s okM_27 (fun _ => ⟨⟨(553, 67, 551, 552), okm_1 (28, (553, 67, 551, 552)) (List.mem_of_getElem? (i := 4) rfl)⟩, tk_3 8 rfl rfl⟩)
theorem okM_29 : ∀ a, a < 30 → 0 < a → OKM a := lt_s okM_28 (fun _ => ⟨⟨(479, 67, 477, 478), okm_1 (29, (479, 67, 477, 478)) (List.mem_of_getElem? (i := 5) rfl)⟩, tk_2 174 rfl rfl⟩)
theorem okM_30 : ∀ a, a < 31 → 0 < a → OKM a := lt_s okM_29 (fun _ => ⟨⟨(491, 67, 489, 490), okm_1 (30, (491, 67, 489, 490)) (List.mem_of_getElem? (i := 6) rfl)⟩, tk_2 186 rfl rfl⟩)
theorem okM_31 : ∀ a, a < 32 → 0 < a → OKM a := lt_s okM_30 (fun _ => ⟨⟨(513, 67, 511, 512), okm_1 (31, (513, 67, 511, 512)) (List.mem_of_getElem? (i := 7) rfl)⟩, tk_2 208 rfl rfl⟩)
theorem okM_32 : ∀ a, a < 33 → 0 < a → OKM a := lt_s okM_31 (fun _ => ⟨⟨(509, 67, 507, 508), okm_1 (32, (509, 67, 507, 508)) (List.mem_of_getElem? (i := 8) rfl)⟩, tk_2 204 rfl rfl⟩)
theorem okM_33 : ∀ a, a < 34 → 0 < a → OKM a := lt_s okM_32 (fun _ => ⟨⟨(590, 67, 589, 0), okm_1 (33, (590, 67, 589, 0)) (List.mem_of_getElem? (i := 9) rfl)⟩, tk_3 45 rfl rfl⟩)
theorem okM_34 : ∀ a, a < 35 → 0 < a → OKM a := lt_s okM_33 (fun _ => ⟨⟨(518, 67, 516, 517), okm_1 (34, (518, 67, 516, 517)) (List.mem_of_getElem? (i := 10) rfl)⟩, tk_2 213 rfl rfl⟩)
theorem okM_35 : ∀ a, a < 36 → 0 < a → OKM a := lt_s okM_34 (fun _ => ⟨⟨(498, 67, 496, 497), okm_1 (35, (498, 67, 496, 497)) (List.mem_of_getElem? (i := 11) rfl)⟩, tk_2 193 rfl rfl⟩)
theorem okM_36 : ∀ a, a < 37 → 0 < a → OKM a := lt_s okM_35 (fun _ => ⟨⟨(487, 67, 485, 486), okm_1 (36, (487, 67, 485, 486)) (List.mem_of_getElem? (i := 12) rfl)⟩, tk_2 182 rfl rfl⟩)
theorem okM_37 : ∀ a, a < 38 → 0 < a → OKM a := lt_s okM_36 (fun _ => ⟨⟨(535, 67, 533, 534), okm_1 (37, (535, 67, 533, 534)) (List.mem_of_getElem? (i := 13) rfl)⟩, tk_2 230 rfl rfl⟩)
theorem okM_38 : ∀ a, a < 39 → 0 < a → OKM a := lt_s okM_37 (fun _ => ⟨⟨(501, 67, 500, 0), okm_1 (38, (501, 67, 500, 0)) (List.mem_of_getElem? (i := 14) rfl)⟩, tk_2 196 rfl rfl⟩)
theorem okM_39 : ∀ a, a < 40 → 0 < a → OKM a := lt_s okM_38 (fun _ => ⟨⟨(540, 67, 538, 539), okm_1 (39, (540, 67, 538, 539)) (List.mem_of_getElem? (i := 15) rfl)⟩, tk_2 235 rfl rfl⟩)
theorem okM_40 : ∀ a, a < 41 → 0 < a → OKM a := lt_s okM_39 (fun _ => ⟨⟨(685, 67, 683, 684), okm_1 (40, (685, 67, 683, 684)) (List.mem_of_getElem? (i := 16) rfl)⟩, tk_3 140 rfl rfl⟩)
theorem okM_41 : ∀ a, a < 42 → 0 < a → OKM a := lt_s okM_40 (fun _ => ⟨⟨(662, 67, 660, 661), okm_1 (41, (662, 67, 660, 661)) (List.mem_of_getElem? (i := 17) rfl)⟩, tk_3 117 rfl rfl⟩)
theorem okM_42 : ∀ a, a < 43 → 0 < a → OKM a := lt_s okM_41 (fun _ => ⟨⟨(658, 67, 656, 657), okm_1 (42, (658, 67, 656, 657)) (List.mem_of_getElem? (i := 18) rfl)⟩, tk_3 113 rfl rfl⟩)
theorem okM_43 : ∀ a, a < 44 → 0 < a → OKM a := lt_s okM_42 (fun _ => ⟨⟨(879, 67, 877, 878), okm_1 (43, (879, 67, 877, 878)) (List.mem_of_getElem? (i := 19) rfl)⟩, tk_4 94 rfl rfl⟩)
theorem okM_44 : ∀ a, a < 45 → 0 < a → OKM a := lt_s okM_43 (fun _ => ⟨⟨(582, 67, 580, 581), okm_1 (44, (582, 67, 580, 581)) (List.mem_of_getElem? (i := 20) rfl)⟩, tk_3 37 rfl rfl⟩)
theorem okM_45 : ∀ a, a < 46 → 0 < a → OKM a := lt_s okM_44 (fun _ => ⟨⟨(601, 67, 599, 600), okm_1 (45, (601, 67, 599, 600)) (List.mem_of_getElem? (i := 21) rfl)⟩, tk_3 56 rfl rfl⟩)
theorem okM_46 : ∀ a, a < 47 → 0 < a → OKM a := lt_s okM_45 (fun _ => ⟨⟨(609, 67, 607, 608), okm_1 (46, (609, 67, 607, 608)) (List.mem_of_getElem? (i := 22) rfl)⟩, tk_3 64 rfl rfl⟩)
theorem okM_47 : ∀ a, a < 48 → 0 < a → OKM a := lt_s okM_46 (fun _ => ⟨⟨(586, 67, 585, 11), okm_1 (47, (586, 67, 585, 11)) (List.mem_of_getElem? (i := 23) rfl)⟩, tk_3 41 rfl rfl⟩)
theorem okM_48 : ∀ a, a < 49 → 0 < a → OKM a := lt_s okM_47 (fun _ => ⟨⟨(617, 67, 615, 616), okm_2 (48, (617, 67, 615, 616)) (List.mem_of_getElem? (i := 0) rfl)⟩, tk_3 72 rfl rfl⟩)
theorem okM_49 : ∀ a, a < 50 → 0 < a → OKM a := lt_s okM_48 (fun _ => ⟨⟨(250, 73, 249, 0), okm_2 (49, (250, 73, 249, 0)) (List.mem_of_getElem? (i := 1) rfl)⟩, tk_1 185 rfl rfl⟩)
theorem okM_50 : ∀ a, a < 51 → 0 < a → OKM a := lt_s okM_49 (fun _ => ⟨⟨(799, 73, 797, 798), okm_2 (50, (799, 73, 797, 798)) (List.mem_of_getElem? (i := 2) rfl)⟩, tk_4 14 rfl rfl⟩)
theorem okM_51 : ∀ a, a < 52 → 0 < a → OKM a := lt_s okM_50 (fun _ => ⟨⟨(804, 73, 803, 21), okm_2 (51, (804, 73, 803, 21)) (List.mem_of_getElem? (i := 3) rfl)⟩, tk_4 19 rfl rfl⟩)
theorem okM_52 : ∀ a, a < 53 → 0 < a → OKM a := lt_s okM_51 (fun _ => ⟨⟨(809, 73, 807, 808), okm_2 (52, (809, 73, 807, 808)) (List.mem_of_getElem? (i := 4) rfl)⟩, tk_4 24 rfl rfl⟩)
theorem okM_53 : ∀ a, a < 54 → 0 < a → OKM a := lt_s okM_52 (fun _ => ⟨⟨(218, 71, 217, 0), okm_2 (53, (218, 71, 217, 0)) (List.mem_of_getElem? (i := 5) rfl)⟩, tk_1 153 rfl rfl⟩)
theorem okM_54 : ∀ a, a < 55 → 0 < a → OKM a := lt_s okM_53 (fun _ => ⟨⟨(707, 71, 705, 706), okm_2 (54, (707, 71, 705, 706)) (List.mem_of_getElem? (i := 6) rfl)⟩, tk_3 162 rfl rfl⟩)
theorem okM_55 : ∀ a, a < 56 → 0 < a → OKM a := lt_s okM_54 (fun _ => ⟨⟨(711, 71, 710, 12), okm_2 (55, (711, 71, 710, 12)) (List.mem_of_getElem? (i := 7) rfl)⟩, tk_3 166 rfl rfl⟩)
theorem okM_56 : ∀ a, a < 57 → 0 < a → OKM a := lt_s okM_55 (fun _ => ⟨⟨(717, 71, 716, 13), okm_2 (56, (717, 71, 716, 13)) (List.mem_of_getElem? (i := 8) rfl)⟩, tk_3 172 rfl rfl⟩)
theorem okM_57 : ∀ a, a < 58 → 0 < a → OKM a := lt_s okM_56 (fun _ => ⟨⟨(721, 71, 720, 14), okm_2 (57, (721, 71, 720, 14)) (List.mem_of_getElem? (i := 9) rfl)⟩, tk_3 176 rfl rfl⟩)
theorem okM_58 : ∀ a, a < 59 → 0 < a → OKM a := lt_s okM_57 (fun _ => ⟨⟨(821, 71, 819, 820), okm_2 (58, (821, 71, 819, 820)) (List.mem_of_getElem? (i := 10) rfl)⟩, tk_4 36 rfl rfl⟩)
theorem okM_59 : ∀ a, a < 60 → 0 < a → OKM a := lt_s okM_58 (fun _ => ⟨⟨(825, 71, 824, 22), okm_2 (59, (825, 71, 824, 22)) (List.mem_of_getElem? (i := 11) rfl)⟩, tk_4 40 rfl rfl⟩)
theorem okM_60 : ∀ a, a < 61 → 0 < a → OKM a := lt_s okM_59 (fun _ => ⟨⟨(169, 68, 168, 0), okm_2 (60, (169, 68, 168, 0)) (List.mem_of_getElem? (i := 12) rfl)⟩, tk_1 104 rfl rfl⟩)
theorem okM_61 : ∀ a, a < 62 → 0 < a → OKM a := lt_s okM_60 (fun _ => ⟨⟨(424, 68, 422, 423), okm_2 (61, (424, 68, 422, 423)) (List.mem_of_getElem? (i := 13) rfl)⟩, tk_2 119 rfl rfl⟩)
theorem okM_62 : ∀ a, a < 63 → 0 < a → OKM a := lt_s okM_61 (fun _ => ⟨⟨(432, 68, 431, 2), okm_2 (62, (432, 68, 431, 2)) (List.mem_of_getElem? (i := 14) rfl)⟩, tk_2 127 rfl rfl⟩)
theorem okM_63 : ∀ a, a < 64 → 0 < a → OKM a := lt_s okM_62 (fun _ => ⟨⟨(452, 68, 451, 7), okm_2 (63, (452, 68, 451, 7)) (List.mem_of_getElem? (i := 15) rfl)⟩, tk_2 147 rfl rfl⟩)
theorem okM_64 : ∀ a, a < 65 → 0 < a → OKM a := lt_s okM_63 (fun _ => ⟨⟨(455, 68, 454, 0), okm_2 (64, (455, 68, 454, 0)) (List.mem_of_getElem? (i := 16) rfl)⟩, tk_2 150 rfl rfl⟩)
theorem okM_65 : ∀ a, a < 66 → 0 < a → OKM a := lt_s okM_64 (fun _ => ⟨⟨(448, 68, 447, 6), okm_2 (65, (448, 68, 447, 6)) (List.mem_of_getElem? (i := 17) rfl)⟩, tk_2 143 rfl rfl⟩)
theorem okM_66 : ∀ a, a < 67 → 0 < a → OKM a := lt_s okM_65 (fun _ => ⟨⟨(440, 68, 439, 4), okm_2 (66, (440, 68, 439, 4)) (List.mem_of_getElem? (i := 18) rfl)⟩, tk_2 135 rfl rfl⟩)
theorem okM_67 : ∀ a, a < 68 → 0 < a → OKM a := lt_s okM_66 (fun _ => ⟨⟨(444, 68, 443, 5), okm_2 (67, (444, 68, 443, 5)) (List.mem_of_getElem? (i := 19) rfl)⟩, tk_2 139 rfl rfl⟩)
theorem okM_68 : ∀ a, a < 69 → 0 < a → OKM a := lt_s okM_67 (fun _ => ⟨⟨(436, 68, 435, 3), okm_2 (68, (436, 68, 435, 3)) (List.mem_of_getElem? (i := 20) rfl)⟩, tk_2 131 rfl rfl⟩)
theorem okM_69 : ∀ a, a < 70 → 0 < a → OKM a := lt_s okM_68 (fun _ => ⟨⟨(285, 75, 284, 0), okm_2 (69, (285, 75, 284, 0)) (List.mem_of_getElem? (i := 21) rfl)⟩, tk_1 220 rfl rfl⟩)
theorem okM_70 : ∀ a, a < 71 → 0 < a → OKM a := lt_s okM_69 (fun _ => ⟨⟨(378, 75, 376, 377), okm_2 (70, (378, 75, 376, 377)) (List.mem_of_getElem? (i := 22) rfl)⟩, tk_2 73 rfl rfl⟩)
theorem okM_71 : ∀ a, a < 72 → 0 < a → OKM a := lt_s okM_70 (fun _ => ⟨⟨(390, 75, 388, 389), okm_2 (71, (390, 75, 388, 389)) (List.mem_of_getElem? (i := 23) rfl)⟩, tk_2 85 rfl rfl⟩)
theorem okM_72 : ∀ a, a < 73 → 0 < a → OKM a := lt_s okM_71 (fun _ => ⟨⟨(363, 75, 361, 362), okm_3 (72, (363, 75, 361, 362)) (List.mem_of_getElem? (i := 0) rfl)⟩, tk_2 58 rfl rfl⟩)
theorem okM_73 : ∀ a, a < 74 → 0 < a → OKM a := lt_s okM_72 (fun _ => ⟨⟨(398, 75, 396, 397), okm_3 (73, (398, 75, 396, 397)) (List.mem_of_getElem? (i := 1) rfl)⟩, tk_2 93 rfl rfl⟩)
theorem okM_74 : ∀ a, a < 75 → 0 < a → OKM a := lt_s okM_73 (fun _ => ⟨⟨(906, 75, 904, 905), okm_3 (74, (906, 75, 904, 905)) (List.mem_of_getElem? (i := 2) rfl)⟩, tk_4 121 rfl rfl⟩)
theorem okM_75 : ∀ a, a < 76 → 0 < a → OKM a := lt_s okM_74 (fun _ => ⟨⟨(197, 70, 196, 0), okm_3 (75, (197, 70, 196, 0)) (List.mem_of_getElem? (i := 3) rfl)⟩, tk_1 132 rfl rfl⟩)
theorem okM_76 : ∀ a, a < 77 → 0 < a → OKM a := lt_s okM_75 (fun _ => ⟨⟨(673, 70, 671, 672), okm_3 (76, (673, 70, 671, 672)) (List.mem_of_getElem? (i := 4) rfl)⟩, tk_3 128 rfl rfl⟩)
theorem okM_77 : ∀ a, a < 78 → 0 < a → OKM a := lt_s okM_76 (fun _ => ⟨⟨(677, 70, 675, 676), okm_3 (77, (677, 70, 675, 676)) (List.mem_of_getElem? (i := 5) rfl)⟩, tk_3 132 rfl rfl⟩)
theorem okM_78 : ∀ a, a < 79 → 0 < a → OKM a := lt_s okM_77 (fun _ => ⟨⟨(697, 70, 695, 696), okm_3 (78, (697, 70, 695, 696)) (List.mem_of_getElem? (i := 6) rfl)⟩, tk_3 152 rfl rfl⟩)
theorem okM_79 : ∀ a, a < 80 → 0 < a → OKM a := lt_s okM_78 (fun _ => ⟨⟨(84, 66, 83, 0), okm_3 (79, (84, 66, 83, 0)) (List.mem_of_getElem? (i := 7) rfl)⟩, tk_1 19 rfl rfl⟩)
theorem okM_80 : ∀ a, a < 81 → 0 < a → OKM a := lt_s okM_79 (fun _ => ⟨⟨(352, 66, 350, 351), okm_3 (80, (352, 66, 350, 351)) (List.mem_of_getElem? (i := 8) rfl)⟩, tk_2 47 rfl rfl⟩)
theorem okM_81 : ∀ a, a < 82 → 0 < a → OKM a := lt_s okM_80 (fun _ => ⟨⟨(370, 66, 368, 369), okm_3 (81, (370, 66, 368, 369)) (List.mem_of_getElem? (i := 9) rfl)⟩, tk_2 65 rfl rfl⟩)
theorem okM_82 : ∀ a, a < 83 → 0 < a → OKM a := lt_s okM_81 (fun _ => ⟨⟨(382, 66, 380, 381), okm_3 (82, (382, 66, 380, 381)) (List.mem_of_getElem? (i := 10) rfl)⟩, tk_2 77 rfl rfl⟩)
theorem okM_83 : ∀ a, a < 84 → 0 < a → OKM a := lt_s okM_82 (fun _ => ⟨⟨(386, 66, 384, 385), okm_3 (83, (386, 66, 384, 385)) (List.mem_of_getElem? (i := 11) rfl)⟩, tk_2 81 rfl rfl⟩)
theorem okM_84 : ∀ a, a < 85 → 0 < a → OKM a := lt_s okM_83 (fun _ => ⟨⟨(394, 66, 392, 393), okm_3 (84, (394, 66, 392, 393)) (List.mem_of_getElem? (i := 12) rfl)⟩, tk_2 89 rfl rfl⟩)
theorem okM_85 : ∀ a, a < 86 → 0 < a → OKM a := lt_s okM_84 (fun _ => ⟨⟨(405, 66, 403, 404), okm_3 (85, (405, 66, 403, 404)) (List.mem_of_getElem? (i := 13) rfl)⟩, tk_2 100 rfl rfl⟩)
theorem okM_86 : ∀ a, a < 87 → 0 < a → OKM a := lt_s okM_85 (fun _ => ⟨⟨(409, 66, 407, 408), okm_3 (86, (409, 66, 407, 408)) (List.mem_of_getElem? (i := 14) rfl)⟩, tk_2 104 rfl rfl⟩)
theorem okM_87 : ∀ a, a < 88 → 0 < a → OKM a := lt_s okM_86 (fun _ => ⟨⟨(416, 66, 414, 415), okm_3 (87, (416, 66, 414, 415)) (List.mem_of_getElem? (i := 15) rfl)⟩, tk_2 111 rfl rfl⟩)
theorem okM_88 : ∀ a, a < 89 → 0 < a → OKM a := lt_s okM_87 (fun _ => ⟨⟨(420, 66, 418, 419), okm_3 (88, (420, 66, 418, 419)) (List.mem_of_getElem? (i := 16) rfl)⟩, tk_2 115 rfl rfl⟩)
theorem okM_89 : ∀ a, a < 90 → 0 < a → OKM a := lt_s okM_88 (fun _ => ⟨⟨(465, 66, 463, 464), okm_3 (89, (465, 66, 463, 464)) (List.mem_of_getElem? (i := 17) rfl)⟩, tk_2 160 rfl rfl⟩)
theorem okM_90 : ∀ a, a < 91 → 0 < a → OKM a := lt_s okM_89 (fun _ => ⟨⟨(475, 66, 473, 474), okm_3 (90, (475, 66, 473, 474)) (List.mem_of_getElem? (i := 18) rfl)⟩, tk_2 170 rfl rfl⟩)
theorem okM_91 : ∀ a, a < 92 → 0 < a → OKM a := lt_s okM_90 (fun _ => ⟨⟨(524, 66, 522, 523), okm_3 (91, (524, 66, 522, 523)) (List.mem_of_getElem? (i := 19) rfl)⟩, tk_2 219 rfl rfl⟩)
theorem okM_92 : ∀ a, a < 93 → 0 < a → OKM a := lt_s okM_91 (fun _ => ⟨⟨(549, 66, 547, 548), okm_3 (92, (549, 66, 547, 548)) (List.mem_of_getElem? (i := 20) rfl)⟩, tk_3 4 rfl rfl⟩)
theorem okM_93 : ∀ a, a < 94 → 0 < a → OKM a := lt_s okM_92 (fun _ => ⟨⟨(557, 66, 555, 556), okm_3 (93, (557, 66, 555, 556)) (List.mem_of_getElem? (i := 21) rfl)⟩, tk_3 12 rfl rfl⟩)
theorem okM_94 : ∀ a, a < 95 → 0 < a → OKM a := lt_s okM_93 (fun _ => ⟨⟨(596, 66, 594, 595), okm_3 (94, (596, 66, 594, 595)) (List.mem_of_getElem? (i := 22) rfl)⟩, tk_3 51 rfl rfl⟩)
theorem okM_95 : ∀ a, a < 96 → 0 < a → OKM a := lt_s okM_94 (fun _ => ⟨⟨(605, 66, 603, 604), okm_3 (95, (605, 66, 603, 604)) (List.mem_of_getElem? (i := 23) rfl)⟩, tk_3 60 rfl rfl⟩)
theorem okM_96 : ∀ a, a < 97 → 0 < a → OKM a := lt_s okM_95 (fun _ => ⟨⟨(613, 66, 611, 612), okm_4 (96, (613, 66, 611, 612)) (List.mem_of_getElem? (i := 0) rfl)⟩, tk_3 68 rfl rfl⟩)
theorem okM_97 : ∀ a, a < 98 → 0 < a → OKM a := lt_s okM_96 (fun _ => ⟨⟨(621, 66, 619, 620), okm_4 (97, (621, 66, 619, 620)) (List.mem_of_getElem? (i := 1) rfl)⟩, tk_3 76 rfl rfl⟩)
theorem okM_98 : ∀ a, a < 99 → 0 < a → OKM a := lt_s okM_97 (fun _ => ⟨⟨(625, 66, 623, 624), okm_4 (98, (625, 66, 623, 624)) (List.mem_of_getElem? (i := 2) rfl)⟩, tk_3 80 rfl rfl⟩)
theorem okM_99 : ∀ a, a < 100 → 0 < a → OKM a := lt_s okM_98 (fun _ => ⟨⟨(629, 66, 627, 628), okm_4 (99, (629, 66, 627, 628)) (List.mem_of_getElem? (i := 3) rfl)⟩, tk_3 84 rfl rfl⟩)
theorem okM_100 : ∀ a, a < 101 → 0 < a → OKM a := lt_s okM_99 (fun _ => ⟨⟨(640, 66, 638, 639), okm_4 (100, (640, 66, 638, 639)) (List.mem_of_getElem? (i := 4) rfl)⟩, tk_3 95 rfl rfl⟩)
theorem okM_101 : ∀ a, a < 102 → 0 < a → OKM a := lt_s okM_100 (fun _ => ⟨⟨(649, 66, 647, 648), okm_4 (101, (649, 66, 647, 648)) (List.mem_of_getElem? (i := 5) rfl)⟩, tk_3 104 rfl rfl⟩)
theorem okM_102 : ∀ a, a < 103 → 0 < a → OKM a := lt_s okM_101 (fun _ => ⟨⟨(669, 66, 667, 668), okm_4 (102, (669, 66, 667, 668)) (List.mem_of_getElem? (i := 6) rfl)⟩, tk_3 124 rfl rfl⟩)
theorem okM_103 : ∀ a, a < 104 → 0 < a → OKM a := lt_s okM_102 (fun _ => ⟨⟨(689, 66, 687, 688), okm_4 (103, (689, 66, 687, 688)) (List.mem_of_getElem? (i := 7) rfl)⟩, tk_3 144 rfl rfl⟩)
theorem okM_104 : ∀ a, a < 105 → 0 < a → OKM a := lt_s okM_103 (fun _ => ⟨⟨(693, 66, 691, 692), okm_4 (104, (693, 66, 691, 692)) (List.mem_of_getElem? (i := 8) rfl)⟩, tk_3 148 rfl rfl⟩)
theorem okM_105 : ∀ a, a < 106 → 0 < a → OKM a := lt_s okM_104 (fun _ => ⟨⟨(703, 66, 701, 702), okm_4 (105, (703, 66, 701, 702)) (List.mem_of_getElem? (i := 9) rfl)⟩, tk_3 158 rfl rfl⟩)
theorem okM_106 : ∀ a, a < 107 → 0 < a → OKM a := lt_s okM_105 (fun _ => ⟨⟨(728, 66, 726, 727), okm_4 (106, (728, 66, 726, 727)) (List.mem_of_getElem? (i := 10) rfl)⟩, tk_3 183 rfl rfl⟩)
theorem okM_107 : ∀ a, a < 108 → 0 < a → OKM a := lt_s okM_106 (fun _ => ⟨⟨(752, 66, 750, 751), okm_4 (107, (752, 66, 750, 751)) (List.mem_of_getElem? (i := 11) rfl)⟩, tk_3 207 rfl rfl⟩)
theorem okM_108 : ∀ a, a < 109 → 0 < a → OKM a := lt_s okM_107 (fun _ => ⟨⟨(773, 66, 771, 772), okm_4 (108, (773, 66, 771, 772)) (List.mem_of_getElem? (i := 12) rfl)⟩, tk_3 228 rfl rfl⟩)
theorem okM_109 : ∀ a, a < 110 → 0 < a → OKM a := lt_s okM_108 (fun _ => ⟨⟨(787, 66, 785, 786), okm_4 (109, (787, 66, 785, 786)) (List.mem_of_getElem? (i := 13) rfl)⟩, tk_4 2 rfl rfl⟩)
theorem okM_110 : ∀ a, a < 111 → 0 < a → OKM a := lt_s okM_109 (fun _ => ⟨⟨(795, 66, 793, 794), okm_4 (110, (795, 66, 793, 794)) (List.mem_of_getElem? (i := 14) rfl)⟩, tk_4 10 rfl rfl⟩)
theorem okM_111 : ∀ a, a < 112 → 0 < a → OKM a := lt_s okM_110 (fun _ => ⟨⟨(813, 66, 811, 812), okm_4 (111, (813, 66, 811, 812)) (List.mem_of_getElem? (i := 15) rfl)⟩, tk_4 28 rfl rfl⟩)
theorem okM_112 : ∀ a, a < 113 → 0 < a → OKM a := lt_s okM_111 (fun _ => ⟨⟨(817, 66, 815, 816), okm_4 (112, (817, 66, 815, 816)) (List.mem_of_getElem? (i := 16) rfl)⟩, tk_4 32 rfl rfl⟩)
theorem okM_113 : ∀ a, a < 114 → 0 < a → OKM a := lt_s okM_112 (fun _ => ⟨⟨(831, 66, 829, 830), okm_4 (113, (831, 66, 829, 830)) (List.mem_of_getElem? (i := 17) rfl)⟩, tk_4 46 rfl rfl⟩)
theorem okM_114 : ∀ a, a < 115 → 0 < a → OKM a := lt_s okM_113 (fun _ => ⟨⟨(851, 66, 849, 850), okm_4 (114, (851, 66, 849, 850)) (List.mem_of_getElem? (i := 18) rfl)⟩, tk_4 66 rfl rfl⟩)
theorem okM_115 : ∀ a, a < 116 → 0 < a → OKM a := lt_s okM_114 (fun _ => ⟨⟨(855, 66, 853, 854), okm_4 (115, (855, 66, 853, 854)) (List.mem_of_getElem? (i := 19) rfl)⟩, tk_4 70 rfl rfl⟩)
theorem okM_116 : ∀ a, a < 117 → 0 < a → OKM a := lt_s okM_115 (fun _ => ⟨⟨(862, 66, 860, 861), okm_4 (116, (862, 66, 860, 861)) (List.mem_of_getElem? (i := 20) rfl)⟩, tk_4 77 rfl rfl⟩)
theorem okM_117 : ∀ a, a < 118 → 0 < a → OKM a := lt_s okM_116 (fun _ => ⟨⟨(866, 66, 864, 865), okm_4 (117, (866, 66, 864, 865)) (List.mem_of_getElem? (i := 21) rfl)⟩, tk_4 81 rfl rfl⟩)
theorem okM_118 : ∀ a, a < 119 → 0 < a → OKM a := lt_s okM_117 (fun _ => ⟨⟨(870, 66, 868, 869), okm_4 (118, (870, 66, 868, 869)) (List.mem_of_getElem? (i := 22) rfl)⟩, tk_4 85 rfl rfl⟩)
theorem okM_119 : ∀ a, a < 120 → 0 < a → OKM a := lt_s okM_118 (fun _ => ⟨⟨(874, 66, 872, 873), okm_4 (119, (874, 66, 872, 873)) (List.mem_of_getElem? (i := 23) rfl)⟩, tk_4 89 rfl rfl⟩)
theorem okM_120 : ∀ a, a < 121 → 0 < a → OKM a := lt_s okM_119 (fun _ => ⟨⟨(891, 66, 889, 890), okm_5 (120, (891, 66, 889, 890)) (List.mem_of_getElem? (i := 0) rfl)⟩, tk_4 106 rfl rfl⟩)
theorem okM_121 : ∀ a, a < 122 → 0 < a → OKM a := lt_s okM_120 (fun _ => ⟨⟨(895, 66, 893, 894), okm_5 (121, (895, 66, 893, 894)) (List.mem_of_getElem? (i := 1) rfl)⟩, tk_4 110 rfl rfl⟩)
theorem okM_122 : ∀ a, a < 123 → 0 < a → OKM a := lt_s okM_121 (fun _ => ⟨⟨(899, 66, 897, 898), okm_5 (122, (899, 66, 897, 898)) (List.mem_of_getElem? (i := 2) rfl)⟩, tk_4 114 rfl rfl⟩)
theorem okM_123 : ∀ a, a < 124 → 0 < a → OKM a := lt_s okM_122 (fun _ => ⟨⟨(355, 66, 354, 0), okm_5 (123, (355, 66, 354, 0)) (List.mem_of_getElem? (i := 3) rfl)⟩, tk_2 50 rfl rfl⟩)
theorem okM_124 : ∀ a, a < 125 → 0 < a → OKM a := lt_s okM_123 (fun _ => ⟨⟨(412, 66, 411, 0), okm_5 (124, (412, 66, 411, 0)) (List.mem_of_getElem? (i := 4) rfl)⟩, tk_2 107 rfl rfl⟩)
theorem okM_125 : ∀ a, a < 126 → 0 < a → OKM a := lt_s okM_124 (fun _ => ⟨⟨(632, 66, 631, 0), okm_5 (125, (632, 66, 631, 0)) (List.mem_of_getElem? (i := 5) rfl)⟩, tk_3 87 rfl rfl⟩)
theorem okM_126 : ∀ a, a < 127 → 0 < a → OKM a := lt_s okM_125 (fun _ => ⟨⟨(359, 66, 358, 0), okm_5 (126, (359, 66, 358, 0)) (List.mem_of_getElem? (i := 6) rfl)⟩, tk_2 54 rfl rfl⟩)
theorem okM_127 : ∀ a, a < 128 → 0 < a → OKM a := lt_s okM_126 (fun _ => ⟨⟨(374, 66, 373, 1), okm_5 (127, (374, 66, 373, 1)) (List.mem_of_getElem? (i := 7) rfl)⟩, tk_2 69 rfl rfl⟩)
theorem okM_128 : ∀ a, a < 129 → 0 < a → OKM a := lt_s okM_127 (fun _ => ⟨⟨(732, 66, 731, 15), okm_5 (128, (732, 66, 731, 15)) (List.mem_of_getElem? (i := 8) rfl)⟩, tk_3 187 rfl rfl⟩)
theorem okM_129 : ∀ a, a < 130 → 0 < a → OKM a := lt_s okM_128 (fun _ => ⟨⟨(777, 66, 776, 20), okm_5 (129, (777, 66, 776, 20)) (List.mem_of_getElem? (i := 9) rfl)⟩, tk_3 232 rfl rfl⟩)
theorem okM_130 : ∀ a, a < 131 → 0 < a → OKM a := lt_s okM_129 (fun _ => ⟨⟨(736, 66, 735, 16), okm_5 (130, (736, 66, 735, 16)) (List.mem_of_getElem? (i := 10) rfl)⟩, tk_3 191 rfl rfl⟩)
theorem okM_131 : ∀ a, a < 132 → 0 < a → OKM a := lt_s okM_130 (fun _ => ⟨⟨(483, 66, 482, 8), okm_5 (131, (483, 66, 482, 8)) (List.mem_of_getElem? (i := 11) rfl)⟩, tk_2 178 rfl rfl⟩)
theorem okM_132 : ∀ a, a < 133 → 0 < a → OKM a := lt_s okM_131 (fun _ => ⟨⟨(531, 66, 530, 9), okm_5 (132, (531, 66, 530, 9)) (List.mem_of_getElem? (i := 12) rfl)⟩, tk_2 226 rfl rfl⟩)
theorem okM_133 : ∀ a, a < 134 → 0 < a → OKM a := lt_s okM_132 (fun _ => ⟨⟨(565, 66, 564, 10), okm_5 (133, (565, 66, 564, 10)) (List.mem_of_getElem? (i := 13) rfl)⟩, tk_3 20 rfl rfl⟩)
theorem okM_134 : ∀ a, a < 135 → 0 < a → OKM a := lt_s okM_133 (fun _ => ⟨⟨(883, 66, 882, 0), okm_5 (134, (883, 66, 882, 0)) (List.mem_of_getElem? (i := 14) rfl)⟩, tk_4 98 rfl rfl⟩)
theorem okM_135 : ∀ a, a < 136 → 0 < a → OKM a := lt_s okM_134 (fun _ => ⟨⟨(887, 66, 886, 23), okm_5 (135, (887, 66, 886, 23)) (List.mem_of_getElem? (i := 15) rfl)⟩, tk_4 102 rfl rfl⟩)
theorem okM_136 : ∀ a, a < 137 → 0 < a → OKM a := lt_s okM_135 (fun _ => ⟨⟨(912, 77, 911, 0), okm_5 (136, (912, 77, 911, 0)) (List.mem_of_getElem? (i := 16) rfl)⟩, tk_4 127 rfl rfl⟩)
theorem okM_137 : ∀ a, a < 138 → 0 < a → OKM a := lt_s okM_136 (fun _ => ⟨⟨(1041, 77, 1040, 0), okm_5 (137, (1041, 77, 1040, 0)) (List.mem_of_getElem? (i := 17) rfl)⟩, tk_5 16 rfl rfl⟩)
theorem okM_138 : ∀ a, a < 139 → 0 < a → OKM a := lt_s okM_137 (fun _ => ⟨⟨(1216, 77, 1215, 0), okm_5 (138, (1216, 77, 1215, 0)) (List.mem_of_getElem? (i := 18) rfl)⟩, tk_5 191 rfl rfl⟩)
theorem okM_139 : ∀ a, a < 140 → 0 < a → OKM a := lt_s okM_138 (fun _ => ⟨⟨(1310, 77, 1309, 0), okm_5 (139, (1310, 77, 1309, 0)) (List.mem_of_getElem? (i := 19) rfl)⟩, tk_6 45 rfl rfl⟩)
theorem okM_140 : ∀ a, a < 141 → 0 < a → OKM a := lt_s okM_139 (fun _ => ⟨⟨(1064, 77, 1063, 24), okm_5 (140, (1064, 77, 1063, 24)) (List.mem_of_getElem? (i := 20) rfl)⟩, tk_5 39 rfl rfl⟩)
theorem okM_141 : ∀ a, a < 142 → 0 < a → OKM a := lt_s okM_140 (fun _ => ⟨⟨(1034, 77, 1032, 1033), okm_5 (141, (1034, 77, 1032, 1033)) (List.mem_of_getElem? (i := 21) rfl)⟩, tk_5 9 rfl rfl⟩)
theorem okM_142 : ∀ a, a < 143 → 0 < a → OKM a := lt_s okM_141 (fun _ => ⟨⟨(1038, 77, 1036, 1037), okm_5 (142, (1038, 77, 1036, 1037)) (List.mem_of_getElem? (i := 22) rfl)⟩, tk_5 13 rfl rfl⟩)
theorem okM_143 : ∀ a, a < 144 → 0 < a → OKM a := lt_s okM_142 (fun _ => ⟨⟨(1076, 77, 1075, 26), okm_5 (143, (1076, 77, 1075, 26)) (List.mem_of_getElem? (i := 23) rfl)⟩, tk_5 51 rfl rfl⟩)
theorem okM_144 : ∀ a, a < 145 → 0 < a → OKM a := lt_s okM_143 (fun _ => ⟨⟨(1045, 77, 1043, 1044), okm_6 (144, (1045, 77, 1043, 1044)) (List.mem_of_getElem? (i := 0) rfl)⟩, tk_5 20 rfl rfl⟩)
theorem okM_145 : ∀ a, a < 146 → 0 < a → OKM a := lt_s okM_144 (fun _ => ⟨⟨(1364, 77, 1363, 61), okm_6 (145, (1364, 77, 1363, 61)) (List.mem_of_getElem? (i := 1) rfl)⟩, tk_6 99 rfl rfl⟩)
theorem okM_146 : ∀ a, a < 147 → 0 < a → OKM a := lt_s okM_145 (fun _ => ⟨⟨(1049, 77, 1047, 1048), okm_6 (146, (1049, 77, 1047, 1048)) (List.mem_of_getElem? (i := 2) rfl)⟩, tk_5 24 rfl rfl⟩)
theorem okM_147 : ∀ a, a < 148 → 0 < a → OKM a := lt_s okM_146 (fun _ => ⟨⟨(1053, 77, 1051, 1052), okm_6 (147, (1053, 77, 1051, 1052)) (List.mem_of_getElem? (i := 3) rfl)⟩, tk_5 28 rfl rfl⟩)
theorem okM_148 : ∀ a, a < 149 → 0 < a → OKM a := lt_s okM_147 (fun _ => ⟨⟨(1060, 77, 1059, 0), okm_6 (148, (1060, 77, 1059, 0)) (List.mem_of_getElem? (i := 4) rfl)⟩, tk_5 35 rfl rfl⟩)
theorem okM_149 : ∀ a, a < 150 → 0 < a → OKM a := lt_s okM_148 (fun _ => ⟨⟨(1072, 77, 1071, 25), okm_6 (149, (1072, 77, 1071, 25)) (List.mem_of_getElem? (i := 5) rfl)⟩, tk_5 47 rfl rfl⟩)
theorem okM_150 : ∀ a, a < 151 → 0 < a → OKM a := lt_s okM_149 (fun _ => ⟨⟨(1057, 77, 1055, 1056), okm_6 (150, (1057, 77, 1055, 1056)) (List.mem_of_getElem? (i := 6) rfl)⟩, tk_5 32 rfl rfl⟩)
theorem okM_151 : ∀ a, a < 152 → 0 < a → OKM a := lt_s okM_150 (fun _ => ⟨⟨(1068, 77, 1066, 1067), okm_6 (151, (1068, 77, 1066, 1067)) (List.mem_of_getElem? (i := 7) rfl)⟩, tk_5 43 rfl rfl⟩)
theorem okM_152 : ∀ a, a < 153 → 0 < a → OKM a := lt_s okM_151 (fun _ => ⟨⟨(1080, 77, 1078, 1079), okm_6 (152, (1080, 77, 1078, 1079)) (List.mem_of_getElem? (i := 8) rfl)⟩, tk_5 55 rfl rfl⟩)
theorem okM_153 : ∀ a, a < 154 → 0 < a → OKM a := lt_s okM_152 (fun _ => ⟨⟨(1084, 77, 1082, 1083), okm_6 (153, (1084, 77, 1082, 1083)) (List.mem_of_getElem? (i := 9) rfl)⟩, tk_5 59 rfl rfl⟩)
theorem okM_154 : ∀ a, a < 155 → 0 < a → OKM a := lt_s okM_153 (fun _ => ⟨⟨(1088, 77, 1086, 1087), okm_6 (154, (1088, 77, 1086, 1087)) (List.mem_of_getElem? (i := 10) rfl)⟩, tk_5 63 rfl rfl⟩)
theorem okM_155 : ∀ a, a < 156 → 0 < a → OKM a := lt_s okM_154 (fun _ => ⟨⟨(1092, 77, 1090, 1091), okm_6 (155, (1092, 77, 1090, 1091)) (List.mem_of_getElem? (i := 11) rfl)⟩, tk_5 67 rfl rfl⟩)
theorem okM_156 : ∀ a, a < 157 → 0 < a → OKM a := lt_s okM_155 (fun _ => ⟨⟨(1099, 77, 1098, 0), okm_6 (156, (1099, 77, 1098, 0)) (List.mem_of_getElem? (i := 12) rfl)⟩, tk_5 74 rfl rfl⟩)
theorem okM_157 : ∀ a, a < 158 → 0 < a → OKM a := lt_s okM_156 (fun _ => ⟨⟨(1096, 77, 1094, 1095), okm_6 (157, (1096, 77, 1094, 1095)) (List.mem_of_getElem? (i := 13) rfl)⟩, tk_5 71 rfl rfl⟩)
theorem okM_158 : ∀ a, a < 159 → 0 < a → OKM a := lt_s okM_157 (fun _ => ⟨⟨(1103, 77, 1101, 1102), okm_6 (158, (1103, 77, 1101, 1102)) (List.mem_of_getElem? (i := 14) rfl)⟩, tk_5 78 rfl rfl⟩)
theorem okM_159 : ∀ a, a < 160 → 0 < a → OKM a := lt_s okM_158 (fun _ => ⟨⟨(1115, 77, 1114, 28), okm_6 (159, (1115, 77, 1114, 28)) (List.mem_of_getElem? (i := 15) rfl)⟩, tk_5 90 rfl rfl⟩)
theorem okM_160 : ∀ a, a < 161 → 0 < a → OKM a := lt_s okM_159 (fun _ => ⟨⟨(1122, 77, 1121, 0), okm_6 (160, (1122, 77, 1121, 0)) (List.mem_of_getElem? (i := 16) rfl)⟩, tk_5 97 rfl rfl⟩)
theorem okM_161 : ∀ a, a < 162 → 0 < a → OKM a := lt_s okM_160 (fun _ => ⟨⟨(1126, 77, 1125, 30), okm_6 (161, (1126, 77, 1125, 30)) (List.mem_of_getElem? (i := 17) rfl)⟩, tk_5 101 rfl rfl⟩)
theorem okM_162 : ∀ a, a < 163 → 0 < a → OKM a := lt_s okM_161 (fun _ => ⟨⟨(1130, 77, 1129, 31), okm_6 (162, (1130, 77, 1129, 31)) (List.mem_of_getElem? (i := 18) rfl)⟩, tk_5 105 rfl rfl⟩)
theorem okM_163 : ∀ a, a < 164 → 0 < a → OKM a := lt_s okM_162 (fun _ => ⟨⟨(1119, 77, 1118, 29), okm_6 (163, (1119, 77, 1118, 29)) (List.mem_of_getElem? (i := 19) rfl)⟩, tk_5 94 rfl rfl⟩)
theorem okM_164 : ∀ a, a < 165 → 0 < a → OKM a := lt_s okM_163 (fun _ => ⟨⟨(1111, 77, 1110, 27), okm_6 (164, (1111, 77, 1110, 27)) (List.mem_of_getElem? (i := 20) rfl)⟩, tk_5 86 rfl rfl⟩)
theorem okM_165 : ∀ a, a < 166 → 0 < a → OKM a := lt_s okM_164 (fun _ => ⟨⟨(1107, 77, 1105, 1106), okm_6 (165, (1107, 77, 1105, 1106)) (List.mem_of_getElem? (i := 21) rfl)⟩, tk_5 82 rfl rfl⟩)
theorem okM_166 : ∀ a, a < 167 → 0 < a → OKM a := lt_s okM_165 (fun _ => ⟨⟨(1134, 77, 1132, 1133), okm_6 (166, (1134, 77, 1132, 1133)) (List.mem_of_getElem? (i := 22) rfl)⟩, tk_5 109 rfl rfl⟩)
theorem okM_167 : ∀ a, a < 168 → 0 < a → OKM a := lt_s okM_166 (fun _ => ⟨⟨(1142, 77, 1141, 32), okm_6 (167, (1142, 77, 1141, 32)) (List.mem_of_getElem? (i := 23) rfl)⟩, tk_5 117 rfl rfl⟩)
theorem okM_168 : ∀ a, a < 169 → 0 < a → OKM a := lt_s okM_167 (fun _ => ⟨⟨(1193, 77, 1192, 42), okm_7 (168, (1193, 77, 1192, 42)) (List.mem_of_getElem? (i := 0) rfl)⟩, tk_5 168 rfl rfl⟩)
theorem okM_169 : ∀ a, a < 170 → 0 < a → OKM a := lt_s okM_168 (fun _ => ⟨⟨(1161, 77, 1160, 0), okm_7 (169, (1161, 77, 1160, 0)) (List.mem_of_getElem? (i := 1) rfl)⟩, tk_5 136 rfl rfl⟩)
theorem okM_170 : ∀ a, a < 171 → 0 < a → OKM a := lt_s okM_169 (fun _ => ⟨⟨(1158, 77, 1157, 36), okm_7 (170, (1158, 77, 1157, 36)) (List.mem_of_getElem? (i := 2) rfl)⟩, tk_5 133 rfl rfl⟩)
theorem okM_171 : ∀ a, a < 172 → 0 < a → OKM a := lt_s okM_170 (fun _ => ⟨⟨(1173, 77, 1172, 39), okm_7 (171, (1173, 77, 1172, 39)) (List.mem_of_getElem? (i := 3) rfl)⟩, tk_5 148 rfl rfl⟩)
theorem okM_172 : ∀ a, a < 173 → 0 < a → OKM a := lt_s okM_171 (fun _ => ⟨⟨(1227, 77, 1226, 0), okm_7 (172, (1227, 77, 1226, 0)) (List.mem_of_getElem? (i := 4) rfl)⟩, tk_5 202 rfl rfl⟩)
theorem okM_173 : ∀ a, a < 174 → 0 < a → OKM a := lt_s okM_172 (fun _ => ⟨⟨(1154, 77, 1153, 35), okm_7 (173, (1154, 77, 1153, 35)) (List.mem_of_getElem? (i := 5) rfl)⟩, tk_5 129 rfl rfl⟩)
theorem okM_174 : ∀ a, a < 175 → 0 < a → OKM a := lt_s okM_173 (fun _ => ⟨⟨(1150, 77, 1149, 34), okm_7 (174, (1150, 77, 1149, 34)) (List.mem_of_getElem? (i := 6) rfl)⟩, tk_5 125 rfl rfl⟩)
theorem okM_175 : ∀ a, a < 176 → 0 < a → OKM a := lt_s okM_174 (fun _ => ⟨⟨(1279, 77, 1278, 52), okm_7 (175, (1279, 77, 1278, 52)) (List.mem_of_getElem? (i := 7) rfl)⟩, tk_6 14 rfl rfl⟩)
theorem okM_176 : ∀ a, a < 177 → 0 < a → OKM a := lt_s okM_175 (fun _ => ⟨⟨(1169, 77, 1168, 38), okm_7 (176, (1169, 77, 1168, 38)) (List.mem_of_getElem? (i := 8) rfl)⟩, tk_5 144 rfl rfl⟩)
theorem okM_177 : ∀ a, a < 178 → 0 < a → OKM a := lt_s okM_176 (fun _ => ⟨⟨(1165, 77, 1164, 37), okm_7 (177, (1165, 77, 1164, 37)) (List.mem_of_getElem? (i := 9) rfl)⟩, tk_5 140 rfl rfl⟩)
theorem okM_178 : ∀ a, a < 179 → 0 < a → OKM a := lt_s okM_177 (fun _ => ⟨⟨(1213, 77, 1212, 46), okm_7 (178, (1213, 77, 1212, 46)) (List.mem_of_getElem? (i := 10) rfl)⟩, tk_5 188 rfl rfl⟩)
theorem okM_179 : ∀ a, a < 180 → 0 < a → OKM a := lt_s okM_178 (fun _ => ⟨⟨(1220, 77, 1219, 47), okm_7 (179, (1220, 77, 1219, 47)) (List.mem_of_getElem? (i := 11) rfl)⟩, tk_5 195 rfl rfl⟩)
theorem okM_180 : ∀ a, a < 181 → 0 < a → OKM a := lt_s okM_179 (fun _ => ⟨⟨(1209, 77, 1208, 45), okm_7 (180, (1209, 77, 1208, 45)) (List.mem_of_getElem? (i := 12) rfl)⟩, tk_5 184 rfl rfl⟩)
theorem okM_181 : ∀ a, a < 182 → 0 < a → OKM a := lt_s okM_180 (fun _ => ⟨⟨(1205, 77, 1204, 44), okm_7 (181, (1205, 77, 1204, 44)) (List.mem_of_getElem? (i := 13) rfl)⟩, tk_5 180 rfl rfl⟩)
theorem okM_182 : ∀ a, a < 183 → 0 < a → OKM a := lt_s okM_181 (fun _ => ⟨⟨(1224, 77, 1223, 48), okm_7 (182, (1224, 77, 1223, 48)) (List.mem_of_getElem? (i := 14) rfl)⟩, tk_5 199 rfl rfl⟩)
theorem okM_183 : ∀ a, a < 184 → 0 < a → OKM a := lt_s okM_182 (fun _ => ⟨⟨(1275, 77, 1274, 51), okm_7 (183, (1275, 77, 1274, 51)) (List.mem_of_getElem? (i := 15) rfl)⟩, tk_6 10 rfl rfl⟩)
theorem okM_184 : ∀ a, a < 185 → 0 < a → OKM a := lt_s okM_183 (fun _ => ⟨⟨(1146, 77, 1145, 33), okm_7 (184, (1146, 77, 1145, 33)) (List.mem_of_getElem? (i := 16) rfl)⟩, tk_5 121 rfl rfl⟩)
theorem okM_185 : ∀ a, a < 186 → 0 < a → OKM a := lt_s okM_184 (fun _ => ⟨⟨(1138, 77, 1136, 1137), okm_7 (185, (1138, 77, 1136, 1137)) (List.mem_of_getElem? (i := 17) rfl)⟩, tk_5 113 rfl rfl⟩)
theorem okM_186 : ∀ a, a < 187 → 0 < a → OKM a := lt_s okM_185 (fun _ => ⟨⟨(1181, 77, 1180, 40), okm_7 (186, (1181, 77, 1180, 40)) (List.mem_of_getElem? (i := 18) rfl)⟩, tk_5 156 rfl rfl⟩)
theorem okM_187 : ∀ a, a < 188 → 0 < a → OKM a := lt_s okM_186 (fun _ => ⟨⟨(1185, 77, 1184, 41), okm_7 (187, (1185, 77, 1184, 41)) (List.mem_of_getElem? (i := 19) rfl)⟩, tk_5 160 rfl rfl⟩)
theorem okM_188 : ∀ a, a < 189 → 0 < a → OKM a := lt_s okM_187 (fun _ => ⟨⟨(1177, 77, 1175, 1176), okm_7 (188, (1177, 77, 1175, 1176)) (List.mem_of_getElem? (i := 20) rfl)⟩, tk_5 152 rfl rfl⟩)
theorem okM_189 : ∀ a, a < 190 → 0 < a → OKM a := lt_s okM_188 (fun _ => ⟨⟨(1189, 77, 1187, 1188), okm_7 (189, (1189, 77, 1187, 1188)) (List.mem_of_getElem? (i := 21) rfl)⟩, tk_5 164 rfl rfl⟩)
theorem okM_190 : ∀ a, a < 191 → 0 < a → OKM a := lt_s okM_189 (fun _ => ⟨⟨(1201, 77, 1200, 43), okm_7 (190, (1201, 77, 1200, 43)) (List.mem_of_getElem? (i := 22) rfl)⟩, tk_5 176 rfl rfl⟩)
theorem okM_191 : ∀ a, a < 192 → 0 < a → OKM a := lt_s okM_190 (fun _ => ⟨⟨(1197, 77, 1195, 1196), okm_7 (191, (1197, 77, 1195, 1196)) (List.mem_of_getElem? (i := 23) rfl)⟩, tk_5 172 rfl rfl⟩)
theorem okM_192 : ∀ a, a < 193 → 0 < a → OKM a := lt_s okM_191 (fun _ => ⟨⟨(1231, 77, 1229, 1230), okm_8 (192, (1231, 77, 1229, 1230)) (List.mem_of_getElem? (i := 0) rfl)⟩, tk_5 206 rfl rfl⟩)
theorem okM_193 : ∀ a, a < 194 → 0 < a → OKM a := lt_s okM_192 (fun _ => ⟨⟨(1235, 77, 1233, 1234), okm_8 (193, (1235, 77, 1233, 1234)) (List.mem_of_getElem? (i := 1) rfl)⟩, tk_5 210 rfl rfl⟩)
theorem okM_194 : ∀ a, a < 195 → 0 < a → OKM a := lt_s okM_193 (fun _ => ⟨⟨(1239, 77, 1237, 1238), okm_8 (194, (1239, 77, 1237, 1238)) (List.mem_of_getElem? (i := 2) rfl)⟩, tk_5 214 rfl rfl⟩)
theorem okM_195 : ∀ a, a < 196 → 0 < a → OKM a := lt_s okM_194 (fun _ => ⟨⟨(1243, 77, 1241, 1242), okm_8 (195, (1243, 77, 1241, 1242)) (List.mem_of_getElem? (i := 3) rfl)⟩, tk_5 218 rfl rfl⟩)
theorem okM_196 : ∀ a, a < 197 → 0 < a → OKM a := lt_s okM_195 (fun _ => ⟨⟨(1247, 77, 1245, 1246), okm_8 (196, (1247, 77, 1245, 1246)) (List.mem_of_getElem? (i := 4) rfl)⟩, tk_5 222 rfl rfl⟩)
theorem okM_197 : ∀ a, a < 198 → 0 < a → OKM a := lt_s okM_196 (fun _ => ⟨⟨(1255, 77, 1254, 49), okm_8 (197, (1255, 77, 1254, 49)) (List.mem_of_getElem? (i := 5) rfl)⟩, tk_5 230 rfl rfl⟩)
theorem okM_198 : ∀ a, a < 199 → 0 < a → OKM a := lt_s okM_197 (fun _ => ⟨⟨(1251, 77, 1249, 1250), okm_8 (198, (1251, 77, 1249, 1250)) (List.mem_of_getElem? (i := 6) rfl)⟩, tk_5 226 rfl rfl⟩)
theorem okM_199 : ∀ a, a < 200 → 0 < a → OKM a := lt_s okM_198 (fun _ => ⟨⟨(1259, 77, 1257, 1258), okm_8 (199, (1259, 77, 1257, 1258)) (List.mem_of_getElem? (i := 7) rfl)⟩, tk_5 234 rfl rfl⟩)
theorem okM_200 : ∀ a, a < 201 → 0 < a → OKM a := lt_s okM_199 (fun _ => ⟨⟨(1267, 77, 1266, 50), okm_8 (200, (1267, 77, 1266, 50)) (List.mem_of_getElem? (i := 8) rfl)⟩, tk_6 2 rfl rfl⟩)
theorem okM_201 : ∀ a, a < 202 → 0 < a → OKM a := lt_s okM_200 (fun _ => ⟨⟨(1263, 77, 1261, 1262), okm_8 (201, (1263, 77, 1261, 1262)) (List.mem_of_getElem? (i := 9) rfl)⟩, tk_5 238 rfl rfl⟩)
theorem okM_202 : ∀ a, a < 203 → 0 < a → OKM a := lt_s okM_201 (fun _ => ⟨⟨(1271, 77, 1269, 1270), okm_8 (202, (1271, 77, 1269, 1270)) (List.mem_of_getElem? (i := 10) rfl)⟩, tk_6 6 rfl rfl⟩)
theorem okM_203 : ∀ a, a < 204 → 0 < a → OKM a := lt_s okM_202 (fun _ => ⟨⟨(1283, 77, 1281, 1282), okm_8 (203, (1283, 77, 1281, 1282)) (List.mem_of_getElem? (i := 11) rfl)⟩, tk_6 18 rfl rfl⟩)
theorem okM_204 : ∀ a, a < 205 → 0 < a → OKM a := lt_s okM_203 (fun _ => ⟨⟨(1287, 77, 1285, 1286), okm_8 (204, (1287, 77, 1285, 1286)) (List.mem_of_getElem? (i := 12) rfl)⟩, tk_6 22 rfl rfl⟩)
theorem okM_205 : ∀ a, a < 206 → 0 < a → OKM a := lt_s okM_204 (fun _ => ⟨⟨(1295, 77, 1294, 53), okm_8 (205, (1295, 77, 1294, 53)) (List.mem_of_getElem? (i := 13) rfl)⟩, tk_6 30 rfl rfl⟩)
theorem okM_206 : ∀ a, a < 207 → 0 < a → OKM a := lt_s okM_205 (fun _ => ⟨⟨(1291, 77, 1289, 1290), okm_8 (206, (1291, 77, 1289, 1290)) (List.mem_of_getElem? (i := 14) rfl)⟩, tk_6 26 rfl rfl⟩)
theorem okM_207 : ∀ a, a < 208 → 0 < a → OKM a := lt_s okM_206 (fun _ => ⟨⟨(1303, 77, 1302, 54), okm_8 (207, (1303, 77, 1302, 54)) (List.mem_of_getElem? (i := 15) rfl)⟩, tk_6 38 rfl rfl⟩)
theorem okM_208 : ∀ a, a < 209 → 0 < a → OKM a := lt_s okM_207 (fun _ => ⟨⟨(1307, 77, 1306, 55), okm_8 (208, (1307, 77, 1306, 55)) (List.mem_of_getElem? (i := 16) rfl)⟩, tk_6 42 rfl rfl⟩)
theorem okM_209 : ∀ a, a < 210 → 0 < a → OKM a := lt_s okM_208 (fun _ => ⟨⟨(1299, 77, 1297, 1298), okm_8 (209, (1299, 77, 1297, 1298)) (List.mem_of_getElem? (i := 17) rfl)⟩, tk_6 34 rfl rfl⟩)
theorem okM_210 : ∀ a, a < 211 → 0 < a → OKM a := lt_s okM_209 (fun _ => ⟨⟨(1319, 77, 1318, 56), okm_8 (210, (1319, 77, 1318, 56)) (List.mem_of_getElem? (i := 18) rfl)⟩, tk_6 54 rfl rfl⟩)
theorem okM_211 : ∀ a, a < 212 → 0 < a → OKM a := lt_s okM_210 (fun _ => ⟨⟨(1314, 77, 1312, 1313), okm_8 (211, (1314, 77, 1312, 1313)) (List.mem_of_getElem? (i := 19) rfl)⟩, tk_6 49 rfl rfl⟩)
theorem okM_212 : ∀ a, a < 213 → 0 < a → OKM a := lt_s okM_211 (fun _ => ⟨⟨(1327, 77, 1326, 57), okm_8 (212, (1327, 77, 1326, 57)) (List.mem_of_getElem? (i := 20) rfl)⟩, tk_6 62 rfl rfl⟩)
theorem okM_213 : ∀ a, a < 214 → 0 < a → OKM a := lt_s okM_212 (fun _ => ⟨⟨(1323, 77, 1321, 1322), okm_8 (213, (1323, 77, 1321, 1322)) (List.mem_of_getElem? (i := 21) rfl)⟩, tk_6 58 rfl rfl⟩)
theorem okM_214 : ∀ a, a < 215 → 0 < a → OKM a := lt_s okM_213 (fun _ => ⟨⟨(1335, 77, 1334, 58), okm_8 (214, (1335, 77, 1334, 58)) (List.mem_of_getElem? (i := 22) rfl)⟩, tk_6 70 rfl rfl⟩)
theorem okM_215 : ∀ a, a < 216 → 0 < a → OKM a := lt_s okM_214 (fun _ => ⟨⟨(1331, 77, 1329, 1330), okm_8 (215, (1331, 77, 1329, 1330)) (List.mem_of_getElem? (i := 23) rfl)⟩, tk_6 66 rfl rfl⟩)
theorem okM_216 : ∀ a, a < 217 → 0 < a → OKM a := lt_s okM_215 (fun _ => ⟨⟨(1343, 77, 1342, 59), okm_9 (216, (1343, 77, 1342, 59)) (List.mem_of_getElem? (i := 0) rfl)⟩, tk_6 78 rfl rfl⟩)
theorem okM_217 : ∀ a, a < 218 → 0 < a → OKM a := lt_s okM_216 (fun _ => ⟨⟨(1339, 77, 1337, 1338), okm_9 (217, (1339, 77, 1337, 1338)) (List.mem_of_getElem? (i := 1) rfl)⟩, tk_6 74 rfl rfl⟩)
theorem okM_218 : ∀ a, a < 219 → 0 < a → OKM a := lt_s okM_217 (fun _ => ⟨⟨(1347, 77, 1345, 1346), okm_9 (218, (1347, 77, 1345, 1346)) (List.mem_of_getElem? (i := 2) rfl)⟩, tk_6 82 rfl rfl⟩)
theorem okM_219 : ∀ a, a < 220 → 0 < a → OKM a := lt_s okM_218 (fun _ => ⟨⟨(1351, 77, 1349, 1350), okm_9 (219, (1351, 77, 1349, 1350)) (List.mem_of_getElem? (i := 3) rfl)⟩, tk_6 86 rfl rfl⟩)
theorem okM_220 : ∀ a, a < 221 → 0 < a → OKM a := lt_s okM_219 (fun _ => ⟨⟨(1359, 77, 1358, 60), okm_9 (220, (1359, 77, 1358, 60)) (List.mem_of_getElem? (i := 4) rfl)⟩, tk_6 94 rfl rfl⟩)
theorem okM_221 : ∀ a, a < 222 → 0 < a → OKM a := lt_s okM_220 (fun _ => ⟨⟨(1355, 77, 1353, 1354), okm_9 (221, (1355, 77, 1353, 1354)) (List.mem_of_getElem? (i := 5) rfl)⟩, tk_6 90 rfl rfl⟩)
theorem okM_222 : ∀ a, a < 223 → 0 < a → OKM a := lt_s okM_221 (fun _ => ⟨⟨(1368, 77, 1366, 1367), okm_9 (222, (1368, 77, 1366, 1367)) (List.mem_of_getElem? (i := 6) rfl)⟩, tk_6 103 rfl rfl⟩)
theorem okM_223 : ∀ a, a < 224 → 0 < a → OKM a := lt_s okM_222 (fun _ => ⟨⟨(1372, 77, 1370, 1371), okm_9 (223, (1372, 77, 1370, 1371)) (List.mem_of_getElem? (i := 7) rfl)⟩, tk_6 107 rfl rfl⟩)
theorem okM_224 : ∀ a, a < 225 → 0 < a → OKM a := lt_s okM_223 (fun _ => ⟨⟨(1386, 77, 1385, 62), okm_9 (224, (1386, 77, 1385, 62)) (List.mem_of_getElem? (i := 8) rfl)⟩, tk_6 121 rfl rfl⟩)
theorem okM_225 : ∀ a, a < 226 → 0 < a → OKM a := lt_s okM_224 (fun _ => ⟨⟨(1382, 77, 1380, 1381), okm_9 (225, (1382, 77, 1380, 1381)) (List.mem_of_getElem? (i := 9) rfl)⟩, tk_6 117 rfl rfl⟩)
theorem okM_226 : ∀ a, a < 227 → 0 < a → OKM a := lt_s okM_225 (fun _ => ⟨⟨(1395, 77, 1394, 63), okm_9 (226, (1395, 77, 1394, 63)) (List.mem_of_getElem? (i := 10) rfl)⟩, tk_6 130 rfl rfl⟩)
theorem okM_227 : ∀ a, a < 228 → 0 < a → OKM a := lt_s okM_226 (fun _ => ⟨⟨(1400, 77, 1399, 64), okm_9 (227, (1400, 77, 1399, 64)) (List.mem_of_getElem? (i := 11) rfl)⟩, tk_6 135 rfl rfl⟩)
theorem okM_228 : ∀ a, a < 229 → 0 < a → OKM a := lt_s okM_227 (fun _ => ⟨⟨(1390, 77, 1388, 1389), okm_9 (228, (1390, 77, 1388, 1389)) (List.mem_of_getElem? (i := 12) rfl)⟩, tk_6 125 rfl rfl⟩)
theorem okM_229 : ∀ a, a < 230 → 0 < a → OKM a := lt_s okM_228 (fun _ => ⟨⟨(745, 79, 744, 0), okm_9 (229, (745, 79, 744, 0)) (List.mem_of_getElem? (i := 13) rfl)⟩, tk_3 200 rfl rfl⟩)
end
section
/-- what the tables say of a class -/
def ClsOk (ci : Nat) : Prop := ∃ (T : u_T) (ty : Nat → FieldType), vwCl[ci]? = some (CN ci, T, NT ci) ∧ (∀ k, T k = FT ci k) ∧ (∀ w ∈ u_ws (CN ci) T (NT ci), w ∈ WT) ∧ (∀ k, k < NT ci → parseFieldDescriptor (T k).2.2.1 = some (ty k)) ∧ (∀ a, a < NT ci → ∀ b, b < NT ci → a ≠ b → (T a).2.1 ≠ (T b).2.1)
  ∧ Cond.instantiable (CN ci) (NT ci) ∈ WT ∧ Cond.initialized (CN ci) ∈ WT ∧ ∀ k, k < NT ci → (fk ci k = 0 ∧ ty k = .int) ∨ (fk ci k = 1 ∧ ty k = .long) ∨ (fk ci k = 2 ∧ refKind (ty k) = true) ∨ (fk ci k = 3 ∧ ty k = .boolean)
theorem cla_0 : u_ws RX0 TX0 2 = [188, 190].filterMap (fun i => lw_tbl[i]?) := by decide +kernel
theorem clb_0 : (u_ws RX0 TX0 2).all goodWord = true := by decide +kernel
theorem clc_0 : tb 179 (.instantiable RX0 2) = true := by decide +kernel
theorem cld_0 : tb 69 (.initialized RX0) = true := by decide +kernel
theorem cle_0 : ∀ k, k < 2 → (fk 0 k = 0 ∧ tyX0 k = .int) ∨ (fk 0 k = 1 ∧ tyX0 k = .long) ∨ (fk 0 k = 2 ∧ refKind (tyX0 k) = true) ∨ (fk 0 k = 3 ∧ tyX0 k = .boolean) := by decide +kernel
theorem cls_0 : ClsOk 0 := ⟨TX0, tyX0, rfl, fun _ => rfl, WT_of _ cla_0 clb_0, tyX0_ok, nmX0, WT_in clc_0 rfl, WT_in cld_0 rfl, cle_0⟩
theorem cla_1 : u_ws RX1 TX1 4 = [272, 274, 276, 278].filterMap (fun i => lw_tbl[i]?) := by decide +kernel
theorem clb_1 : (u_ws RX1 TX1 4).all goodWord = true := by decide +kernel
theorem clc_1 : tb 260 (.instantiable RX1 4) = true := by decide +kernel
theorem cld_1 : tb 74 (.initialized RX1) = true := by decide +kernel
theorem cle_1 : ∀ k, k < 4 → (fk 1 k = 0 ∧ tyX1 k = .int) ∨ (fk 1 k = 1 ∧ tyX1 k = .long) ∨ (fk 1 k = 2 ∧ refKind (tyX1 k) = true) ∨ (fk 1 k = 3 ∧ tyX1 k = .boolean) := by decide +kernel
theorem cls_1 : ClsOk 1 := ⟨TX1, tyX1, rfl, fun _ => rfl, WT_of _ cla_1 clb_1, tyX1_ok, nmX1, WT_in clc_1 rfl, WT_in cld_1 rfl, cle_1⟩
theorem cla_2 : u_ws RX2 TX2 2 = [241, 243].filterMap (fun i => lw_tbl[i]?) := by decide +kernel
theorem clb_2 : (u_ws RX2 TX2 2).all goodWord = true := by decide +kernel
theorem clc_2 : tb 233 (.instantiable RX2 2) = true := by decide +kernel
theorem cld_2 : tb 72 (.initialized RX2) = true := by decide +kernel
theorem cle_2 : ∀ k, k < 2 → (fk 2 k = 0 ∧ tyX2 k = .int) ∨ (fk 2 k = 1 ∧ tyX2 k = .long) ∨ (fk 2 k = 2 ∧ refKind (tyX2 k) = true) ∨ (fk 2 k = 3 ∧ tyX2 k = .boolean) := by decide +kernel
theorem cls_2 : ClsOk 2 := ⟨TX2, tyX2, rfl, fun _ => rfl, WT_of _ cla_2 clb_2, tyX2_ok, nmX2, WT_in clc_2 rfl, WT_in cld_2 rfl, cle_2⟩
theorem cla_3 : u_ws RX3 TX3 15 = [132, 134, 136, 138, 140, 142, 144, 146, 148, 150, 152, 154, 156, 158, 160].filterMap (fun i => lw_tbl[i]?) := by decide +kernel
theorem clb_3 : (u_ws RX3 TX3 15).all goodWord = true := by decide +kernel
theorem clc_3 : tb 91 (.instantiable RX3 15) = true := by decide +kernel
theorem cld_3 : tb 67 (.initialized RX3) = true := by decide +kernel
theorem cle_3 : ∀ k, k < 15 → (fk 3 k = 0 ∧ tyX3 k = .int) ∨ (fk 3 k = 1 ∧ tyX3 k = .long) ∨ (fk 3 k = 2 ∧ refKind (tyX3 k) = true) ∨ (fk 3 k = 3 ∧ tyX3 k = .boolean) := by decide +kernel
theorem cls_3 : ClsOk 3 := ⟨TX3, tyX3, rfl, fun _ => rfl, WT_of _ cla_3 clb_3, tyX3_ok, nmX3, WT_in clc_3 rfl, WT_in cld_3 rfl, cle_3⟩
theorem cla_4 : u_ws RX4 TX4 2 = [254, 256].filterMap (fun i => lw_tbl[i]?) := by decide +kernel
theorem clb_4 : (u_ws RX4 TX4 2).all goodWord = true := by decide +kernel
theorem clc_4 : tb 247 (.instantiable RX4 2) = true := by decide +kernel
theorem cld_4 : tb 73 (.initialized RX4) = true := by decide +kernel
theorem cle_4 : ∀ k, k < 2 → (fk 4 k = 0 ∧ tyX4 k = .int) ∨ (fk 4 k = 1 ∧ tyX4 k = .long) ∨ (fk 4 k = 2 ∧ refKind (tyX4 k) = true) ∨ (fk 4 k = 3 ∧ tyX4 k = .boolean) := by decide +kernel
theorem cls_4 : ClsOk 4 := ⟨TX4, tyX4, rfl, fun _ => rfl, WT_of _ cla_4 clb_4, tyX4_ok, nmX4, WT_in clc_4 rfl, WT_in cld_4 rfl, cle_4⟩
theorem cla_5 : u_ws RX5 TX5 3 = [225, 227, 229].filterMap (fun i => lw_tbl[i]?) := by decide +kernel
theorem clb_5 : (u_ws RX5 TX5 3).all goodWord = true := by decide +kernel
theorem clc_5 : tb 215 (.instantiable RX5 3) = true := by decide +kernel
theorem cld_5 : tb 71 (.initialized RX5) = true := by decide +kernel
theorem cle_5 : ∀ k, k < 3 → (fk 5 k = 0 ∧ tyX5 k = .int) ∨ (fk 5 k = 1 ∧ tyX5 k = .long) ∨ (fk 5 k = 2 ∧ refKind (tyX5 k) = true) ∨ (fk 5 k = 3 ∧ tyX5 k = .boolean) := by decide +kernel
theorem cls_5 : ClsOk 5 := ⟨TX5, tyX5, rfl, fun _ => rfl, WT_of _ cla_5 clb_5, tyX5_ok, nmX5, WT_in clc_5 rfl, WT_in cld_5 rfl, cle_5⟩
theorem cla_6 : u_ws RX6 TX6 2 = [173, 175].filterMap (fun i => lw_tbl[i]?) := by decide +kernel
theorem clb_6 : (u_ws RX6 TX6 2).all goodWord = true := by decide +kernel
theorem clc_6 : tb 166 (.instantiable RX6 2) = true := by decide +kernel
theorem cld_6 : tb 68 (.initialized RX6) = true := by decide +kernel
theorem cle_6 : ∀ k, k < 2 → (fk 6 k = 0 ∧ tyX6 k = .int) ∨ (fk 6 k = 1 ∧ tyX6 k = .long) ∨ (fk 6 k = 2 ∧ refKind (tyX6 k) = true) ∨ (fk 6 k = 3 ∧ tyX6 k = .boolean) := by decide +kernel
theorem cls_6 : ClsOk 6 := ⟨TX6, tyX6, rfl, fun _ => rfl, WT_of _ cla_6 clb_6, tyX6_ok, nmX6, WT_in clc_6 rfl, WT_in cld_6 rfl, cle_6⟩
theorem cla_7 : u_ws RX7 TX7 2 = [298, 300].filterMap (fun i => lw_tbl[i]?) := by decide +kernel
theorem clb_7 : (u_ws RX7 TX7 2).all goodWord = true := by decide +kernel
theorem clc_7 : tb 282 (.instantiable RX7 2) = true := by decide +kernel
theorem cld_7 : tb 75 (.initialized RX7) = true := by decide +kernel
theorem cle_7 : ∀ k, k < 2 → (fk 7 k = 0 ∧ tyX7 k = .int) ∨ (fk 7 k = 1 ∧ tyX7 k = .long) ∨ (fk 7 k = 2 ∧ refKind (tyX7 k) = true) ∨ (fk 7 k = 3 ∧ tyX7 k = .boolean) := by decide +kernel
theorem cls_7 : ClsOk 7 := ⟨TX7, tyX7, rfl, fun _ => rfl, WT_of _ cla_7 clb_7, tyX7_ok, nmX7, WT_in clc_7 rfl, WT_in cld_7 rfl, cle_7⟩
theorem cla_8 : u_ws RX8 TX8 4 = [205, 207, 209, 211].filterMap (fun i => lw_tbl[i]?) := by decide +kernel
theorem clb_8 : (u_ws RX8 TX8 4).all goodWord = true := by decide +kernel
theorem clc_8 : tb 194 (.instantiable RX8 4) = true := by decide +kernel
theorem cld_8 : tb 70 (.initialized RX8) = true := by decide +kernel
theorem cle_8 : ∀ k, k < 4 → (fk 8 k = 0 ∧ tyX8 k = .int) ∨ (fk 8 k = 1 ∧ tyX8 k = .long) ∨ (fk 8 k = 2 ∧ refKind (tyX8 k) = true) ∨ (fk 8 k = 3 ∧ tyX8 k = .boolean) := by decide +kernel
theorem cls_8 : ClsOk 8 := ⟨TX8, tyX8, rfl, fun _ => rfl, WT_of _ cla_8 clb_8, tyX8_ok, nmX8, WT_in clc_8 rfl, WT_in cld_8 rfl, cle_8⟩
theorem cla_9 : u_ws RX9 TX9 15 = [318, 320, 322, 324, 326, 328, 330, 332, 334, 336, 338, 340, 342, 344, 346].filterMap (fun i => lw_tbl[i]?) := by decide +kernel
theorem clb_9 : (u_ws RX9 TX9 15).all goodWord = true := by decide +kernel
theorem clc_9 : tb 81 (.instantiable RX9 15) = true := by decide +kernel
theorem cld_9 : tb 66 (.initialized RX9) = true := by decide +kernel
theorem cle_9 : ∀ k, k < 15 → (fk 9 k = 0 ∧ tyX9 k = .int) ∨ (fk 9 k = 1 ∧ tyX9 k = .long) ∨ (fk 9 k = 2 ∧ refKind (tyX9 k) = true) ∨ (fk 9 k = 3 ∧ tyX9 k = .boolean) := by decide +kernel
theorem cls_9 : ClsOk 9 := ⟨TX9, tyX9, rfl, fun _ => rfl, WT_of _ cla_9 clb_9, tyX9_ok, nmX9, WT_in clc_9 rfl, WT_in cld_9 rfl, cle_9⟩
theorem cla_10 : u_ws RX10 TX10 38 = [952, 954, 956, 958, 960, 962, 964, 966, 968, 970, 972, 974, 976, 978, 980, 982, 984, 986, 988, 990, 992, 994, 996, 998, 1000, 1002, 1004, 1006, 1008, 1010, 1012, 1014, 1016, 1018, 1020, 1022, 1024, 1026].filterMap (fun i => lw_tbl[i]?) := by decide +kernel
theorem clb_10 : (u_ws RX10 TX10 38).all goodWord = true := by decide +kernel
theorem clc_10 : tb 909 (.instantiable RX10 38) = true := by decide +kernel
theorem cld_10 : tb 77 (.initialized RX10) = true := by decide +kernel
theorem cle_10 : ∀ k, k < 38 → (fk 10 k = 0 ∧ tyX10 k = .int) ∨ (fk 10 k = 1 ∧ tyX10 k = .long) ∨ (fk 10 k = 2 ∧ refKind (tyX10 k) = true) ∨ (fk 10 k = 3 ∧ tyX10 k = .boolean) := by decide +kernel
theorem cls_10 : ClsOk 10 := ⟨TX10, tyX10, rfl, fun _ => rfl, WT_of _ cla_10 clb_10, tyX10_ok, nmX10, WT_in clc_10 rfl, WT_in cld_10 rfl, cle_10⟩
theorem cls_all : ∀ ci, ci < 11 → ClsOk ci := lt_s (lt_s (lt_s (lt_s (lt_s (lt_s (lt_s (lt_s (lt_s (lt_s (lt_s lt_0 cls_0) cls_1) cls_2) cls_3) cls_4) cls_5) cls_6) cls_7) cls_8) cls_9) cls_10
end
section
/-! pure numbers and the machine's values: one relation for values, cells, worlds, locals, stacks -/
def adr (ro : Int → Option Nat) (ws : va_W) (r : Int) : Option Nat := if 0 ≤ r then (ws[r.toNat]?).map (fun e => e.1) else ro r
def rrel (ro : Int → Option Nat) (ws : va_W) (v : Value) (r : Int) : Prop := (r = -1 ∧ v = .null) ∨ (r ≠ -1 ∧ ∃ a, v = .ref a ∧ adr ro ws r = some a)
def vrel (ro : Int → Option Nat) (ws : va_W) (v : Value) (pv : PV) : Prop := match pv with
  | Sum.inl x => ∃ c : Int32, v = .int c ∧ c.toInt = x
  | Sum.inr (Sum.inl x) => ∃ c : Int64, v = .long c ∧ c.toInt = x
  | Sum.inr (Sum.inr r) => rrel ro ws v r
def frel (ro : Int → Option Nat) (ws : va_W) (k : Nat) (v : Value) (x : Int) : Prop := ∃ pv, tagd k x = some pv ∧ vrel ro ws v pv
def arI (tys : List (ClassId × FieldType)) (ty : FieldType) (n : Nat) (e : va_E) (f : Int → Int) : Prop := ∃ (cA : ClassId) (g : Nat → Int32) (t0 : Nat), e = .inl (cA, n, .inl g) ∧ tys[t0]? = some (cA, ty) ∧ ∀ j : Nat, j < n → (g j).toInt = f j
def arL (tys : List (ClassId × FieldType)) (n : Nat) (e : va_E) (f : Int → Int) : Prop := ∃ (cA : ClassId) (g : Nat → Int64) (t0 : Nat), e = .inl (cA, n, .inr (.inl g)) ∧ tys[t0]? = some (cA, .long) ∧ ∀ j : Nat, j < n → (g j).toInt = f j
def arR (ro : Int → Option Nat) (ws : va_W) (tys : List (ClassId × FieldType)) (ty : FieldType) (n : Nat) (e : va_E) (f : Int → Int) : Prop := ∃ (cA : ClassId) (g : Nat → Option Nat) (t0 : Nat), e = .inl (cA, n, .inr (.inr (.inr (.inr g)))) ∧ tys[t0]? = some (cA, ty) ∧ ∀ j : Nat, j < n → rrel ro ws (va_rf (g j)) (f j)
def crel (ro : Int → Option Nat) (ws : va_W) (tys : List (ClassId × FieldType)) (s : Nat × Nat) (e : va_E) (f : Int → Int) : Prop := match s.1 with
  | 0 => ∃ fs : List Value, e = .inr (s.2, fs) ∧ s.2 < 11 ∧ fs.length = NT s.2 ∧ ∀ (j : Nat) (v : Value), fs[j]? = some v → frel ro ws (fk s.2 j) v (f j)
  | 1 => arI tys .int s.2 e f
  | 2 => arL tys s.2 e f
  | 3 => arI tys .byte s.2 e f
  | 4 => arI tys .boolean s.2 e f
  | 5 => arR ro ws tys (.object "VotedHill$Strip") s.2 e f
  | 6 => arR ro ws tys (.object "VotedHill$Land") s.2 e f
  | 7 => arR ro ws tys (.array .int) s.2 e f
  | _ => False
def wrel (ro : Int → Option Nat) (tys : List (ClassId × FieldType)) (ws : va_W) (sh : Shp) (w : Hp) : Prop := ws.length = sh.length ∧ ∀ (k : Nat) (s : Nat × Nat) (e : Nat × va_E), sh[k]? = some s → ws[k]? = some e → crel ro ws tys s e.2 (w k)
def lrel (ro : Int → Option Nat) (ws : va_W) (nL : Nat) (ls : Array Slot) (pls : PL) : Prop := ∃ lv, lv_has ls nL lv ∧ pls.length = nL ∧ ∀ (i : Nat) (pv : PV), pls[i]? = some (some pv) → ∃ v, (i, v) ∈ lv ∧ vrel ro ws v pv
def srel (ro : Int → Option Nat) (ws : va_W) : List Value → List PV → Prop
  | [], [] => True
  | v :: vs, q :: qs => vrel ro ws v q ∧ srel ro ws vs qs
  | _, _ => False
/-- the same cells at the same addresses, and perhaps more -/
def ext (ws ws' : va_W) : Prop := ∀ (k : Nat) (e : Nat × va_E), ws[k]? = some e → ∃ e' : Nat × va_E, ws'[k]? = some e' ∧ e'.1 = e.1
theorem ext_rf (ws : va_W) : ext ws ws := fun _ e h => ⟨e, h, rfl⟩
theorem ext_tr {a b c : va_W} (h1 : ext a b) (h2 : ext b c) : ext a c := fun k e h => by
  obtain ⟨e1, q1, r1⟩ := h1 k e h
  obtain ⟨e2, q2, r2⟩ := h2 k e1 q1
  exact ⟨e2, q2, r2.trans r1⟩
theorem ext_app (a b : va_W) : ext a (a ++ b) := fun k e h => ⟨e, by rw [List.getElem?_append_left (List.getElem?_eq_some_iff.mp h).1]; exact h, rfl⟩
theorem ext_set {ws : va_W} {q a : Nat} {e0 e : va_E} (h : ws[q]? = some (a, e0)) : ext ws (ws.set q (a, e)) := by
  intro k x hk
  by_cases hq : q = k
  · subst hq
    refine ⟨(a, e), by rw [List.getElem?_set_self (List.getElem?_eq_some_iff.mp h).1], ?_⟩
    rw [h] at hk
    cases hk
    rfl
  · exact ⟨x, by rw [List.getElem?_set_ne hq]; exact hk, rfl⟩
theorem adr_ext {ro : Int → Option Nat} {ws ws' : va_W} (he : ext ws ws') {r : Int} {a : Nat} (h : adr ro ws r = some a) : adr ro ws' r = some a := by
  unfold adr at h ⊢
  by_cases h0 : 0 ≤ r
  · rw [if_pos h0] at h ⊢
    cases hk : ws[r.toNat]? with
    | none => rw [hk] at h; cases h
    | some x =>
      rw [hk] at h
      obtain ⟨e', q1, q2⟩ := he _ _ hk
      rw [q1]
      show some e'.1 = _
      rw [q2]
      exact h
  · rw [if_neg h0] at h ⊢
    exact h
theorem rrel_ext {ro : Int → Option Nat} {ws ws' : va_W} (he : ext ws ws') {v : Value} {r : Int} (h : rrel ro ws v r) : rrel ro ws' v r := by
  rcases h with h | ⟨h1, a, h2, h3⟩
  · exact Or.inl h
  · exact Or.inr ⟨h1, a, h2, adr_ext he h3⟩
theorem vrel_ext {ro : Int → Option Nat} {ws ws' : va_W} (he : ext ws ws') {v : Value} : ∀ {pv : PV}, vrel ro ws v pv → vrel ro ws' v pv
  | Sum.inl _, h => h
  | Sum.inr (Sum.inl _), h => h
  | Sum.inr (Sum.inr _), h => rrel_ext he h
theorem crel_ext {ro : Int → Option Nat} {ws ws' : va_W} (he : ext ws ws') {tys : List (ClassId × FieldType)} {s : Nat × Nat} {e : va_E} {f : Int → Int} (h : crel ro ws tys s e f) : crel ro ws' tys s e f := by
  obtain ⟨s1, s2⟩ := s
  match s1, h with
  | 0, ⟨fs, h1, h2, h3, h4⟩ => exact ⟨fs, h1, h2, h3, fun j v hj => by obtain ⟨pv, q1, q2⟩ := h4 j v hj; exact ⟨pv, q1, vrel_ext he q2⟩⟩
  | 1, h => exact h
  | 2, h => exact h
  | 3, h => exact h
  | 4, h => exact h
  | 5, ⟨cA, g, t0, h1, h2, h3⟩ => exact ⟨cA, g, t0, h1, h2, fun j hj => rrel_ext he (h3 j hj)⟩
  | 6, ⟨cA, g, t0, h1, h2, h3⟩ => exact ⟨cA, g, t0, h1, h2, fun j hj => rrel_ext he (h3 j hj)⟩
  | 7, ⟨cA, g, t0, h1, h2, h3⟩ => exact ⟨cA, g, t0, h1, h2, fun j hj => rrel_ext he (h3 j hj)⟩
theorem srel_ext {ro : Int → Option Nat} {ws ws' : va_W} (he : ext ws ws') : ∀ {vs : List Value} {qs : List PV}, srel ro ws vs qs → srel ro ws' vs qs
  | [], [], _ => trivial
  | _ :: _, _ :: _, h => ⟨vrel_ext he h.1, srel_ext he h.2⟩
theorem lrel_ext {ro : Int → Option Nat} {ws ws' : va_W} (he : ext ws ws') {nL : Nat} {ls : Array Slot} {pls : PL} (h : lrel ro ws nL ls pls) : lrel ro ws' nL ls pls := by
  obtain ⟨lv, h1, h2, h3⟩ := h
  exact ⟨lv, h1, h2, fun i pv hi => by obtain ⟨v, q1, q2⟩ := h3 i pv hi; exact ⟨v, q1, vrel_ext he q2⟩⟩
theorem srel_cons {ro : Int → Option Nat} {ws : va_W} : ∀ {vs : List Value} {q : PV} {qs : List PV}, srel ro ws vs (q :: qs) → ∃ v vs', vs = v :: vs' ∧ vrel ro ws v q ∧ srel ro ws vs' qs
  | v :: vs, _, _, h => ⟨v, vs, rfl, h.1, h.2⟩
theorem srel_nil {ro : Int → Option Nat} {ws : va_W} : ∀ {vs : List Value}, srel ro ws vs [] → vs = []
  | [], _ => rfl
theorem srel_len {ro : Int → Option Nat} {ws : va_W} : ∀ {vs : List Value} {qs : List PV}, srel ro ws vs qs → vs.length = qs.length
  | [], [], _ => rfl
  | _ :: _, _ :: _, h => by simp [srel_len h.2]
theorem cat_le (v : Value) : v.category ≤ 2 := by cases v <;> simp [Value.category]
theorem cat_sum : ∀ st : List Value, (st.map fun v => v.category).sum ≤ 2 * st.length
  | [] => Nat.le_refl 0
  | v :: st => by
    have h1 := cat_le v
    have h2 := cat_sum st
    simp only [List.map_cons, List.sum_cons, List.length_cons]
    omega
/-- a cell is written: the rest of the world stays -/
theorem wrel_set {ro : Int → Option Nat} {tys : List (ClassId × FieldType)} {ws : va_W} {sh : Shp} {w w' : Hp} {q a : Nat} {e0 e : va_E} {s : Nat × Nat} (h : wrel ro tys ws sh w) (hq : ws[q]? = some (a, e0)) (hs : sh[q]? = some s) (hc : crel ro ws tys s e (w' q)) (ho : ∀ k : Nat, k ≠ q → w' k = w k) : wrel ro tys (ws.set q (a, e)) sh w' := by
  refine ⟨by rw [List.length_set]; exact h.1, fun k s' x hk hx => ?_⟩
  have he : ext ws (ws.set q (a, e)) := ext_set hq
  by_cases hqk : q = k
  · subst hqk
    rw [List.getElem?_set_self (List.getElem?_eq_some_iff.mp hq).1] at hx
    cases hx
    rw [hs] at hk
    cases hk
    exact crel_ext he hc
  · rw [List.getElem?_set_ne hqk] at hx
    rw [ho k (fun z => hqk z.symm)]
    exact crel_ext he (h.2 k s' x hk hx)
/-- what is read only: the script, three static arrays -/
def K3 (j : Nat) : Int := [102, 118, 119, 103, 109, 104].getD j 0
def K4 (j : Nat) : Int := [0, 0, 0, 0, 2, 3].getD j 0
def K5 (j : Nat) : Int := [0, 3, 4, 1, 2].getD j 0
def RW (L : Nat) (xs : Nat → Int32) (w : Hp) : Prop := (w (-2) (-1) = L ∧ ∀ j : Nat, j < L → w (-2) j = (xs j).toInt) ∧ (w (-3) (-1) = 6 ∧ ∀ j : Nat, j < 6 → w (-3) j = K3 j) ∧ (w (-4) (-1) = 6 ∧ ∀ j : Nat, j < 6 → w (-4) j = K4 j) ∧ (w (-5) (-1) = 5 ∧ ∀ j : Nat, j < 5 → w (-5) j = K5 j)
theorem RW.of {L : Nat} {xs : Nat → Int32} {w w' : Hp} (h : RW L xs w) (ho : ∀ a : Int, a < 0 → w' a = w a) : RW L xs w' := by
  unfold RW at h ⊢
  rw [ho (-2) (by decide), ho (-3) (by decide), ho (-4) (by decide), ho (-5) (by decide)]
  exact h
def stO (base : Nat) (C n d : String) (ty : FieldType) (N : Nat) (K : Nat → Int) (r : Option Nat) (U : State) (H : Heap) : Prop := ∃ t, r = some t ∧ va_Z C n d (.ref t) (fun q => base ≤ q) U H ∧ va_T ty t N (fun j => .int (Int32.ofInt (K j))) (fun q => base ≤ q) U H
def Env0 (base L : Nat) (xs : Nat → Int32) (ro : Int → Option Nat) (U : State) (H : Heap) : Prop :=
  (∃ b, ro (-2) = some b ∧ b < base ∧ va_X b L xs U H) ∧ stO base "VotedHill$Reader" "KIND_LETTERS" "[C" .char 6 K3 (ro (-3)) U H ∧ stO base "VotedHill$Land" "WIDER_KIND" "[I" .int 6 K4 (ro (-4)) U H ∧ stO base "VotedHill$Land" "AGAINST" "[I" .int 5 K5 (ro (-5)) U H
  ∧ (∀ a i y h, Cond.methodLinkNest a i y h ∈ lw_tbl → va_Nw (.methodLinkNest a i y h) U) ∧ va_AO "VotedHill$Strip" U ∧ va_AO "VotedHill$Land" U ∧ va_AOA .int U
def Cx (p : Program) (s : State) (m : MethodId) (args : Array Value) (meth : Method) (c : Code) (base L : Nat) (xs : Nat → Int32) (ro : Int → Option Nat) (mi : Nat) : Prop :=
  p.tables.exec = Jvm.exec ∧ c.code = cOf mi ∧ c.maxLocals = mLoc mi ∧ s.vm.findClass (oOf mi) = some m.cls ∧ (∀ w ∈ WT, w.before args s = true) ∧ (mKind mi = 2 → meth.name = "<init>") ∧ base ≤ s.heap.size ∧ L < 2 ^ 31 ∧ Env0 base L xs ro s s.heap
/-- from every state of the machine that the pure state pictures, the machine comes to Q -/
def Sm (p : Program) (l : Launch) (e : Env) (R : Room) (s : State) (m : MethodId) (args : Array Value) (below : List Frame) (meth : Method) (c : Code) (Q : State → Prop) (D : va_G) (base L : Nat) (xs : Nat → Int32) (ro : Int → Option Nat) (mi : Nat) (ws0 : va_W) (cells slots : Nat) (pc : Nat) (pls : PL) (pst : List PV) (sh : Shp) (w : Hp) : Prop :=
  ∀ (H : Heap) (locs : List Loc) (ls : Array Slot) (st : List Value) (ws : va_W) (tys : List (ClassId × FieldType)), ext ws0 ws → va_K D vwCl tys s → va_P D vwCl ws H → va_D (fun q => base ≤ q) ws → va_S (fun q => base ≤ q) s.heap H locs → RW L xs w → wrel ro tys ws sh w → lrel ro ws (mLoc mi) ls pls → srel ro ws st pst → W p l e R s m args below meth c H locs cells slots Q (F0 m pc ls st)
theorem tnc (x : Int32) : x.toNatClampNeg = x.toInt.toNat := rfl
theorem i32_of (z : Int32) : Int32.ofInt z.toInt = z := Int32.ofInt_toInt z
theorem lt32 {a b : Int32} : a < b ↔ a.toInt < b.toInt := Int32.lt_iff_toInt_lt
theorem le32 {a b : Int32} : a ≤ b ↔ a.toInt ≤ b.toInt := Int32.le_iff_toInt_le
theorem eq32 {a b : Int32} : a = b ↔ a.toInt = b.toInt := Int32.toInt_inj.symm

section SIM
variable {p : Program} {l : Launch} {e : Env} {R : Room} {s : State} {m : MethodId} {args : Array Value} {below : List Frame} {meth : Method} {c : Code} {Q : State → Prop} {D : va_G} {base L : Nat} {xs : Nat → Int32} {ro : Int → Option Nat} {mi : Nat} {ws0 : va_W} {cells slots : Nat} {pc : Nat} {pls : PL} {pst : List PV} {sh : Shp} {w : Hp}
theorem sm_iadd (C : Cx p s m args meth c base L xs ro mi) {a b : Int} (hd : decode (cOf mi) pc = .ok (.iadd, 1)) (k : Sm p l e R s m args below meth c Q D base L xs ro mi ws0 cells slots (pc + 1) pls (vI (w32 (a + b)) :: pst) sh w) : Sm p l e R s m args below meth c Q D base L xs ro mi ws0 cells slots pc pls (vI b :: vI a :: pst) sh w := by
  intro H locs ls st ws tys he hK hP hD hS hRW hw hl hs
  obtain ⟨hx, hb, hml, hown, hts, hini, hbs, hL, hE⟩ := C
  have hs' := srel_cons hs
  clear hs
  obtain ⟨v1, st, rfl, ⟨c1, rfl, h1⟩, hs⟩ := hs'
  have hs' := srel_cons hs
  clear hs
  obtain ⟨v2, st, rfl, ⟨c2, rfl, h2⟩, hs⟩ := hs'
  subst h1 h2
  refine lv_iadd hx hb hd ?_
  exact k H locs ls _ ws tys he hK hP hD hS hRW hw hl ⟨⟨_, rfl, Int32.toInt_add _ _⟩, hs⟩
theorem sm_isub (C : Cx p s m args meth c base L xs ro mi) {a b : Int} (hd : decode (cOf mi) pc = .ok (.isub, 1)) (k : Sm p l e R s m args below meth c Q D base L xs ro mi ws0 cells slots (pc + 1) pls (vI (w32 (a - b)) :: pst) sh w) : Sm p l e R s m args below meth c Q D base L xs ro mi ws0 cells slots pc pls (vI b :: vI a :: pst) sh w := by
  intro H locs ls st ws tys he hK hP hD hS hRW hw hl hs
  obtain ⟨hx, hb, hml, hown, hts, hini, hbs, hL, hE⟩ := C
  have hs' := srel_cons hs
  clear hs
  obtain ⟨v1, st, rfl, ⟨c1, rfl, h1⟩, hs⟩ := hs'
  have hs' := srel_cons hs
  clear hs
  obtain ⟨v2, st, rfl, ⟨c2, rfl, h2⟩, hs⟩ := hs'
  subst h1 h2
  refine lv_isub hx hb hd ?_
  exact k H locs ls _ ws tys he hK hP hD hS hRW hw hl ⟨⟨_, rfl, Int32.toInt_sub _ _⟩, hs⟩
theorem sm_imul (C : Cx p s m args meth c base L xs ro mi) {a b : Int} (hd : decode (cOf mi) pc = .ok (.imul, 1)) (k : Sm p l e R s m args below meth c Q D base L xs ro mi ws0 cells slots (pc + 1) pls (vI (w32 (a * b)) :: pst) sh w) : Sm p l e R s m args below meth c Q D base L xs ro mi ws0 cells slots pc pls (vI b :: vI a :: pst) sh w := by
  intro H locs ls st ws tys he hK hP hD hS hRW hw hl hs
  obtain ⟨hx, hb, hml, hown, hts, hini, hbs, hL, hE⟩ := C
  have hs' := srel_cons hs
  clear hs
  obtain ⟨v1, st, rfl, ⟨c1, rfl, h1⟩, hs⟩ := hs'
  have hs' := srel_cons hs
  clear hs
  obtain ⟨v2, st, rfl, ⟨c2, rfl, h2⟩, hs⟩ := hs'
  subst h1 h2
  refine lv_imul hx hb hd ?_
  exact k H locs ls _ ws tys he hK hP hD hS hRW hw hl ⟨⟨_, rfl, Int32.toInt_mul _ _⟩, hs⟩
theorem sm_iand (C : Cx p s m args meth c base L xs ro mi) {a b : Int} (hd : decode (cOf mi) pc = .ok (.iand, 1)) (k : Sm p l e R s m args below meth c Q D base L xs ro mi ws0 cells slots (pc + 1) pls (vI (iAnd a b) :: pst) sh w) : Sm p l e R s m args below meth c Q D base L xs ro mi ws0 cells slots pc pls (vI b :: vI a :: pst) sh w := by
  intro H locs ls st ws tys he hK hP hD hS hRW hw hl hs
  obtain ⟨hx, hb, hml, hown, hts, hini, hbs, hL, hE⟩ := C
  have hs' := srel_cons hs
  clear hs
  obtain ⟨v1, st, rfl, ⟨c1, rfl, h1⟩, hs⟩ := hs'
  have hs' := srel_cons hs
  clear hs
  obtain ⟨v2, st, rfl, ⟨c2, rfl, h2⟩, hs⟩ := hs'
  subst h1 h2
  refine lv_iand hx hb hd ?_
  exact k H locs ls _ ws tys he hK hP hD hS hRW hw hl ⟨⟨_, rfl, by rw [iAnd, i32_of, i32_of]⟩, hs⟩
theorem sm_ior (C : Cx p s m args meth c base L xs ro mi) {a b : Int} (hd : decode (cOf mi) pc = .ok (.ior, 1)) (k : Sm p l e R s m args below meth c Q D base L xs ro mi ws0 cells slots (pc + 1) pls (vI (iOr a b) :: pst) sh w) : Sm p l e R s m args below meth c Q D base L xs ro mi ws0 cells slots pc pls (vI b :: vI a :: pst) sh w := by
  intro H locs ls st ws tys he hK hP hD hS hRW hw hl hs
  obtain ⟨hx, hb, hml, hown, hts, hini, hbs, hL, hE⟩ := C
  have hs' := srel_cons hs
  clear hs
  obtain ⟨v1, st, rfl, ⟨c1, rfl, h1⟩, hs⟩ := hs'
  have hs' := srel_cons hs
  clear hs
  obtain ⟨v2, st, rfl, ⟨c2, rfl, h2⟩, hs⟩ := hs'
  subst h1 h2
  refine lv_ior hx hb hd ?_
  exact k H locs ls _ ws tys he hK hP hD hS hRW hw hl ⟨⟨_, rfl, by rw [iOr, i32_of, i32_of]⟩, hs⟩
theorem sm_ixor (C : Cx p s m args meth c base L xs ro mi) {a b : Int} (hd : decode (cOf mi) pc = .ok (.ixor, 1)) (k : Sm p l e R s m args below meth c Q D base L xs ro mi ws0 cells slots (pc + 1) pls (vI (iXor a b) :: pst) sh w) : Sm p l e R s m args below meth c Q D base L xs ro mi ws0 cells slots pc pls (vI b :: vI a :: pst) sh w := by
  intro H locs ls st ws tys he hK hP hD hS hRW hw hl hs
  obtain ⟨hx, hb, hml, hown, hts, hini, hbs, hL, hE⟩ := C
  have hs' := srel_cons hs
  clear hs
  obtain ⟨v1, st, rfl, ⟨c1, rfl, h1⟩, hs⟩ := hs'
  have hs' := srel_cons hs
  clear hs
  obtain ⟨v2, st, rfl, ⟨c2, rfl, h2⟩, hs⟩ := hs'
  subst h1 h2
  refine lv_ixor hx hb hd ?_
  exact k H locs ls _ ws tys he hK hP hD hS hRW hw hl ⟨⟨_, rfl, by rw [iXor, i32_of, i32_of]⟩, hs⟩
theorem sm_ishl (C : Cx p s m args meth c base L xs ro mi) {a b : Int} (hd : decode (cOf mi) pc = .ok (.ishl, 1)) (k : Sm p l e R s m args below meth c Q D base L xs ro mi ws0 cells slots (pc + 1) pls (vI (iShl a b) :: pst) sh w) : Sm p l e R s m args below meth c Q D base L xs ro mi ws0 cells slots pc pls (vI b :: vI a :: pst) sh w := by
  intro H locs ls st ws tys he hK hP hD hS hRW hw hl hs
  obtain ⟨hx, hb, hml, hown, hts, hini, hbs, hL, hE⟩ := C
  have hs' := srel_cons hs
  clear hs
  obtain ⟨v1, st, rfl, ⟨c1, rfl, h1⟩, hs⟩ := hs'
  have hs' := srel_cons hs
  clear hs
  obtain ⟨v2, st, rfl, ⟨c2, rfl, h2⟩, hs⟩ := hs'
  subst h1 h2
  refine lv_ishl hx hb hd ?_
  exact k H locs ls _ ws tys he hK hP hD hS hRW hw hl ⟨⟨_, rfl, by rw [iShl, i32_of, i32_of]⟩, hs⟩
theorem sm_ishr (C : Cx p s m args meth c base L xs ro mi) {a b : Int} (hd : decode (cOf mi) pc = .ok (.ishr, 1)) (k : Sm p l e R s m args below meth c Q D base L xs ro mi ws0 cells slots (pc + 1) pls (vI (iShr a b) :: pst) sh w) : Sm p l e R s m args below meth c Q D base L xs ro mi ws0 cells slots pc pls (vI b :: vI a :: pst) sh w := by
  intro H locs ls st ws tys he hK hP hD hS hRW hw hl hs
  obtain ⟨hx, hb, hml, hown, hts, hini, hbs, hL, hE⟩ := C
  have hs' := srel_cons hs
  clear hs
  obtain ⟨v1, st, rfl, ⟨c1, rfl, h1⟩, hs⟩ := hs'
  have hs' := srel_cons hs
  clear hs
  obtain ⟨v2, st, rfl, ⟨c2, rfl, h2⟩, hs⟩ := hs'
  subst h1 h2
  refine lv_ishr hx hb hd ?_
  exact k H locs ls _ ws tys he hK hP hD hS hRW hw hl ⟨⟨_, rfl, by rw [iShr, i32_of, i32_of]⟩, hs⟩
theorem sm_iushr (C : Cx p s m args meth c base L xs ro mi) {a b : Int} (hd : decode (cOf mi) pc = .ok (.iushr, 1)) (k : Sm p l e R s m args below meth c Q D base L xs ro mi ws0 cells slots (pc + 1) pls (vI (iUshr a b) :: pst) sh w) : Sm p l e R s m args below meth c Q D base L xs ro mi ws0 cells slots pc pls (vI b :: vI a :: pst) sh w := by
  intro H locs ls st ws tys he hK hP hD hS hRW hw hl hs
  obtain ⟨hx, hb, hml, hown, hts, hini, hbs, hL, hE⟩ := C
  have hs' := srel_cons hs
  clear hs
  obtain ⟨v1, st, rfl, ⟨c1, rfl, h1⟩, hs⟩ := hs'
  have hs' := srel_cons hs
  clear hs
  obtain ⟨v2, st, rfl, ⟨c2, rfl, h2⟩, hs⟩ := hs'
  subst h1 h2
  refine lv_iushr hx hb hd rfl ?_
  exact k H locs ls _ ws tys he hK hP hD hS hRW hw hl ⟨⟨_, rfl, by rw [iUshr, i32_of, i32_of]⟩, hs⟩
theorem sm_idiv (C : Cx p s m args meth c base L xs ro mi) {a b : Int} (hn : ¬ b = 0) (hd : decode (cOf mi) pc = .ok (.idiv, 1)) (k : Sm p l e R s m args below meth c Q D base L xs ro mi ws0 cells slots (pc + 1) pls (vI (iDiv a b) :: pst) sh w) : Sm p l e R s m args below meth c Q D base L xs ro mi ws0 cells slots pc pls (vI b :: vI a :: pst) sh w := by
  intro H locs ls st ws tys he hK hP hD hS hRW hw hl hs
  obtain ⟨hx, hb, hml, hown, hts, hini, hbs, hL, hE⟩ := C
  have hs' := srel_cons hs
  clear hs
  obtain ⟨v1, st, rfl, ⟨c1, rfl, h1⟩, hs⟩ := hs'
  have hs' := srel_cons hs
  clear hs
  obtain ⟨v2, st, rfl, ⟨c2, rfl, h2⟩, hs⟩ := hs'
  subst h1 h2
  refine lv_idiv hx hb hd (fun z => hn (by rw [z]; rfl)) ?_
  exact k H locs ls _ ws tys he hK hP hD hS hRW hw hl ⟨⟨_, rfl, Int32.toInt_div _ _⟩, hs⟩
theorem sm_irem (C : Cx p s m args meth c base L xs ro mi) {a b : Int} (hn : ¬ b = 0) (hd : decode (cOf mi) pc = .ok (.irem, 1)) (k : Sm p l e R s m args below meth c Q D base L xs ro mi ws0 cells slots (pc + 1) pls (vI (iRem a b) :: pst) sh w) : Sm p l e R s m args below meth c Q D base L xs ro mi ws0 cells slots pc pls (vI b :: vI a :: pst) sh w := by
  intro H locs ls st ws tys he hK hP hD hS hRW hw hl hs
  obtain ⟨hx, hb, hml, hown, hts, hini, hbs, hL, hE⟩ := C
  have hs' := srel_cons hs
  clear hs
  obtain ⟨v1, st, rfl, ⟨c1, rfl, h1⟩, hs⟩ := hs'
  have hs' := srel_cons hs
  clear hs
  obtain ⟨v2, st, rfl, ⟨c2, rfl, h2⟩, hs⟩ := hs'
  subst h1 h2
  refine lv_irem hx hb hd (fun z => hn (by rw [z]; rfl)) ?_
  exact k H locs ls _ ws tys he hK hP hD hS hRW hw hl ⟨⟨_, rfl, by rw [Int32.toInt_sub, Int32.toInt_mul, Int32.toInt_div]; rfl⟩, hs⟩
theorem sm_ladd (C : Cx p s m args meth c base L xs ro mi) {a b : Int} (hd : decode (cOf mi) pc = .ok (.ladd, 1)) (k : Sm p l e R s m args below meth c Q D base L xs ro mi ws0 cells slots (pc + 1) pls (vL (w64 (a + b)) :: pst) sh w) : Sm p l e R s m args below meth c Q D base L xs ro mi ws0 cells slots pc pls (vL b :: vL a :: pst) sh w := by
  intro H locs ls st ws tys he hK hP hD hS hRW hw hl hs
  obtain ⟨hx, hb, hml, hown, hts, hini, hbs, hL, hE⟩ := C
  have hs' := srel_cons hs
  clear hs
  obtain ⟨v1, st, rfl, ⟨c1, rfl, h1⟩, hs⟩ := hs'
  have hs' := srel_cons hs
  clear hs
  obtain ⟨v2, st, rfl, ⟨c2, rfl, h2⟩, hs⟩ := hs'
  subst h1 h2
  refine lv_ladd hx hb hd ?_
  exact k H locs ls _ ws tys he hK hP hD hS hRW hw hl ⟨⟨_, rfl, Int64.toInt_add _ _⟩, hs⟩
theorem sm_lmul (C : Cx p s m args meth c base L xs ro mi) {a b : Int} (hd : decode (cOf mi) pc = .ok (.lmul, 1)) (k : Sm p l e R s m args below meth c Q D base L xs ro mi ws0 cells slots (pc + 1) pls (vL (w64 (a * b)) :: pst) sh w) : Sm p l e R s m args below meth c Q D base L xs ro mi ws0 cells slots pc pls (vL b :: vL a :: pst) sh w := by
  intro H locs ls st ws tys he hK hP hD hS hRW hw hl hs
  obtain ⟨hx, hb, hml, hown, hts, hini, hbs, hL, hE⟩ := C
  have hs' := srel_cons hs
  clear hs
  obtain ⟨v1, st, rfl, ⟨c1, rfl, h1⟩, hs⟩ := hs'
  have hs' := srel_cons hs
  clear hs
  obtain ⟨v2, st, rfl, ⟨c2, rfl, h2⟩, hs⟩ := hs'
  subst h1 h2
  refine lv_lmul hx hb hd ?_
  exact k H locs ls _ ws tys he hK hP hD hS hRW hw hl ⟨⟨_, rfl, Int64.toInt_mul _ _⟩, hs⟩
theorem sm_ldiv (C : Cx p s m args meth c base L xs ro mi) {a b : Int} (hn : ¬ b = 0) (hd : decode (cOf mi) pc = .ok (.ldiv, 1)) (k : Sm p l e R s m args below meth c Q D base L xs ro mi ws0 cells slots (pc + 1) pls (vL (lDiv a b) :: pst) sh w) : Sm p l e R s m args below meth c Q D base L xs ro mi ws0 cells slots pc pls (vL b :: vL a :: pst) sh w := by
  intro H locs ls st ws tys he hK hP hD hS hRW hw hl hs
  obtain ⟨hx, hb, hml, hown, hts, hini, hbs, hL, hE⟩ := C
  have hs' := srel_cons hs
  clear hs
  obtain ⟨v1, st, rfl, ⟨c1, rfl, h1⟩, hs⟩ := hs'
  have hs' := srel_cons hs
  clear hs
  obtain ⟨v2, st, rfl, ⟨c2, rfl, h2⟩, hs⟩ := hs'
  subst h1 h2
  refine lv_ldiv hx hb hd (fun z => hn (by rw [z]; rfl)) ?_
  exact k H locs ls _ ws tys he hK hP hD hS hRW hw hl ⟨⟨_, rfl, Int64.toInt_div _ _⟩, hs⟩
theorem sm_lrem (C : Cx p s m args meth c base L xs ro mi) {a b : Int} (hn : ¬ b = 0) (hd : decode (cOf mi) pc = .ok (.lrem, 1)) (k : Sm p l e R s m args below meth c Q D base L xs ro mi ws0 cells slots (pc + 1) pls (vL (lRem a b) :: pst) sh w) : Sm p l e R s m args below meth c Q D base L xs ro mi ws0 cells slots pc pls (vL b :: vL a :: pst) sh w := by
  intro H locs ls st ws tys he hK hP hD hS hRW hw hl hs
  obtain ⟨hx, hb, hml, hown, hts, hini, hbs, hL, hE⟩ := C
  have hs' := srel_cons hs
  clear hs
  obtain ⟨v1, st, rfl, ⟨c1, rfl, h1⟩, hs⟩ := hs'
  have hs' := srel_cons hs
  clear hs
  obtain ⟨v2, st, rfl, ⟨c2, rfl, h2⟩, hs⟩ := hs'
  subst h1 h2
  refine lv_lrem hx hb hd (fun z => hn (by rw [z]; rfl)) ?_
  exact k H locs ls _ ws tys he hK hP hD hS hRW hw hl ⟨⟨_, rfl, by rw [Int64.toInt_sub, Int64.toInt_mul, Int64.toInt_div]; rfl⟩, hs⟩
theorem sm_ineg (C : Cx p s m args meth c base L xs ro mi) {a : Int} (hd : decode (cOf mi) pc = .ok (.ineg, 1)) (k : Sm p l e R s m args below meth c Q D base L xs ro mi ws0 cells slots (pc + 1) pls (vI (w32 (-a)) :: pst) sh w) : Sm p l e R s m args below meth c Q D base L xs ro mi ws0 cells slots pc pls (vI a :: pst) sh w := by
  intro H locs ls st ws tys he hK hP hD hS hRW hw hl hs
  obtain ⟨hx, hb, hml, hown, hts, hini, hbs, hL, hE⟩ := C
  have hs' := srel_cons hs
  clear hs
  obtain ⟨v1, st, rfl, ⟨c1, rfl, h1⟩, hs⟩ := hs'
  subst h1
  refine lv_ineg hx hb hd ?_
  exact k H locs ls _ ws tys he hK hP hD hS hRW hw hl ⟨⟨_, rfl, Int32.toInt_neg _⟩, hs⟩
theorem sm_i2l (C : Cx p s m args meth c base L xs ro mi) {a : Int} (hd : decode (cOf mi) pc = .ok (.i2l, 1)) (k : Sm p l e R s m args below meth c Q D base L xs ro mi ws0 cells slots (pc + 1) pls (vL a :: pst) sh w) : Sm p l e R s m args below meth c Q D base L xs ro mi ws0 cells slots pc pls (vI a :: pst) sh w := by
  intro H locs ls st ws tys he hK hP hD hS hRW hw hl hs
  obtain ⟨hx, hb, hml, hown, hts, hini, hbs, hL, hE⟩ := C
  have hs' := srel_cons hs
  clear hs
  obtain ⟨v1, st, rfl, ⟨c1, rfl, h1⟩, hs⟩ := hs'
  subst h1
  refine lv_i2l hx hb hd rfl ?_
  exact k H locs ls _ ws tys he hK hP hD hS hRW hw hl ⟨⟨_, rfl, Int32.toInt_toInt64 _⟩, hs⟩
theorem sm_l2i (C : Cx p s m args meth c base L xs ro mi) {a : Int} (hd : decode (cOf mi) pc = .ok (.l2i, 1)) (k : Sm p l e R s m args below meth c Q D base L xs ro mi ws0 cells slots (pc + 1) pls (vI (w32 a) :: pst) sh w) : Sm p l e R s m args below meth c Q D base L xs ro mi ws0 cells slots pc pls (vL a :: pst) sh w := by
  intro H locs ls st ws tys he hK hP hD hS hRW hw hl hs
  obtain ⟨hx, hb, hml, hown, hts, hini, hbs, hL, hE⟩ := C
  have hs' := srel_cons hs
  clear hs
  obtain ⟨v1, st, rfl, ⟨c1, rfl, h1⟩, hs⟩ := hs'
  subst h1
  refine lv_l2i hx hb hd rfl ?_
  exact k H locs ls _ ws tys he hK hP hD hS hRW hw hl ⟨⟨_, rfl, Int64.toInt_toInt32 _⟩, hs⟩
theorem sm_i2b (C : Cx p s m args meth c base L xs ro mi) {a : Int} (hd : decode (cOf mi) pc = .ok (.i2b, 1)) (k : Sm p l e R s m args below meth c Q D base L xs ro mi ws0 cells slots (pc + 1) pls (vI (iB a) :: pst) sh w) : Sm p l e R s m args below meth c Q D base L xs ro mi ws0 cells slots pc pls (vI a :: pst) sh w := by
  intro H locs ls st ws tys he hK hP hD hS hRW hw hl hs
  obtain ⟨hx, hb, hml, hown, hts, hini, hbs, hL, hE⟩ := C
  have hs' := srel_cons hs
  clear hs
  obtain ⟨v1, st, rfl, ⟨c1, rfl, h1⟩, hs⟩ := hs'
  subst h1
  refine lv_i2b hx hb hd rfl ?_
  exact k H locs ls _ ws tys he hK hP hD hS hRW hw hl ⟨⟨_, rfl, by rw [Int8.toInt_toInt32, Int32.toInt_toInt8]; rfl⟩, hs⟩
theorem sm_pop (C : Cx p s m args meth c base L xs ro mi) {a : Int} (hd : decode (cOf mi) pc = .ok (.pop, 1)) (k : Sm p l e R s m args below meth c Q D base L xs ro mi ws0 cells slots (pc + 1) pls pst sh w) : Sm p l e R s m args below meth c Q D base L xs ro mi ws0 cells slots pc pls (vI a :: pst) sh w := by
  intro H locs ls st ws tys he hK hP hD hS hRW hw hl hs
  obtain ⟨hx, hb, hml, hown, hts, hini, hbs, hL, hE⟩ := C
  have hs' := srel_cons hs
  clear hs
  obtain ⟨v1, st, rfl, ⟨c1, rfl, h1⟩, hs⟩ := hs'
  subst h1
  refine lv_pop hx hb hd rfl ?_
  exact k H locs ls _ ws tys he hK hP hD hS hRW hw hl hs
theorem sm_iconst (C : Cx p s m args meth c base L xs ro mi) {n : Int} (hd : decode (cOf mi) pc = .ok (.iconst n, 1)) (k : Sm p l e R s m args below meth c Q D base L xs ro mi ws0 cells slots (pc + 1) pls (vI (w32 n) :: pst) sh w) : Sm p l e R s m args below meth c Q D base L xs ro mi ws0 cells slots pc pls (pst) sh w := by
  intro H locs ls st ws tys he hK hP hD hS hRW hw hl hs
  obtain ⟨hx, hb, hml, hown, hts, hini, hbs, hL, hE⟩ := C
  refine lv_iconst hx hb hd rfl ?_
  exact k H locs ls _ ws tys he hK hP hD hS hRW hw hl ⟨⟨_, rfl, Int32.toInt_ofInt⟩, hs⟩
theorem sm_bipush (C : Cx p s m args meth c base L xs ro mi) {n : Int} (hd : decode (cOf mi) pc = .ok (.bipush n, 2)) (k : Sm p l e R s m args below meth c Q D base L xs ro mi ws0 cells slots (pc + 2) pls (vI (iB n) :: pst) sh w) : Sm p l e R s m args below meth c Q D base L xs ro mi ws0 cells slots pc pls (pst) sh w := by
  intro H locs ls st ws tys he hK hP hD hS hRW hw hl hs
  obtain ⟨hx, hb, hml, hown, hts, hini, hbs, hL, hE⟩ := C
  refine lv_bipush hx hb hd rfl ?_
  exact k H locs ls _ ws tys he hK hP hD hS hRW hw hl ⟨⟨_, rfl, by rw [Int8.toInt_toInt32, Int8.toInt_ofInt]; rfl⟩, hs⟩
theorem sm_sipush (C : Cx p s m args meth c base L xs ro mi) {n : Int} (hd : decode (cOf mi) pc = .ok (.sipush n, 3)) (k : Sm p l e R s m args below meth c Q D base L xs ro mi ws0 cells slots (pc + 3) pls (vI (Int.bmod n 65536) :: pst) sh w) : Sm p l e R s m args below meth c Q D base L xs ro mi ws0 cells slots pc pls (pst) sh w := by
  intro H locs ls st ws tys he hK hP hD hS hRW hw hl hs
  obtain ⟨hx, hb, hml, hown, hts, hini, hbs, hL, hE⟩ := C
  refine lv_sipush hx hb hd rfl ?_
  exact k H locs ls _ ws tys he hK hP hD hS hRW hw hl ⟨⟨_, rfl, by rw [Int16.toInt_toInt32, Int16.toInt_ofInt]⟩, hs⟩
theorem sm_ldc (C : Cx p s m args meth c base L xs ro mi) {x : Int} {i : Nat} (hm : Cond.constant (oOf mi) i (Int32.ofInt x) ∈ WT) (hd : decode (cOf mi) pc = .ok (.ldc i, 2)) (k : Sm p l e R s m args below meth c Q D base L xs ro mi ws0 cells slots (pc + 2) pls (vI (w32 x) :: pst) sh w) : Sm p l e R s m args below meth c Q D base L xs ro mi ws0 cells slots pc pls (pst) sh w := by
  intro H locs ls st ws tys he hK hP hD hS hRW hw hl hs
  obtain ⟨hx, hb, hml, hown, hts, hini, hbs, hL, hE⟩ := C
  refine lv_ldc hx hb hown (hts _ hm) hd ?_
  exact k H locs ls _ ws tys he hK hP hD hS hRW hw hl ⟨⟨_, rfl, Int32.toInt_ofInt⟩, hs⟩
theorem sm_ldc_w (C : Cx p s m args meth c base L xs ro mi) {x : Int} {i : Nat} (hm : Cond.constant (oOf mi) i (Int32.ofInt x) ∈ WT) (hd : decode (cOf mi) pc = .ok (.ldc_w i, 3)) (k : Sm p l e R s m args below meth c Q D base L xs ro mi ws0 cells slots (pc + 3) pls (vI (w32 x) :: pst) sh w) : Sm p l e R s m args below meth c Q D base L xs ro mi ws0 cells slots pc pls (pst) sh w := by
  intro H locs ls st ws tys he hK hP hD hS hRW hw hl hs
  obtain ⟨hx, hb, hml, hown, hts, hini, hbs, hL, hE⟩ := C
  refine lv_ldcw hx hb hown (hts _ hm) hd ?_
  exact k H locs ls _ ws tys he hK hP hD hS hRW hw hl ⟨⟨_, rfl, Int32.toInt_ofInt⟩, hs⟩
theorem sm_ldc2_w (C : Cx p s m args meth c base L xs ro mi) {x : Int} {i : Nat} (hm : Cond.constantLong (oOf mi) i (Int64.ofInt x) ∈ WT) (hd : decode (cOf mi) pc = .ok (.ldc2_w i, 3)) (k : Sm p l e R s m args below meth c Q D base L xs ro mi ws0 cells slots (pc + 3) pls (vL (w64 x) :: pst) sh w) : Sm p l e R s m args below meth c Q D base L xs ro mi ws0 cells slots pc pls (pst) sh w := by
  intro H locs ls st ws tys he hK hP hD hS hRW hw hl hs
  obtain ⟨hx, hb, hml, hown, hts, hini, hbs, hL, hE⟩ := C
  refine lv_ldc2 hx hb hown (hts _ hm) hd ?_
  exact k H locs ls _ ws tys he hK hP hD hS hRW hw hl ⟨⟨_, rfl, Int64.toInt_ofInt⟩, hs⟩
theorem sm_lconst (C : Cx p s m args meth c base L xs ro mi) {n : Fin 2} (hd : decode (cOf mi) pc = .ok (.lconst n, 1)) (k : Sm p l e R s m args below meth c Q D base L xs ro mi ws0 cells slots (pc + 1) pls (vL n.val :: pst) sh w) : Sm p l e R s m args below meth c Q D base L xs ro mi ws0 cells slots pc pls (pst) sh w := by
  intro H locs ls st ws tys he hK hP hD hS hRW hw hl hs
  obtain ⟨hx, hb, hml, hown, hts, hini, hbs, hL, hE⟩ := C
  refine lv_lconst hx hb hd rfl ?_
  exact k H locs ls _ ws tys he hK hP hD hS hRW hw hl ⟨⟨_, rfl, by rcases n with ⟨_ | _ | n, h⟩ <;> first | rfl | omega⟩, hs⟩
theorem sm_null (C : Cx p s m args meth c base L xs ro mi) (hd : decode (cOf mi) pc = .ok (.aconst_null, 1)) (k : Sm p l e R s m args below meth c Q D base L xs ro mi ws0 cells slots (pc + 1) pls (vR (-1) :: pst) sh w) : Sm p l e R s m args below meth c Q D base L xs ro mi ws0 cells slots pc pls (pst) sh w := by
  intro H locs ls st ws tys he hK hP hD hS hRW hw hl hs
  obtain ⟨hx, hb, hml, hown, hts, hini, hbs, hL, hE⟩ := C
  refine lv_null hx hb hd ?_
  exact k H locs ls _ ws tys he hK hP hD hS hRW hw hl ⟨Or.inl ⟨rfl, rfl⟩, hs⟩
theorem sm_dupI (C : Cx p s m args meth c base L xs ro mi) {a : Int} (hd : decode (cOf mi) pc = .ok (.dup, 1)) (k : Sm p l e R s m args below meth c Q D base L xs ro mi ws0 cells slots (pc + 1) pls (vI a :: vI a :: pst) sh w) : Sm p l e R s m args below meth c Q D base L xs ro mi ws0 cells slots pc pls (vI a :: pst) sh w := by
  intro H locs ls st ws tys he hK hP hD hS hRW hw hl hs
  obtain ⟨hx, hb, hml, hown, hts, hini, hbs, hL, hE⟩ := C
  have hs' := srel_cons hs
  clear hs
  obtain ⟨v1, st, rfl, ⟨c1, rfl, h1⟩, hs⟩ := hs'
  refine lv_dup hx hb hd rfl ?_
  exact k H locs ls _ ws tys he hK hP hD hS hRW hw hl ⟨⟨c1, rfl, h1⟩, ⟨c1, rfl, h1⟩, hs⟩
theorem sm_dupR (C : Cx p s m args meth c base L xs ro mi) {a : Int} (hd : decode (cOf mi) pc = .ok (.dup, 1)) (k : Sm p l e R s m args below meth c Q D base L xs ro mi ws0 cells slots (pc + 1) pls (vR a :: vR a :: pst) sh w) : Sm p l e R s m args below meth c Q D base L xs ro mi ws0 cells slots pc pls (vR a :: pst) sh w := by
  intro H locs ls st ws tys he hK hP hD hS hRW hw hl hs
  obtain ⟨hx, hb, hml, hown, hts, hini, hbs, hL, hE⟩ := C
  have hs' := srel_cons hs
  clear hs
  obtain ⟨v1, st, rfl, h1, hs⟩ := hs'
  refine lv_dup hx hb hd (by rcases h1 with ⟨-, h⟩ | ⟨-, a, h, -⟩ <;> rw [h] <;> rfl) ?_
  exact k H locs ls _ ws tys he hK hP hD hS hRW hw hl ⟨h1, h1, hs⟩
theorem sm_dup2 (C : Cx p s m args meth c base L xs ro mi) {a b : Int} (hd : decode (cOf mi) pc = .ok (.dup2, 1)) (k : Sm p l e R s m args below meth c Q D base L xs ro mi ws0 cells slots (pc + 1) pls (vI a :: vR b :: vI a :: vR b :: pst) sh w) : Sm p l e R s m args below meth c Q D base L xs ro mi ws0 cells slots pc pls (vI a :: vR b :: pst) sh w := by
  intro H locs ls st ws tys he hK hP hD hS hRW hw hl hs
  obtain ⟨hx, hb, hml, hown, hts, hini, hbs, hL, hE⟩ := C
  have hs' := srel_cons hs
  clear hs
  obtain ⟨v1, st, rfl, ⟨c1, rfl, h1⟩, hs⟩ := hs'
  have hs' := srel_cons hs
  clear hs
  obtain ⟨v2, st, rfl, h2, hs⟩ := hs'
  refine lv_dup2_11 hx hb hd rfl (by rcases h2 with ⟨-, h⟩ | ⟨-, a, h, -⟩ <;> rw [h] <;> rfl) ?_
  exact k H locs ls _ ws tys he hK hP hD hS hRW hw hl ⟨⟨c1, rfl, h1⟩, h2, ⟨c1, rfl, h1⟩, h2, hs⟩
theorem sm_lcmp (C : Cx p s m args meth c base L xs ro mi) {a b : Int} (hd : decode (cOf mi) pc = .ok (.lcmp, 1)) (k : Sm p l e R s m args below meth c Q D base L xs ro mi ws0 cells slots (pc + 1) pls (vI (lCmp a b) :: pst) sh w) : Sm p l e R s m args below meth c Q D base L xs ro mi ws0 cells slots pc pls (vL b :: vL a :: pst) sh w := by
  intro H locs ls st ws tys he hK hP hD hS hRW hw hl hs
  obtain ⟨hx, hb, hml, hown, hts, hini, hbs, hL, hE⟩ := C
  have hs' := srel_cons hs
  clear hs
  obtain ⟨v1, st, rfl, ⟨c1, rfl, h1⟩, hs⟩ := hs'
  have hs' := srel_cons hs
  clear hs
  obtain ⟨v2, st, rfl, ⟨c2, rfl, h2⟩, hs⟩ := hs'
  subst h1 h2
  refine W.lcmp hx hb hd ?_
  refine k H locs ls _ ws tys he hK hP hD hS hRW hw hl ⟨⟨_, rfl, ?_⟩, hs⟩
  unfold lCmp lg_cmp
  simp only [gt_iff_lt, Int64.lt_iff_toInt_lt, ← Int64.toInt_inj]
  by_cases h1 : c1.toInt < c2.toInt
  · rw [if_pos h1, if_neg (by omega), if_neg (by omega)]
    rfl
  · rw [if_neg h1]
    by_cases h2 : c2.toInt < c1.toInt
    · rw [if_neg (by omega), if_pos h2]
      rfl
    · rw [if_pos (by omega), if_neg h2, if_pos (by omega)]
      rfl
theorem sm_if_eq (C : Cx p s m args meth c base L xs ro mi) {a x : Int} {off : Int} (hd : decode (cOf mi) pc = .ok (.ifCond .eq off, 3)) (ht : (pc : Int) + off = x ∧ 0 ≤ x) (k : Sm p l e R s m args below meth c Q D base L xs ro mi ws0 cells slots (tgt (a = 0) x (pc + 3)) pls pst sh w) : Sm p l e R s m args below meth c Q D base L xs ro mi ws0 cells slots pc pls (vI a :: pst) sh w := by
  intro H locs ls st ws tys he hK hP hD hS hRW hw hl hs
  obtain ⟨hx, hb, hml, hown, hts, hini, hbs, hL, hE⟩ := C
  have hs' := srel_cons hs
  clear hs
  obtain ⟨v1, st, rfl, ⟨c1, rfl, h1⟩, hs⟩ := hs'
  subst h1
  have hq : (c1 = 0) ↔ (c1.toInt = 0) := eq32
  refine lv_if_eq (tgt := x.toNat) hx hb hd (by omega) (fun z => ?_) (fun z => ?_)
  · rw [tgt, if_pos (hq.mp z)] at k
    exact k H locs ls _ ws tys he hK hP hD hS hRW hw hl hs
  · rw [tgt, if_neg (fun q => z (hq.mpr q))] at k
    exact k H locs ls _ ws tys he hK hP hD hS hRW hw hl hs
theorem sm_icmp_eq (C : Cx p s m args meth c base L xs ro mi) {a b x : Int} {off : Int} (hd : decode (cOf mi) pc = .ok (.if_icmp .eq off, 3)) (ht : (pc : Int) + off = x ∧ 0 ≤ x) (k : Sm p l e R s m args below meth c Q D base L xs ro mi ws0 cells slots (tgt (a = b) x (pc + 3)) pls pst sh w) : Sm p l e R s m args below meth c Q D base L xs ro mi ws0 cells slots pc pls (vI b :: vI a :: pst) sh w := by
  intro H locs ls st ws tys he hK hP hD hS hRW hw hl hs
  obtain ⟨hx, hb, hml, hown, hts, hini, hbs, hL, hE⟩ := C
  have hs' := srel_cons hs
  clear hs
  obtain ⟨v1, st, rfl, ⟨c1, rfl, h1⟩, hs⟩ := hs'
  have hs' := srel_cons hs
  clear hs
  obtain ⟨v2, st, rfl, ⟨c2, rfl, h2⟩, hs⟩ := hs'
  subst h1 h2
  have hq : (c2 = c1) ↔ (c2.toInt = c1.toInt) := eq32
  refine lv_icmp_eq (tgt := x.toNat) hx hb hd (by omega) (fun z => ?_) (fun z => ?_)
  · rw [tgt, if_pos (hq.mp z)] at k
    exact k H locs ls _ ws tys he hK hP hD hS hRW hw hl hs
  · rw [tgt, if_neg (fun q => z (hq.mpr q))] at k
    exact k H locs ls _ ws tys he hK hP hD hS hRW hw hl hs
theorem sm_if_ne (C : Cx p s m args meth c base L xs ro mi) {a x : Int} {off : Int} (hd : decode (cOf mi) pc = .ok (.ifCond .ne off, 3)) (ht : (pc : Int) + off = x ∧ 0 ≤ x) (k : Sm p l e R s m args below meth c Q D base L xs ro mi ws0 cells slots (tgt (a ≠ 0) x (pc + 3)) pls pst sh w) : Sm p l e R s m args below meth c Q D base L xs ro mi ws0 cells slots pc pls (vI a :: pst) sh w := by
  intro H locs ls st ws tys he hK hP hD hS hRW hw hl hs
  obtain ⟨hx, hb, hml, hown, hts, hini, hbs, hL, hE⟩ := C
  have hs' := srel_cons hs
  clear hs
  obtain ⟨v1, st, rfl, ⟨c1, rfl, h1⟩, hs⟩ := hs'
  subst h1
  have hq : (¬ c1 = 0) ↔ (c1.toInt ≠ 0) := not_congr eq32
  refine lv_if_ne (tgt := x.toNat) hx hb hd (by omega) (fun z => ?_) (fun z => ?_)
  · rw [tgt, if_pos (hq.mp z)] at k
    exact k H locs ls _ ws tys he hK hP hD hS hRW hw hl hs
  · rw [tgt, if_neg (fun q => (hq.mpr q) z)] at k
    exact k H locs ls _ ws tys he hK hP hD hS hRW hw hl hs
theorem sm_icmp_ne (C : Cx p s m args meth c base L xs ro mi) {a b x : Int} {off : Int} (hd : decode (cOf mi) pc = .ok (.if_icmp .ne off, 3)) (ht : (pc : Int) + off = x ∧ 0 ≤ x) (k : Sm p l e R s m args below meth c Q D base L xs ro mi ws0 cells slots (tgt (a ≠ b) x (pc + 3)) pls pst sh w) : Sm p l e R s m args below meth c Q D base L xs ro mi ws0 cells slots pc pls (vI b :: vI a :: pst) sh w := by
  intro H locs ls st ws tys he hK hP hD hS hRW hw hl hs
  obtain ⟨hx, hb, hml, hown, hts, hini, hbs, hL, hE⟩ := C
  have hs' := srel_cons hs
  clear hs
  obtain ⟨v1, st, rfl, ⟨c1, rfl, h1⟩, hs⟩ := hs'
  have hs' := srel_cons hs
  clear hs
  obtain ⟨v2, st, rfl, ⟨c2, rfl, h2⟩, hs⟩ := hs'
  subst h1 h2
  have hq : (¬ c2 = c1) ↔ (c2.toInt ≠ c1.toInt) := not_congr eq32
  refine lv_icmp_ne (tgt := x.toNat) hx hb hd (by omega) (fun z => ?_) (fun z => ?_)
  · rw [tgt, if_pos (hq.mp z)] at k
    exact k H locs ls _ ws tys he hK hP hD hS hRW hw hl hs
  · rw [tgt, if_neg (fun q => (hq.mpr q) z)] at k
    exact k H locs ls _ ws tys he hK hP hD hS hRW hw hl hs
theorem sm_if_lt (C : Cx p s m args meth c base L xs ro mi) {a x : Int} {off : Int} (hd : decode (cOf mi) pc = .ok (.ifCond .lt off, 3)) (ht : (pc : Int) + off = x ∧ 0 ≤ x) (k : Sm p l e R s m args below meth c Q D base L xs ro mi ws0 cells slots (tgt (a < 0) x (pc + 3)) pls pst sh w) : Sm p l e R s m args below meth c Q D base L xs ro mi ws0 cells slots pc pls (vI a :: pst) sh w := by
  intro H locs ls st ws tys he hK hP hD hS hRW hw hl hs
  obtain ⟨hx, hb, hml, hown, hts, hini, hbs, hL, hE⟩ := C
  have hs' := srel_cons hs
  clear hs
  obtain ⟨v1, st, rfl, ⟨c1, rfl, h1⟩, hs⟩ := hs'
  subst h1
  have hq : (c1 < 0) ↔ (c1.toInt < 0) := lt32
  refine lv_if_lt (tgt := x.toNat) hx hb hd (by omega) (fun z => ?_) (fun z => ?_)
  · rw [tgt, if_pos (hq.mp z)] at k
    exact k H locs ls _ ws tys he hK hP hD hS hRW hw hl hs
  · rw [tgt, if_neg (fun q => z (hq.mpr q))] at k
    exact k H locs ls _ ws tys he hK hP hD hS hRW hw hl hs
theorem sm_icmp_lt (C : Cx p s m args meth c base L xs ro mi) {a b x : Int} {off : Int} (hd : decode (cOf mi) pc = .ok (.if_icmp .lt off, 3)) (ht : (pc : Int) + off = x ∧ 0 ≤ x) (k : Sm p l e R s m args below meth c Q D base L xs ro mi ws0 cells slots (tgt (a < b) x (pc + 3)) pls pst sh w) : Sm p l e R s m args below meth c Q D base L xs ro mi ws0 cells slots pc pls (vI b :: vI a :: pst) sh w := by
  intro H locs ls st ws tys he hK hP hD hS hRW hw hl hs
  obtain ⟨hx, hb, hml, hown, hts, hini, hbs, hL, hE⟩ := C
  have hs' := srel_cons hs
  clear hs
  obtain ⟨v1, st, rfl, ⟨c1, rfl, h1⟩, hs⟩ := hs'
  have hs' := srel_cons hs
  clear hs
  obtain ⟨v2, st, rfl, ⟨c2, rfl, h2⟩, hs⟩ := hs'
  subst h1 h2
  have hq : (c2 < c1) ↔ (c2.toInt < c1.toInt) := lt32
  refine lv_icmp_lt (tgt := x.toNat) hx hb hd (by omega) (fun z => ?_) (fun z => ?_)
  · rw [tgt, if_pos (hq.mp z)] at k
    exact k H locs ls _ ws tys he hK hP hD hS hRW hw hl hs
  · rw [tgt, if_neg (fun q => z (hq.mpr q))] at k
    exact k H locs ls _ ws tys he hK hP hD hS hRW hw hl hs
theorem sm_if_ge (C : Cx p s m args meth c base L xs ro mi) {a x : Int} {off : Int} (hd : decode (cOf mi) pc = .ok (.ifCond .ge off, 3)) (ht : (pc : Int) + off = x ∧ 0 ≤ x) (k : Sm p l e R s m args below meth c Q D base L xs ro mi ws0 cells slots (tgt (0 ≤ a) x (pc + 3)) pls pst sh w) : Sm p l e R s m args below meth c Q D base L xs ro mi ws0 cells slots pc pls (vI a :: pst) sh w := by
  intro H locs ls st ws tys he hK hP hD hS hRW hw hl hs
  obtain ⟨hx, hb, hml, hown, hts, hini, hbs, hL, hE⟩ := C
  have hs' := srel_cons hs
  clear hs
  obtain ⟨v1, st, rfl, ⟨c1, rfl, h1⟩, hs⟩ := hs'
  subst h1
  have hq : (0 ≤ c1) ↔ (0 ≤ c1.toInt) := le32
  refine lv_if_ge (tgt := x.toNat) hx hb hd (by omega) (fun z => ?_) (fun z => ?_)
  · rw [tgt, if_pos (hq.mp z)] at k
    exact k H locs ls _ ws tys he hK hP hD hS hRW hw hl hs
  · rw [tgt, if_neg (fun q => z (hq.mpr q))] at k
    exact k H locs ls _ ws tys he hK hP hD hS hRW hw hl hs
theorem sm_icmp_ge (C : Cx p s m args meth c base L xs ro mi) {a b x : Int} {off : Int} (hd : decode (cOf mi) pc = .ok (.if_icmp .ge off, 3)) (ht : (pc : Int) + off = x ∧ 0 ≤ x) (k : Sm p l e R s m args below meth c Q D base L xs ro mi ws0 cells slots (tgt (b ≤ a) x (pc + 3)) pls pst sh w) : Sm p l e R s m args below meth c Q D base L xs ro mi ws0 cells slots pc pls (vI b :: vI a :: pst) sh w := by
  intro H locs ls st ws tys he hK hP hD hS hRW hw hl hs
  obtain ⟨hx, hb, hml, hown, hts, hini, hbs, hL, hE⟩ := C
  have hs' := srel_cons hs
  clear hs
  obtain ⟨v1, st, rfl, ⟨c1, rfl, h1⟩, hs⟩ := hs'
  have hs' := srel_cons hs
  clear hs
  obtain ⟨v2, st, rfl, ⟨c2, rfl, h2⟩, hs⟩ := hs'
  subst h1 h2
  have hq : (c1 ≤ c2) ↔ (c1.toInt ≤ c2.toInt) := le32
  refine lv_icmp_ge (tgt := x.toNat) hx hb hd (by omega) (fun z => ?_) (fun z => ?_)
  · rw [tgt, if_pos (hq.mp z)] at k
    exact k H locs ls _ ws tys he hK hP hD hS hRW hw hl hs
  · rw [tgt, if_neg (fun q => z (hq.mpr q))] at k
    exact k H locs ls _ ws tys he hK hP hD hS hRW hw hl hs
theorem sm_if_gt (C : Cx p s m args meth c base L xs ro mi) {a x : Int} {off : Int} (hd : decode (cOf mi) pc = .ok (.ifCond .gt off, 3)) (ht : (pc : Int) + off = x ∧ 0 ≤ x) (k : Sm p l e R s m args below meth c Q D base L xs ro mi ws0 cells slots (tgt (0 < a) x (pc + 3)) pls pst sh w) : Sm p l e R s m args below meth c Q D base L xs ro mi ws0 cells slots pc pls (vI a :: pst) sh w := by
  intro H locs ls st ws tys he hK hP hD hS hRW hw hl hs
  obtain ⟨hx, hb, hml, hown, hts, hini, hbs, hL, hE⟩ := C
  have hs' := srel_cons hs
  clear hs
  obtain ⟨v1, st, rfl, ⟨c1, rfl, h1⟩, hs⟩ := hs'
  subst h1
  have hq : (0 < c1) ↔ (0 < c1.toInt) := lt32
  refine lv_if_gt (tgt := x.toNat) hx hb hd (by omega) (fun z => ?_) (fun z => ?_)
  · rw [tgt, if_pos (hq.mp z)] at k
    exact k H locs ls _ ws tys he hK hP hD hS hRW hw hl hs
  · rw [tgt, if_neg (fun q => z (hq.mpr q))] at k
    exact k H locs ls _ ws tys he hK hP hD hS hRW hw hl hs
theorem sm_icmp_gt (C : Cx p s m args meth c base L xs ro mi) {a b x : Int} {off : Int} (hd : decode (cOf mi) pc = .ok (.if_icmp .gt off, 3)) (ht : (pc : Int) + off = x ∧ 0 ≤ x) (k : Sm p l e R s m args below meth c Q D base L xs ro mi ws0 cells slots (tgt (b < a) x (pc + 3)) pls pst sh w) : Sm p l e R s m args below meth c Q D base L xs ro mi ws0 cells slots pc pls (vI b :: vI a :: pst) sh w := by
  intro H locs ls st ws tys he hK hP hD hS hRW hw hl hs
  obtain ⟨hx, hb, hml, hown, hts, hini, hbs, hL, hE⟩ := C
  have hs' := srel_cons hs
  clear hs
  obtain ⟨v1, st, rfl, ⟨c1, rfl, h1⟩, hs⟩ := hs'
  have hs' := srel_cons hs
  clear hs
  obtain ⟨v2, st, rfl, ⟨c2, rfl, h2⟩, hs⟩ := hs'
  subst h1 h2
  have hq : (c1 < c2) ↔ (c1.toInt < c2.toInt) := lt32
  refine lv_icmp_gt (tgt := x.toNat) hx hb hd (by omega) (fun z => ?_) (fun z => ?_)
  · rw [tgt, if_pos (hq.mp z)] at k
    exact k H locs ls _ ws tys he hK hP hD hS hRW hw hl hs
  · rw [tgt, if_neg (fun q => z (hq.mpr q))] at k
    exact k H locs ls _ ws tys he hK hP hD hS hRW hw hl hs
theorem sm_if_le (C : Cx p s m args meth c base L xs ro mi) {a x : Int} {off : Int} (hd : decode (cOf mi) pc = .ok (.ifCond .le off, 3)) (ht : (pc : Int) + off = x ∧ 0 ≤ x) (k : Sm p l e R s m args below meth c Q D base L xs ro mi ws0 cells slots (tgt (a ≤ 0) x (pc + 3)) pls pst sh w) : Sm p l e R s m args below meth c Q D base L xs ro mi ws0 cells slots pc pls (vI a :: pst) sh w := by
  intro H locs ls st ws tys he hK hP hD hS hRW hw hl hs
  obtain ⟨hx, hb, hml, hown, hts, hini, hbs, hL, hE⟩ := C
  have hs' := srel_cons hs
  clear hs
  obtain ⟨v1, st, rfl, ⟨c1, rfl, h1⟩, hs⟩ := hs'
  subst h1
  have hq : (c1 ≤ 0) ↔ (c1.toInt ≤ 0) := le32
  refine lv_if_le (tgt := x.toNat) hx hb hd (by omega) (fun z => ?_) (fun z => ?_)
  · rw [tgt, if_pos (hq.mp z)] at k
    exact k H locs ls _ ws tys he hK hP hD hS hRW hw hl hs
  · rw [tgt, if_neg (fun q => z (hq.mpr q))] at k
    exact k H locs ls _ ws tys he hK hP hD hS hRW hw hl hs
theorem sm_icmp_le (C : Cx p s m args meth c base L xs ro mi) {a b x : Int} {off : Int} (hd : decode (cOf mi) pc = .ok (.if_icmp .le off, 3)) (ht : (pc : Int) + off = x ∧ 0 ≤ x) (k : Sm p l e R s m args below meth c Q D base L xs ro mi ws0 cells slots (tgt (a ≤ b) x (pc + 3)) pls pst sh w) : Sm p l e R s m args below meth c Q D base L xs ro mi ws0 cells slots pc pls (vI b :: vI a :: pst) sh w := by
  intro H locs ls st ws tys he hK hP hD hS hRW hw hl hs
  obtain ⟨hx, hb, hml, hown, hts, hini, hbs, hL, hE⟩ := C
  have hs' := srel_cons hs
  clear hs
  obtain ⟨v1, st, rfl, ⟨c1, rfl, h1⟩, hs⟩ := hs'
  have hs' := srel_cons hs
  clear hs
  obtain ⟨v2, st, rfl, ⟨c2, rfl, h2⟩, hs⟩ := hs'
  subst h1 h2
  have hq : (c2 ≤ c1) ↔ (c2.toInt ≤ c1.toInt) := le32
  refine lv_icmp_le (tgt := x.toNat) hx hb hd (by omega) (fun z => ?_) (fun z => ?_)
  · rw [tgt, if_pos (hq.mp z)] at k
    exact k H locs ls _ ws tys he hK hP hD hS hRW hw hl hs
  · rw [tgt, if_neg (fun q => z (hq.mpr q))] at k
    exact k H locs ls _ ws tys he hK hP hD hS hRW hw hl hs
theorem sm_goto (C : Cx p s m args meth c base L xs ro mi) {x off : Int} (hd : decode (cOf mi) pc = .ok (.goto off, 3)) (ht : (pc : Int) + off = x ∧ 0 ≤ x) (k : Sm p l e R s m args below meth c Q D base L xs ro mi ws0 cells slots x.toNat pls pst sh w) : Sm p l e R s m args below meth c Q D base L xs ro mi ws0 cells slots pc pls (pst) sh w := by
  intro H locs ls st ws tys he hK hP hD hS hRW hw hl hs
  obtain ⟨hx, hb, hml, hown, hts, hini, hbs, hL, hE⟩ := C
  refine lv_goto (tgt := x.toNat) hx hb hd (by omega) ?_
  exact k H locs ls _ ws tys he hK hP hD hS hRW hw hl hs
theorem sm_ifnull (C : Cx p s m args meth c base L xs ro mi) {r off : Int} (hr : ¬ r = -1) (hd : decode (cOf mi) pc = .ok (.ifnull off, 3)) (k : Sm p l e R s m args below meth c Q D base L xs ro mi ws0 cells slots (pc + 3) pls pst sh w) : Sm p l e R s m args below meth c Q D base L xs ro mi ws0 cells slots pc pls (vR r :: pst) sh w := by
  intro H locs ls st ws tys he hK hP hD hS hRW hw hl hs
  obtain ⟨hx, hb, hml, hown, hts, hini, hbs, hL, hE⟩ := C
  have hs' := srel_cons hs
  clear hs
  obtain ⟨v1, st, rfl, h1, hs⟩ := hs'
  rcases h1 with ⟨z, -⟩ | ⟨-, a, rfl, -⟩
  · exact absurd z hr
  refine lv_ifnull hx hb hd ?_
  exact k H locs ls _ ws tys he hK hP hD hS hRW hw hl hs
theorem sm_swOut (C : Cx p s m args meth c base L xs ro mi) {a dflt lo hi : Int} {offs : Array Int} {len : Nat} (ha : a < lo ∨ hi < a) (hd : decode (cOf mi) pc = .ok (.tableswitch dflt lo hi offs, len)) (ht : 0 ≤ (pc : Int) + dflt) (k : Sm p l e R s m args below meth c Q D base L xs ro mi ws0 cells slots ((pc : Int) + dflt).toNat pls pst sh w) : Sm p l e R s m args below meth c Q D base L xs ro mi ws0 cells slots pc pls (vI a :: pst) sh w := by
  intro H locs ls st ws tys he hK hP hD hS hRW hw hl hs
  obtain ⟨hx, hb, hml, hown, hts, hini, hbs, hL, hE⟩ := C
  have hs' := srel_cons hs
  clear hs
  obtain ⟨v1, st, rfl, ⟨c1, rfl, h1⟩, hs⟩ := hs'
  subst h1
  refine lv_tableOut (tgt := ((pc : Int) + dflt).toNat) hx hb hd ha (by omega) ?_
  exact k H locs ls _ ws tys he hK hP hD hS hRW hw hl hs
theorem sm_swIn (C : Cx p s m args meth c base L xs ro mi) {a dflt lo hi o : Int} {offs : Array Int} {len : Nat} (ha : ¬ (a < lo ∨ hi < a)) (ho : offs[(a - lo).toNat]? = some o) (hd : decode (cOf mi) pc = .ok (.tableswitch dflt lo hi offs, len)) (ht : 0 ≤ (pc : Int) + o) (k : Sm p l e R s m args below meth c Q D base L xs ro mi ws0 cells slots ((pc : Int) + o).toNat pls pst sh w) : Sm p l e R s m args below meth c Q D base L xs ro mi ws0 cells slots pc pls (vI a :: pst) sh w := by
  intro H locs ls st ws tys he hK hP hD hS hRW hw hl hs
  obtain ⟨hx, hb, hml, hown, hts, hini, hbs, hL, hE⟩ := C
  have hs' := srel_cons hs
  clear hs
  obtain ⟨v1, st, rfl, ⟨c1, rfl, h1⟩, hs⟩ := hs'
  subst h1
  refine lv_tableIn (tgt := ((pc : Int) + o).toNat) hx hb hd (fun z => ha (Or.inl z)) (fun z => ha (Or.inr z)) ho (by omega) ?_
  exact k H locs ls _ ws tys he hK hP hD hS hRW hw hl hs
end SIM
end
section
/-! locals, fields, arrays of the pure machine against the kit's rows -/
theorem lrel_get {ro : Int → Option Nat} {ws : va_W} {nL : Nat} {ls : Array Slot} {pls : PL} (h : lrel ro ws nL ls pls) {i : Nat} {pv : PV} (hi : pls[i]? = some (some pv)) : ∃ v, ls[i]? = some (.val v) ∧ vrel ro ws v pv := by
  obtain ⟨lv, h1, h2, h3⟩ := h
  obtain ⟨v, q1, q2⟩ := h3 i pv hi
  exact ⟨v, h1.2.2 _ q1, q2⟩
def isL (pv : PV) : Bool := match pv with
  | Sum.inr (Sum.inl _) => true
  | _ => false
theorem vrel_cat {ro : Int → Option Nat} {ws : va_W} {v : Value} : ∀ {pv : PV}, vrel ro ws v pv → isL pv = false → v.category = 1
  | Sum.inl _, ⟨c, h, _⟩, _ => by rw [h]; rfl
  | Sum.inr (Sum.inl _), _, h => by cases h
  | Sum.inr (Sum.inr _), h, _ => by rcases h with ⟨-, h⟩ | ⟨-, a, h, -⟩ <;> rw [h] <;> rfl
theorem lset_spec {pls : PL} {i : Nat} {pv : PV} {j : Nat} {q : PV} (h : (lset pls i pv)[j]? = some (some q)) : (j = i ∧ q = pv) ∨ (j ≠ i ∧ pls[j]? = some (some q) ∧ ¬ (j + 1 = i ∧ isL q = true)) := by
  have base : ∀ j : Nat, (pls.set i (some pv))[j]? = some (some q) → (j = i ∧ q = pv) ∨ (j ≠ i ∧ pls[j]? = some (some q)) := by
    intro j hj
    by_cases hji : j = i
    · subst hji
      rw [List.getElem?_set] at hj
      simp only [if_true] at hj
      split at hj
      · cases hj
        exact Or.inl ⟨rfl, rfl⟩
      · cases hj
    · rw [List.getElem?_set_ne (fun z => hji z.symm)] at hj
      exact Or.inr ⟨hji, hj⟩
  cases i with
  | zero =>
    rcases base j h with h | ⟨h1, h2⟩
    · exact Or.inl h
    · exact Or.inr ⟨h1, h2, fun z => by omega⟩
  | succ i =>
    unfold lset at h
    simp only at h
    split at h
    · rename_i a ha
      by_cases hji : j = i
      · subst hji
        rw [List.getElem?_set] at h
        simp only [if_true] at h
        split at h <;> cases h
      · rw [List.getElem?_set_ne (fun z => hji z.symm)] at h
        rcases base j h with h | ⟨h1, h2⟩
        · exact Or.inl h
        · exact Or.inr ⟨h1, h2, fun z => by omega⟩
    · rename_i hno
      rcases base j h with h' | ⟨h1, h2⟩
      · exact Or.inl h'
      · refine Or.inr ⟨h1, h2, fun z => ?_⟩
        obtain ⟨z1, z2⟩ := z
        have hj : j = i := by omega
        subst hj
        match q, z2, h with
        | Sum.inr (Sum.inl a), _, h => exact hno a h
theorem lset_len (pls : PL) (i : Nat) (pv : PV) : (lset pls i pv).length = pls.length := by
  unfold lset
  simp only
  split
  · simp
  · split <;> simp
theorem lrel_set1 {ro : Int → Option Nat} {ws : va_W} {nL : Nat} {ls' : Array Slot} {pls : PL} {lv : List (Nat × Value)} {i : Nat} {v : Value} {pv : PV} (hlen : pls.length = nL) (hr : ∀ (i : Nat) (pv : PV), pls[i]? = some (some pv) → ∃ v, (i, v) ∈ lv ∧ vrel ro ws v pv) (hv : vrel ro ws v pv)
    (h : lv_has ls' nL ((i, v) :: lv.filter (fun q => !(q.1 == i) && !(q.1 + 1 == i && q.2.category == 2)))) : lrel ro ws nL ls' (lset pls i pv) := by
  refine ⟨_, h, by rw [lset_len]; exact hlen, fun j q hj => ?_⟩
  rcases lset_spec hj with ⟨rfl, rfl⟩ | ⟨h1, h2, h3⟩
  · exact ⟨v, List.mem_cons_self, hv⟩
  · obtain ⟨v', m1, m2⟩ := hr j q h2
    refine ⟨v', List.mem_cons_of_mem _ (List.mem_filter.mpr ⟨m1, ?_⟩), m2⟩
    by_cases hji : j + 1 = i
    · have hq : isL q = false := by
        cases hq : isL q with
        | false => rfl
        | true => exact absurd ⟨hji, hq⟩ h3
      have hc := vrel_cat m2 hq
      simp [h1, hc]
    · simp [h1, hji]
theorem lrel_set2 {ro : Int → Option Nat} {ws : va_W} {nL : Nat} {ls' : Array Slot} {pls : PL} {lv : List (Nat × Value)} {i : Nat} {v : Value} {pv : PV} (hlen : pls.length = nL) (hr : ∀ (i : Nat) (pv : PV), pls[i]? = some (some pv) → ∃ v, (i, v) ∈ lv ∧ vrel ro ws v pv) (hv : vrel ro ws v pv)
    (h : lv_has ls' nL ((i, v) :: lv.filter (fun q => !(q.1 == i) && (!(q.1 == i + 1) && !(q.1 + 1 == i && q.2.category == 2))))) : lrel ro ws nL ls' (lset2 pls i pv) := by
  refine ⟨_, h, by unfold lset2; rw [List.length_set, lset_len]; exact hlen, fun j q hj => ?_⟩
  unfold lset2 at hj
  by_cases hj1 : j = i + 1
  · subst hj1
    rw [List.getElem?_set] at hj
    simp only [if_true] at hj
    split at hj <;> cases hj
  rw [List.getElem?_set_ne (fun z => hj1 z.symm)] at hj
  rcases lset_spec hj with ⟨rfl, rfl⟩ | ⟨h1, h2, h3⟩
  · exact ⟨v, List.mem_cons_self, hv⟩
  · obtain ⟨v', m1, m2⟩ := hr j q h2
    refine ⟨v', List.mem_cons_of_mem _ (List.mem_filter.mpr ⟨m1, ?_⟩), m2⟩
    by_cases hji : j + 1 = i
    · have hq : isL q = false := by
        cases hq : isL q with
        | false => rfl
        | true => exact absurd ⟨hji, hq⟩ h3
      have hc := vrel_cat m2 hq
      simp [h1, hj1, hc]
    · simp [h1, hj1, hji]
/-- the cell that a reference names -/
theorem cell_at {ro : Int → Option Nat} {tys : List (ClassId × FieldType)} {ws : va_W} {sh : Shp} {w : Hp} (hw : wrel ro tys ws sh w) {r : Int} {sp : Nat × Nat} {v : Value} (hs : shAt sh r = some sp) (hv : rrel ro ws v r) : ∃ (a : Nat) (e : va_E), v = .ref a ∧ 0 ≤ r ∧ sh[r.toNat]? = some sp ∧ ws[r.toNat]? = some (a, e) ∧ crel ro ws tys sp e (w r) := by
  unfold shAt at hs
  split at hs
  · rename_i h0
    rcases hv with ⟨z, -⟩ | ⟨-, a, rfl, ha⟩
    · omega
    · unfold adr at ha
      rw [if_pos h0] at ha
      cases hk : ws[r.toNat]? with
      | none => rw [hk] at ha; cases ha
      | some x =>
        rw [hk] at ha
        cases ha
        have h1 := hw.2 _ _ _ hs hk
        rw [show ((r.toNat : Nat) : Int) = r by omega] at h1
        exact ⟨x.1, x.2, rfl, h0, hs, rfl, h1⟩
  · cases hs
theorem up_ne {w : Hp} {r i x : Int} {k : Int} (h : k ≠ r) : up w r i x k = w k := by
  funext j
  unfold up
  rw [if_neg (fun z => h z.1)]
theorem up_neg {w : Hp} {r i x : Int} (h0 : 0 ≤ r) : ∀ a : Int, a < 0 → up w r i x a = w a := fun a ha => up_ne (by omega)
theorem untag_tagd {k : Nat} {pv : PV} {z : Int} (h : untag k pv = some z) : tagd k z = some pv := by
  unfold untag at h
  split at h
  · cases h; rfl
  · cases h; rfl
  · cases h; rfl
  · split at h
    · cases h; rfl
    · cases h
  · cases h
theorem ci_cl {ci : Nat} (h : ci < 11) : ClsOk ci := cls_all ci h
section SIM
variable {p : Program} {l : Launch} {e : Env} {R : Room} {s : State} {m : MethodId} {args : Array Value} {below : List Frame} {meth : Method} {c : Code} {Q : State → Prop} {D : va_G} {base L : Nat} {xs : Nat → Int32} {ro : Int → Option Nat} {mi : Nat} {ws0 : va_W} {cells slots : Nat} {pc : Nat} {pls : PL} {pst : List PV} {sh : Shp} {w : Hp}
theorem sm_iload_n (C : Cx p s m args meth c base L xs ro mi) {k0 : Fin 4} {a : Int} (hg : pls[k0.val]? = some (some (vI a))) (hd : decode (cOf mi) pc = .ok (.iload_n k0, 1)) (k : Sm p l e R s m args below meth c Q D base L xs ro mi ws0 cells slots (pc + 1) pls (vI a :: pst) sh w) : Sm p l e R s m args below meth c Q D base L xs ro mi ws0 cells slots pc pls (pst) sh w := by
  intro H locs ls st ws tys he hK hP hD hS hRW hw hl hs
  obtain ⟨hx, hb, hml, hown, hts, hini, hbs, hL, hE⟩ := C
  obtain ⟨v, hv, ⟨c1, rfl, h1⟩⟩ := lrel_get hl hg
  refine lv_iload_n hx hb hd rfl hv ?_
  exact k H locs ls _ ws tys he hK hP hD hS hRW hw hl ⟨⟨c1, rfl, h1⟩, hs⟩
theorem sm_lload_n (C : Cx p s m args meth c base L xs ro mi) {k0 : Fin 4} {a : Int} (hg : pls[k0.val]? = some (some (vL a))) (hd : decode (cOf mi) pc = .ok (.lload_n k0, 1)) (k : Sm p l e R s m args below meth c Q D base L xs ro mi ws0 cells slots (pc + 1) pls (vL a :: pst) sh w) : Sm p l e R s m args below meth c Q D base L xs ro mi ws0 cells slots pc pls (pst) sh w := by
  intro H locs ls st ws tys he hK hP hD hS hRW hw hl hs
  obtain ⟨hx, hb, hml, hown, hts, hini, hbs, hL, hE⟩ := C
  obtain ⟨v, hv, ⟨c1, rfl, h1⟩⟩ := lrel_get hl hg
  refine lv_lload_n hx hb hd rfl hv ?_
  exact k H locs ls _ ws tys he hK hP hD hS hRW hw hl ⟨⟨c1, rfl, h1⟩, hs⟩
theorem sm_aload_n (C : Cx p s m args meth c base L xs ro mi) {k0 : Fin 4} {r : Int} (hr : ¬ r = -1) (hg : pls[k0.val]? = some (some (vR r))) (hd : decode (cOf mi) pc = .ok (.aload_n k0, 1)) (k : Sm p l e R s m args below meth c Q D base L xs ro mi ws0 cells slots (pc + 1) pls (vR r :: pst) sh w) : Sm p l e R s m args below meth c Q D base L xs ro mi ws0 cells slots pc pls (pst) sh w := by
  intro H locs ls st ws tys he hK hP hD hS hRW hw hl hs
  obtain ⟨hx, hb, hml, hown, hts, hini, hbs, hL, hE⟩ := C
  obtain ⟨v, hv, h1⟩ := lrel_get hl hg
  rcases h1 with ⟨z, -⟩ | ⟨h0, a, rfl, ha⟩
  · exact absurd z hr
  refine lv_aload_n hx hb hd rfl hv ?_
  exact k H locs ls _ ws tys he hK hP hD hS hRW hw hl ⟨Or.inr ⟨h0, a, rfl, ha⟩, hs⟩
theorem sm_istore_n (C : Cx p s m args meth c base L xs ro mi) {k0 : Fin 4} {a : Int} (hk : k0.val < pls.length) (hd : decode (cOf mi) pc = .ok (.istore_n k0, 1)) (k : Sm p l e R s m args below meth c Q D base L xs ro mi ws0 cells slots (pc + 1) (lset pls k0.val (vI a)) pst sh w) : Sm p l e R s m args below meth c Q D base L xs ro mi ws0 cells slots pc pls (vI a :: pst) sh w := by
  intro H locs ls st ws tys he hK hP hD hS hRW hw hl hs
  obtain ⟨hx, hb, hml, hown, hts, hini, hbs, hL, hE⟩ := C
  have hs' := srel_cons hs
  clear hs
  obtain ⟨v1, st, rfl, ⟨c1, rfl, h1⟩, hs⟩ := hs'
  obtain ⟨lv, g1, g2, g3⟩ := hl
  refine lv_istore_n hx hb hd rfl g1 (by omega) rfl (fun ls' hl' => ?_)
  exact k H locs ls' _ ws tys he hK hP hD hS hRW hw (lrel_set1 g2 g3 ⟨c1, rfl, h1⟩ hl') hs
theorem sm_lstore_n (C : Cx p s m args meth c base L xs ro mi) {k0 : Fin 4} {a : Int} (hk : k0.val + 1 < pls.length) (hd : decode (cOf mi) pc = .ok (.lstore_n k0, 1)) (k : Sm p l e R s m args below meth c Q D base L xs ro mi ws0 cells slots (pc + 1) (lset2 pls k0.val (vL a)) pst sh w) : Sm p l e R s m args below meth c Q D base L xs ro mi ws0 cells slots pc pls (vL a :: pst) sh w := by
  intro H locs ls st ws tys he hK hP hD hS hRW hw hl hs
  obtain ⟨hx, hb, hml, hown, hts, hini, hbs, hL, hE⟩ := C
  have hs' := srel_cons hs
  clear hs
  obtain ⟨v1, st, rfl, ⟨c1, rfl, h1⟩, hs⟩ := hs'
  obtain ⟨lv, g1, g2, g3⟩ := hl
  refine lv_lstore_n hx hb hd rfl g1 (by omega) rfl (fun ls' hl' => ?_)
  exact k H locs ls' _ ws tys he hK hP hD hS hRW hw (lrel_set2 g2 g3 ⟨c1, rfl, h1⟩ hl') hs
theorem sm_iload (C : Cx p s m args meth c base L xs ro mi) {k0 : Nat} {a : Int} (hg : pls[k0]? = some (some (vI a))) (hd : decode (cOf mi) pc = .ok (.iload k0, 2)) (k : Sm p l e R s m args below meth c Q D base L xs ro mi ws0 cells slots (pc + 2) pls (vI a :: pst) sh w) : Sm p l e R s m args below meth c Q D base L xs ro mi ws0 cells slots pc pls (pst) sh w := by
  intro H locs ls st ws tys he hK hP hD hS hRW hw hl hs
  obtain ⟨hx, hb, hml, hown, hts, hini, hbs, hL, hE⟩ := C
  obtain ⟨v, hv, ⟨c1, rfl, h1⟩⟩ := lrel_get hl hg
  refine lv_iload hx hb hd hv ?_
  exact k H locs ls _ ws tys he hK hP hD hS hRW hw hl ⟨⟨c1, rfl, h1⟩, hs⟩
theorem sm_lload (C : Cx p s m args meth c base L xs ro mi) {k0 : Nat} {a : Int} (hg : pls[k0]? = some (some (vL a))) (hd : decode (cOf mi) pc = .ok (.lload k0, 2)) (k : Sm p l e R s m args below meth c Q D base L xs ro mi ws0 cells slots (pc + 2) pls (vL a :: pst) sh w) : Sm p l e R s m args below meth c Q D base L xs ro mi ws0 cells slots pc pls (pst) sh w := by
  intro H locs ls st ws tys he hK hP hD hS hRW hw hl hs
  obtain ⟨hx, hb, hml, hown, hts, hini, hbs, hL, hE⟩ := C
  obtain ⟨v, hv, ⟨c1, rfl, h1⟩⟩ := lrel_get hl hg
  refine lv_lload hx hb hd hv ?_
  exact k H locs ls _ ws tys he hK hP hD hS hRW hw hl ⟨⟨c1, rfl, h1⟩, hs⟩
theorem sm_aload (C : Cx p s m args meth c base L xs ro mi) {k0 : Nat} {r : Int} (hr : ¬ r = -1) (hg : pls[k0]? = some (some (vR r))) (hd : decode (cOf mi) pc = .ok (.aload k0, 2)) (k : Sm p l e R s m args below meth c Q D base L xs ro mi ws0 cells slots (pc + 2) pls (vR r :: pst) sh w) : Sm p l e R s m args below meth c Q D base L xs ro mi ws0 cells slots pc pls (pst) sh w := by
  intro H locs ls st ws tys he hK hP hD hS hRW hw hl hs
  obtain ⟨hx, hb, hml, hown, hts, hini, hbs, hL, hE⟩ := C
  obtain ⟨v, hv, h1⟩ := lrel_get hl hg
  rcases h1 with ⟨z, -⟩ | ⟨h0, a, rfl, ha⟩
  · exact absurd z hr
  refine lv_aload hx hb hd hv ?_
  exact k H locs ls _ ws tys he hK hP hD hS hRW hw hl ⟨Or.inr ⟨h0, a, rfl, ha⟩, hs⟩
theorem sm_istore (C : Cx p s m args meth c base L xs ro mi) {k0 : Nat} {a : Int} (hk : k0 < pls.length) (hd : decode (cOf mi) pc = .ok (.istore k0, 2)) (k : Sm p l e R s m args below meth c Q D base L xs ro mi ws0 cells slots (pc + 2) (lset pls k0 (vI a)) pst sh w) : Sm p l e R s m args below meth c Q D base L xs ro mi ws0 cells slots pc pls (vI a :: pst) sh w := by
  intro H locs ls st ws tys he hK hP hD hS hRW hw hl hs
  obtain ⟨hx, hb, hml, hown, hts, hini, hbs, hL, hE⟩ := C
  have hs' := srel_cons hs
  clear hs
  obtain ⟨v1, st, rfl, ⟨c1, rfl, h1⟩, hs⟩ := hs'
  obtain ⟨lv, g1, g2, g3⟩ := hl
  refine lv_istore hx hb hd g1 (by omega) rfl (fun ls' hl' => ?_)
  exact k H locs ls' _ ws tys he hK hP hD hS hRW hw (lrel_set1 g2 g3 ⟨c1, rfl, h1⟩ hl') hs
theorem sm_lstore (C : Cx p s m args meth c base L xs ro mi) {k0 : Nat} {a : Int} (hk : k0 + 1 < pls.length) (hd : decode (cOf mi) pc = .ok (.lstore k0, 2)) (k : Sm p l e R s m args below meth c Q D base L xs ro mi ws0 cells slots (pc + 2) (lset2 pls k0 (vL a)) pst sh w) : Sm p l e R s m args below meth c Q D base L xs ro mi ws0 cells slots pc pls (vL a :: pst) sh w := by
  intro H locs ls st ws tys he hK hP hD hS hRW hw hl hs
  obtain ⟨hx, hb, hml, hown, hts, hini, hbs, hL, hE⟩ := C
  have hs' := srel_cons hs
  clear hs
  obtain ⟨v1, st, rfl, ⟨c1, rfl, h1⟩, hs⟩ := hs'
  obtain ⟨lv, g1, g2, g3⟩ := hl
  refine lv_lstore hx hb hd g1 (by omega) rfl (fun ls' hl' => ?_)
  exact k H locs ls' _ ws tys he hK hP hD hS hRW hw (lrel_set2 g2 g3 ⟨c1, rfl, h1⟩ hl') hs
theorem sm_astore_n (C : Cx p s m args meth c base L xs ro mi) {k0 : Fin 4} {r : Int} (hr : ¬ r = -1) (hk : k0.val < pls.length) (hd : decode (cOf mi) pc = .ok (.astore_n k0, 1)) (k : Sm p l e R s m args below meth c Q D base L xs ro mi ws0 cells slots (pc + 1) (lset pls k0.val (vR r)) pst sh w) : Sm p l e R s m args below meth c Q D base L xs ro mi ws0 cells slots pc pls (vR r :: pst) sh w := by
  intro H locs ls st ws tys he hK hP hD hS hRW hw hl hs
  obtain ⟨hx, hb, hml, hown, hts, hini, hbs, hL, hE⟩ := C
  have hs' := srel_cons hs
  clear hs
  obtain ⟨v1, st, rfl, h1, hs⟩ := hs'
  rcases h1 with ⟨z, -⟩ | ⟨h0, a, rfl, ha⟩
  · exact absurd z hr
  obtain ⟨lv, g1, g2, g3⟩ := hl
  refine lv_astore_n hx hb hd rfl g1 (by omega) rfl (fun ls' hl' => ?_)
  exact k H locs ls' _ ws tys he hK hP hD hS hRW hw (lrel_set1 g2 g3 (Or.inr ⟨h0, a, rfl, ha⟩) hl') hs
theorem sm_iinc (C : Cx p s m args meth c base L xs ro mi) {k0 : Nat} {a n : Int} (hg : pls[k0]? = some (some (vI a))) (hd : decode (cOf mi) pc = .ok (.iinc k0 n, 3)) (k : Sm p l e R s m args below meth c Q D base L xs ro mi ws0 cells slots (pc + 3) (lset pls k0 (vI (w32 (a + w32 n)))) pst sh w) : Sm p l e R s m args below meth c Q D base L xs ro mi ws0 cells slots pc pls (pst) sh w := by
  intro H locs ls st ws tys he hK hP hD hS hRW hw hl hs
  obtain ⟨hx, hb, hml, hown, hts, hini, hbs, hL, hE⟩ := C
  obtain ⟨lv, g1, g2, g3⟩ := hl
  obtain ⟨v, hv, ⟨c1, rfl, h1⟩⟩ := g3 _ _ hg
  obtain ⟨i, hi⟩ := List.mem_iff_getElem?.mp hv
  have hlt : k0 < pls.length := (List.getElem?_eq_some_iff.mp hg).1
  subst h1
  refine lv_iinc hx hb hd g1 hi rfl (by omega) rfl (fun ls' hl' => ?_)
  exact k H locs ls' _ ws tys he hK hP hD hS hRW hw (lrel_set1 g2 g3 ⟨_, rfl, by rw [Int32.toInt_add, Int32.toInt_ofInt]; rfl⟩ hl') hs
theorem sm_getfield (C : Cx p s m args meth c base L xs ro mi) {r x : Int} {idx : Nat} {v : PV} (hsx : shAt sh r = some (0, (x / 100).toNat)) (hn : (x % 100).toNat < NT (x / 100).toNat ∧ (x / 100).toNat < 11 ∧ 0 ≤ x) (hm : Cond.fieldLink (oOf mi) idx (FT (x / 100).toNat (x % 100).toNat).1 (FT (x / 100).toNat (x % 100).toNat).2.1 (FT (x / 100).toNat (x % 100).toNat).2.2.1 ∈ WT) (ht : tagd (fk (x / 100).toNat (x % 100).toNat) (w r (x % 100)) = some v) (hd : decode (cOf mi) pc = .ok (.getfield idx, 3)) (k : Sm p l e R s m args below meth c Q D base L xs ro mi ws0 cells slots (pc + 3) pls (v :: pst) sh w) : Sm p l e R s m args below meth c Q D base L xs ro mi ws0 cells slots pc pls (vR r :: pst) sh w := by
  intro H locs ls st ws tys he hK hP hD hS hRW hw hl hs
  obtain ⟨hx, hb, hml, hown, hts, hini, hbs, hL, hE⟩ := C
  have hs' := srel_cons hs
  clear hs
  obtain ⟨v1, st, rfl, h1, hs⟩ := hs'
  obtain ⟨a, e0, rfl, h0, hsr, hwr, fs, rfl, hci, hlen, hfs⟩ := cell_at hw hsx h1
  obtain ⟨T, ty, hcl, hT, hin, hty, hnm, -⟩ := cls_all _ hci
  have hk : (x % 100).toNat < fs.length := by rw [hlen]; exact hn.1
  obtain ⟨pv, q1, q2⟩ := hfs _ _ (List.getElem?_eq_getElem hk)
  rw [show (((x % 100).toNat : Nat) : Int) = x % 100 by omega] at q1
  rw [show (w r (x % 100)) = w r (x % 100) from rfl] at q1
  have hpv : pv = v := Option.some.inj (q1.symm.trans ht)
  subst hpv
  refine va_get (ref := (T (x % 100).toNat).1) hx hb hts hin hown hK hP r.toNat hwr hcl (x % 100).toNat hn.1 (by rw [hT]; exact hts _ hm) (fun _ h => h) (List.getElem?_eq_getElem hk) hd ?_
  exact k H locs ls _ ws tys he hK hP hD hS hRW hw hl ⟨q2, hs⟩
theorem sm_putfield (C : Cx p s m args meth c base L xs ro mi) {r x z : Int} {idx : Nat} {pv : PV} (hsx : shAt sh r = some (0, (x / 100).toNat)) (hn : (x % 100).toNat < NT (x / 100).toNat ∧ (x / 100).toNat < 11 ∧ 0 ≤ x) (hm : Cond.fieldLink (oOf mi) idx (FT (x / 100).toNat (x % 100).toNat).1 (FT (x / 100).toNat (x % 100).toNat).2.1 (FT (x / 100).toNat (x % 100).toNat).2.2.1 ∈ WT) (hf : (FT (x / 100).toNat (x % 100).toNat).2.2.2 = true → mKind mi = 2 ∧ (FT (x / 100).toNat (x % 100).toNat).1 = oOf mi) (ht : untag (fk (x / 100).toNat (x % 100).toNat) pv = some z) (hd : decode (cOf mi) pc = .ok (.putfield idx, 3)) (k : Sm p l e R s m args below meth c Q D base L xs ro mi ws0 cells slots (pc + 3) pls pst sh (up w r (x % 100) z)) : Sm p l e R s m args below meth c Q D base L xs ro mi ws0 cells slots pc pls (pv :: vR r :: pst) sh w := by
  intro H locs ls st ws tys he hK hP hD hS hRW hw hl hs
  obtain ⟨hx, hb, hml, hown, hts, hini, hbs, hL, hE⟩ := C
  have hs' := srel_cons hs
  clear hs
  obtain ⟨v0, st, rfl, hv0, hs⟩ := hs'
  have hs' := srel_cons hs
  clear hs
  obtain ⟨v1, st, rfl, h1, hs⟩ := hs'
  obtain ⟨a, e0, rfl, h0, hsr, hwr, fs, rfl, hci, hlen, hfs⟩ := cell_at hw hsx h1
  obtain ⟨T, ty, hcl, hT, hin, hty, hnm, hi1, hi2, hkd⟩ := cls_all _ hci
  have hk : (x % 100).toNat < fs.length := by rw [hlen]; exact hn.1
  have hxx : (((x % 100).toNat : Nat) : Int) = x % 100 := by omega
  have hnf : narrow (ty (x % 100).toNat) v0 = v0 ∧ fits (ty (x % 100).toNat) v0 = true := by
    rcases hkd _ hn.1 with ⟨f1, f2⟩ | ⟨f1, f2⟩ | ⟨f1, f2⟩ | ⟨f1, f2⟩
    · rw [f1] at ht
      match pv, ht, hv0 with
      | Sum.inl _, _, ⟨c1, h, _⟩ => rw [f2, h]; exact ⟨rfl, rfl⟩
    · rw [f1] at ht
      match pv, ht, hv0 with
      | Sum.inr (Sum.inl _), _, ⟨c1, h, _⟩ => rw [f2, h]; exact ⟨rfl, rfl⟩
    · rw [f1] at ht
      match pv, ht, hv0 with
      | Sum.inr (Sum.inr _), _, hh =>
        generalize ty (x % 100).toNat = tt at f2 ⊢
        rcases hh with ⟨-, h⟩ | ⟨-, a, h, -⟩ <;> rw [h] <;> cases tt <;> first | exact ⟨rfl, rfl⟩ | cases f2
    · rw [f1] at ht
      match pv, ht, hv0 with
      | Sum.inl y, ht, ⟨c1, h, h'⟩ =>
        rw [f2, h]
        unfold untag at ht
        simp only at ht
        split at ht
        · rename_i hy
          rcases hy with hy | hy
          · have : c1 = 0 := eq32.mpr (by rw [h', hy]; rfl)
            subst this
            exact ⟨rfl, rfl⟩
          · have : c1 = 1 := eq32.mpr (by rw [h', hy]; rfl)
            subst this
            exact ⟨rfl, rfl⟩
        · cases ht
  have fin : ∀ (H1 : Heap) (locs1 : List Loc), va_P D vwCl (ws.set r.toNat (a, .inr ((x / 100).toNat, fs.set (x % 100).toNat v0))) H1 → va_D (fun q => base ≤ q) (ws.set r.toNat (a, .inr ((x / 100).toNat, fs.set (x % 100).toNat v0))) → va_S (fun q => base ≤ q) s.heap H1 locs1 → W p l e R s m args below meth c H1 locs1 cells slots Q (F0 m (pc + 3) ls st) := by
    intro H1 locs1 hP1 hD1 hS1
    have hxt : ext ws (ws.set r.toNat (a, .inr ((x / 100).toNat, fs.set (x % 100).toNat v0))) := ext_set hwr
    refine k H1 locs1 ls st _ tys (ext_tr he hxt) hK hP1 hD1 hS1 (hRW.of (up_neg h0)) (wrel_set hw hwr hsr ?_ (fun k hk => up_ne (by omega))) (lrel_ext hxt hl) (srel_ext hxt hs)
    refine ⟨_, rfl, hci, by rw [List.length_set]; exact hlen, fun j v hj => ?_⟩
    rw [show ((r.toNat : Nat) : Int) = r by omega]
    by_cases hjk : j = (x % 100).toNat
    · subst hjk
      rw [List.getElem?_set_self hk] at hj
      cases hj
      refine ⟨pv, ?_, hv0⟩
      rw [hxx]
      unfold up
      rw [if_pos ⟨rfl, rfl⟩]
      exact untag_tagd ht
    · rw [List.getElem?_set_ne (fun z => hjk z.symm)] at hj
      obtain ⟨qv, q1, q2⟩ := hfs j v hj
      refine ⟨qv, ?_, q2⟩
      unfold up
      rw [if_neg (fun z => hjk (by omega))]
      exact q1
  cases hff : (FT (x / 100).toNat (x % 100).toNat).2.2.2 with
  | false => exact va_put (ref := (T (x % 100).toNat).1) hx hb hts hin ty hty hnm hown hK hP hD hS r.toNat hwr hcl (x % 100).toNat hn.1 (by rw [hT]; exact hts _ hm) (fun _ h => h) (by rw [hT]; exact hff) (hty _ hn.1) hnf.1 hnf.2 hk hd fin
  | true => exact va_putF (ref := (T (x % 100).toNat).1) hx hb hts hin ty hty hnm hown hK hP hD hS r.toNat hwr hcl (x % 100).toNat hn.1 (by rw [hT]; exact hts _ hm) (fun _ h => h) (by rw [hT]; exact hff) (hini (hf hff).1) (by rw [hT]; exact (hf hff).2) (hty _ hn.1) hnf.1 hnf.2 hk hd fin
end SIM
end
section
/-! arrays, statics, what the library does in one step -/
theorem K3_i : ∀ j, j < 6 → (Int32.ofInt (K3 j)).toInt = K3 j := by decide
theorem K4_i : ∀ j, j < 6 → (Int32.ofInt (K4 j)).toInt = K4 j := by decide
theorem K5_i : ∀ j, j < 5 → (Int32.ofInt (K5 j)).toInt = K5 j := by decide
theorem ro_adr {ro : Int → Option Nat} {ws : va_W} {v : Value} {r : Int} {t : Nat} (hr : r < -1) (ht : ro r = some t) (h : rrel ro ws v r) : v = .ref t := by
  rcases h with ⟨z, -⟩ | ⟨-, a, rfl, ha⟩
  · omega
  · unfold adr at ha
    rw [if_neg (by omega), ht] at ha
    cases ha
    rfl
theorem shAt_of {sh : Shp} {r : Int} {sp : Nat × Nat} (h0 : 0 ≤ r) (h : sh[r.toNat]? = some sp) : shAt sh r = some sp := by
  unfold shAt
  rw [if_pos h0]
  exact h
theorem ldArr_spec {sh : Shp} {ks : List Nat} {rs : List Int} {r i : Int} {w : Hp} {v : Int} (h : ldArr sh ks rs r i w = some v) : v = w r i ∧ 0 ≤ i ∧ ((0 ≤ r ∧ ∃ k n : Nat, shAt sh r = some (k, n) ∧ k ∈ ks ∧ i < n) ∨ (r < 0 ∧ r ∈ rs ∧ i < w r (-1))) := by
  unfold ldArr at h
  split at h
  · rename_i h0
    split at h
    · rename_i k n hsr
      split at h
      · rename_i hc
        cases h
        refine ⟨rfl, hc.2.1, Or.inl ⟨h0, k, n, shAt_of h0 hsr, ?_, hc.2.2⟩⟩
        simpa using hc.1
      · cases h
    · cases h
  · rename_i h0
    split at h
    · rename_i hc
      cases h
      refine ⟨rfl, hc.2.1, Or.inr ⟨by omega, ?_, hc.2.2⟩⟩
      simpa using hc.1
    · cases h
theorem stArr_spec {sh : Shp} {ks : List Nat} {r i : Int} (h : stArr sh ks r i = true) : ∃ k n : Nat, shAt sh r = some (k, n) ∧ k ∈ ks ∧ 0 ≤ i ∧ i < n := by
  unfold stArr at h
  split at h
  · rename_i k n hs
    simp only [Bool.and_eq_true, decide_eq_true_eq, List.contains_iff_mem] at h
    exact ⟨k, n, hs, h.1, h.2.1, h.2.2⟩
  · cases h
theorem upd_rel {g : Nat → Int32} {f : Int → Int} {n : Nat} {i : Int} {x : Int32} (hi : 0 ≤ i) (h : ∀ j : Nat, j < n → (g j).toInt = f j) : ∀ j : Nat, j < n → (upd g i.toNat x j).toInt = (if (j : Int) = i then x.toInt else f j) := by
  intro j hj
  by_cases hji : (j : Int) = i
  · rw [if_pos hji, show i.toNat = j by omega, pk_us]
  · rw [if_neg hji, pk_un (by omega), h j hj]
section SIM
variable {p : Program} {l : Launch} {e : Env} {R : Room} {s : State} {m : MethodId} {args : Array Value} {below : List Frame} {meth : Method} {c : Code} {Q : State → Prop} {D : va_G} {base L : Nat} {xs : Nat → Int32} {ro : Int → Option Nat} {mi : Nat} {ws0 : va_W} {cells slots : Nat} {pc : Nat} {pls : PL} {pst : List PV} {sh : Shp} {w : Hp}
theorem sm_iaload (C : Cx p s m args meth c base L xs ro mi) {r i v : Int} (hg : ldArr sh [1] [-2, -4, -5] r i w = some v) (hd : decode (cOf mi) pc = .ok (.iaload, 1)) (k : Sm p l e R s m args below meth c Q D base L xs ro mi ws0 cells slots (pc + 1) pls (vI v :: pst) sh w) : Sm p l e R s m args below meth c Q D base L xs ro mi ws0 cells slots pc pls (vI i :: vR r :: pst) sh w := by
  intro H locs ls st ws tys he hK hP hD hS hRW hw hl hs
  obtain ⟨hx, hb, hml, hown, hts, hini, hbs, hL, hE⟩ := C
  have hs' := srel_cons hs
  clear hs
  obtain ⟨v1, st, rfl, ⟨c1, rfl, h1⟩, hs⟩ := hs'
  have hs' := srel_cons hs
  clear hs
  obtain ⟨v2, st, rfl, h2, hs⟩ := hs'
  obtain ⟨rfl, hi0, hcase⟩ := ldArr_spec hg
  subst h1
  rcases hcase with ⟨h0, k0, n, hsx, hk0, hi1⟩ | ⟨h0, hr, hlt⟩
  · obtain rfl : k0 = 1 := by simpa using hk0
    obtain ⟨a, e0, rfl, -, -, hwr, cA, g, t0, rfl, ht, hgg⟩ := cell_at hw hsx h2
    have hin : vp_in c1 n := vp_in_iff.mpr ⟨hi0, hi1⟩
    refine va_iald hx hb hK hP r.toNat t0 hwr ht hin hd ?_
    exact k H locs ls _ ws tys he hK hP hD hS hRW hw hl ⟨⟨_, rfl, by rw [tnc, hgg _ (by omega)]; congr 1; omega⟩, hs⟩
  · simp only [List.mem_cons, List.not_mem_nil, or_false] at hr
    rcases hr with hr | hr | hr
    · subst hr
      obtain ⟨b, hb0, hbl, hX⟩ := hE.1
      cases ro_adr (by decide) hb0 h2
      have hi1 : c1.toInt < L := by rw [hRW.1.1] at hlt; exact hlt
      have hin : vp_in c1 L := vp_in_iff.mpr ⟨hi0, hi1⟩
      refine va_sld hx hb hX (by omega) (fun z => by omega) hS hin hd ?_
      exact k H locs ls _ ws tys he hK hP hD hS hRW hw hl ⟨⟨_, rfl, by rw [tnc, ← hRW.1.2 _ (by omega)]; congr 1; omega⟩, hs⟩
    · subst hr
      obtain ⟨t, ht, -, hT⟩ := hE.2.2.1
      cases ro_adr (by decide) ht h2
      have hi1 : c1.toInt < 6 := by rw [hRW.2.2.1.1] at hlt; exact hlt
      have hin : vp_in c1 6 := vp_in_iff.mpr ⟨hi0, hi1⟩
      refine va_ti hx hb hT hS hin rfl hd ?_
      exact k H locs ls _ ws tys he hK hP hD hS hRW hw hl ⟨⟨_, rfl, by rw [tnc, K4_i _ (by omega), ← hRW.2.2.1.2 _ (by omega)]; congr 1; omega⟩, hs⟩
    · subst hr
      obtain ⟨t, ht, -, hT⟩ := hE.2.2.2.1
      cases ro_adr (by decide) ht h2
      have hi1 : c1.toInt < 5 := by rw [hRW.2.2.2.1] at hlt; exact hlt
      have hin : vp_in c1 5 := vp_in_iff.mpr ⟨hi0, hi1⟩
      refine va_ti hx hb hT hS hin rfl hd ?_
      exact k H locs ls _ ws tys he hK hP hD hS hRW hw hl ⟨⟨_, rfl, by rw [tnc, K5_i _ (by omega), ← hRW.2.2.2.2 _ (by omega)]; congr 1; omega⟩, hs⟩

theorem sm_caload (C : Cx p s m args meth c base L xs ro mi) {r i v : Int} (hg : ldArr sh [] [-3] r i w = some v) (hd : decode (cOf mi) pc = .ok (.caload, 1)) (k : Sm p l e R s m args below meth c Q D base L xs ro mi ws0 cells slots (pc + 1) pls (vI v :: pst) sh w) : Sm p l e R s m args below meth c Q D base L xs ro mi ws0 cells slots pc pls (vI i :: vR r :: pst) sh w := by
  intro H locs ls st ws tys he hK hP hD hS hRW hw hl hs
  obtain ⟨hx, hb, hml, hown, hts, hini, hbs, hL, hE⟩ := C
  have hs' := srel_cons hs
  clear hs
  obtain ⟨v1, st, rfl, ⟨c1, rfl, h1⟩, hs⟩ := hs'
  have hs' := srel_cons hs
  clear hs
  obtain ⟨v2, st, rfl, h2, hs⟩ := hs'
  obtain ⟨rfl, hi0, hcase⟩ := ldArr_spec hg
  subst h1
  rcases hcase with ⟨h0, k0, n, hsx, hk0, hi1⟩ | ⟨h0, hr, hlt⟩
  · cases hk0
  · simp only [List.mem_cons, List.not_mem_nil, or_false] at hr
    · subst hr
      obtain ⟨t, ht, -, hT⟩ := hE.2.1
      cases ro_adr (by decide) ht h2
      have hi1 : c1.toInt < 6 := by rw [hRW.2.1.1] at hlt; exact hlt
      have hin : vp_in c1 6 := vp_in_iff.mpr ⟨hi0, hi1⟩
      refine va_tc hx hb hT hS hin rfl hd ?_
      exact k H locs ls _ ws tys he hK hP hD hS hRW hw hl ⟨⟨_, rfl, by rw [tnc, K3_i _ (by omega), ← hRW.2.1.2 _ (by omega)]; congr 1; omega⟩, hs⟩

theorem sm_baload (C : Cx p s m args meth c base L xs ro mi) {r i v : Int} (hg : ldArr sh [3, 4] [] r i w = some v) (hd : decode (cOf mi) pc = .ok (.baload, 1)) (k : Sm p l e R s m args below meth c Q D base L xs ro mi ws0 cells slots (pc + 1) pls (vI v :: pst) sh w) : Sm p l e R s m args below meth c Q D base L xs ro mi ws0 cells slots pc pls (vI i :: vR r :: pst) sh w := by
  intro H locs ls st ws tys he hK hP hD hS hRW hw hl hs
  obtain ⟨hx, hb, hml, hown, hts, hini, hbs, hL, hE⟩ := C
  have hs' := srel_cons hs
  clear hs
  obtain ⟨v1, st, rfl, ⟨c1, rfl, h1⟩, hs⟩ := hs'
  have hs' := srel_cons hs
  clear hs
  obtain ⟨v2, st, rfl, h2, hs⟩ := hs'
  obtain ⟨rfl, hi0, hcase⟩ := ldArr_spec hg
  subst h1
  rcases hcase with ⟨h0, k0, n, hsx, hk0, hi1⟩ | ⟨h0, hr, hlt⟩
  · simp only [List.mem_cons, List.not_mem_nil, or_false] at hk0
    rcases hk0 with rfl | rfl
    · obtain ⟨a, e0, rfl, -, -, hwr, cA, g, t0, rfl, ht, hgg⟩ := cell_at hw hsx h2
      have hin : vp_in c1 n := vp_in_iff.mpr ⟨hi0, hi1⟩
      refine va_bald hx hb hK hP r.toNat t0 hwr ht hin hd ?_
      exact k H locs ls _ ws tys he hK hP hD hS hRW hw hl ⟨⟨_, rfl, by rw [tnc, hgg _ (by omega)]; congr 1; omega⟩, hs⟩

    · obtain ⟨a, e0, rfl, -, -, hwr, cA, g, t0, rfl, ht, hgg⟩ := cell_at hw hsx h2
      have hin : vp_in c1 n := vp_in_iff.mpr ⟨hi0, hi1⟩
      refine va_zald hx hb hK hP r.toNat t0 hwr ht hin hd ?_
      exact k H locs ls _ ws tys he hK hP hD hS hRW hw hl ⟨⟨_, rfl, by rw [tnc, hgg _ (by omega)]; congr 1; omega⟩, hs⟩

  · cases hr
theorem sm_laload (C : Cx p s m args meth c base L xs ro mi) {r i v : Int} (hg : ldArr sh [2] [] r i w = some v) (hd : decode (cOf mi) pc = .ok (.laload, 1)) (k : Sm p l e R s m args below meth c Q D base L xs ro mi ws0 cells slots (pc + 1) pls (vL v :: pst) sh w) : Sm p l e R s m args below meth c Q D base L xs ro mi ws0 cells slots pc pls (vI i :: vR r :: pst) sh w := by
  intro H locs ls st ws tys he hK hP hD hS hRW hw hl hs
  obtain ⟨hx, hb, hml, hown, hts, hini, hbs, hL, hE⟩ := C
  have hs' := srel_cons hs
  clear hs
  obtain ⟨v1, st, rfl, ⟨c1, rfl, h1⟩, hs⟩ := hs'
  have hs' := srel_cons hs
  clear hs
  obtain ⟨v2, st, rfl, h2, hs⟩ := hs'
  obtain ⟨rfl, hi0, hcase⟩ := ldArr_spec hg
  subst h1
  rcases hcase with ⟨h0, k0, n, hsx, hk0, hi1⟩ | ⟨h0, hr, hlt⟩
  · obtain rfl : k0 = 2 := by simpa using hk0
    obtain ⟨a, e0, rfl, -, -, hwr, cA, g, t0, rfl, ht, hgg⟩ := cell_at hw hsx h2
    have hin : vp_in c1 n := vp_in_iff.mpr ⟨hi0, hi1⟩
    refine va_lald hx hb hK hP r.toNat t0 hwr ht hin hd ?_
    exact k H locs ls _ ws tys he hK hP hD hS hRW hw hl ⟨⟨_, rfl, by rw [tnc, hgg _ (by omega)]; congr 1; omega⟩, hs⟩
  · cases hr
theorem sm_aaload (C : Cx p s m args meth c base L xs ro mi) {r i v : Int} (hg : ldArr sh [5, 6, 7] [] r i w = some v) (hd : decode (cOf mi) pc = .ok (.aaload, 1)) (k : Sm p l e R s m args below meth c Q D base L xs ro mi ws0 cells slots (pc + 1) pls (vR v :: pst) sh w) : Sm p l e R s m args below meth c Q D base L xs ro mi ws0 cells slots pc pls (vI i :: vR r :: pst) sh w := by
  intro H locs ls st ws tys he hK hP hD hS hRW hw hl hs
  obtain ⟨hx, hb, hml, hown, hts, hini, hbs, hL, hE⟩ := C
  have hs' := srel_cons hs
  clear hs
  obtain ⟨v1, st, rfl, ⟨c1, rfl, h1⟩, hs⟩ := hs'
  have hs' := srel_cons hs
  clear hs
  obtain ⟨v2, st, rfl, h2, hs⟩ := hs'
  obtain ⟨rfl, hi0, hcase⟩ := ldArr_spec hg
  subst h1
  rcases hcase with ⟨h0, k0, n, hsx, hk0, hi1⟩ | ⟨h0, hr, hlt⟩
  · simp only [List.mem_cons, List.not_mem_nil, or_false] at hk0
    rcases hk0 with rfl | rfl | rfl
    · obtain ⟨a, e0, rfl, -, -, hwr, cA, g, t0, rfl, ht, hgg⟩ := cell_at hw hsx h2
      have hin : vp_in c1 n := vp_in_iff.mpr ⟨hi0, hi1⟩
      have hlt : c1.toNatClampNeg < n := by rw [tnc]; omega
      have hq := hgg _ hlt
      rw [show ((c1.toNatClampNeg : Nat) : Int) = c1.toInt by rw [tnc]; omega] at hq
      refine W.aald (v := va_rf (g c1.toNatClampNeg)) (ty := .object "VotedHill$Strip") hx hb (hP r.toNat _ hwr) ((hK.2 t0 _ ht).1 n (fun j => va_rf (g j))) rfl (fun q => by cases q) (by show ¬ (c1 < 0 ∨ (arrV _ _ _).slots.size ≤ _); rw [arrV_size]; exact hin) (by show (arrV _ _ _).slots[_]? = _; rw [arrV_read _ _ hlt]) rfl rfl hd ?_
      exact k H locs ls _ ws tys he hK hP hD hS hRW hw hl ⟨hq, hs⟩
    · obtain ⟨a, e0, rfl, -, -, hwr, cA, g, t0, rfl, ht, hgg⟩ := cell_at hw hsx h2
      have hin : vp_in c1 n := vp_in_iff.mpr ⟨hi0, hi1⟩
      have hlt : c1.toNatClampNeg < n := by rw [tnc]; omega
      have hq := hgg _ hlt
      rw [show ((c1.toNatClampNeg : Nat) : Int) = c1.toInt by rw [tnc]; omega] at hq
      refine W.aald (v := va_rf (g c1.toNatClampNeg)) (ty := .object "VotedHill$Land") hx hb (hP r.toNat _ hwr) ((hK.2 t0 _ ht).1 n (fun j => va_rf (g j))) rfl (fun q => by cases q) (by show ¬ (c1 < 0 ∨ (arrV _ _ _).slots.size ≤ _); rw [arrV_size]; exact hin) (by show (arrV _ _ _).slots[_]? = _; rw [arrV_read _ _ hlt]) rfl rfl hd ?_
      exact k H locs ls _ ws tys he hK hP hD hS hRW hw hl ⟨hq, hs⟩
    · obtain ⟨a, e0, rfl, -, -, hwr, cA, g, t0, rfl, ht, hgg⟩ := cell_at hw hsx h2
      have hin : vp_in c1 n := vp_in_iff.mpr ⟨hi0, hi1⟩
      have hlt : c1.toNatClampNeg < n := by rw [tnc]; omega
      have hq := hgg _ hlt
      rw [show ((c1.toNatClampNeg : Nat) : Int) = c1.toInt by rw [tnc]; omega] at hq
      refine W.aald (v := va_rf (g c1.toNatClampNeg)) (ty := .array .int) hx hb (hP r.toNat _ hwr) ((hK.2 t0 _ ht).1 n (fun j => va_rf (g j))) rfl (fun q => by cases q) (by show ¬ (c1 < 0 ∨ (arrV _ _ _).slots.size ≤ _); rw [arrV_size]; exact hin) (by show (arrV _ _ _).slots[_]? = _; rw [arrV_read _ _ hlt]) rfl rfl hd ?_
      exact k H locs ls _ ws tys he hK hP hD hS hRW hw hl ⟨hq, hs⟩
  · cases hr
theorem sm_alenH (C : Cx p s m args meth c base L xs ro mi) {r : Int} {k0 n : Nat} (hsx : shAt sh r = some (k0 + 1, n)) (hn : n < 2147483648) (hd : decode (cOf mi) pc = .ok (.arraylength, 1)) (k : Sm p l e R s m args below meth c Q D base L xs ro mi ws0 cells slots (pc + 1) pls (vI n :: pst) sh w) : Sm p l e R s m args below meth c Q D base L xs ro mi ws0 cells slots pc pls (vR r :: pst) sh w := by
  intro H locs ls st ws tys he hK hP hD hS hRW hw hl hs
  obtain ⟨hx, hb, hml, hown, hts, hini, hbs, hL, hE⟩ := C
  have hs' := srel_cons hs
  clear hs
  obtain ⟨v2, st, rfl, h2, hs⟩ := hs'
  obtain ⟨a, e0, rfl, -, -, hwr, hc⟩ := cell_at hw hsx h2
  have hv : (Int32.ofNat n).toInt = n := Int32.toInt_ofNat_of_lt hn
  have fin : ∀ {cA : ClassId} {x : vp_A} {ty : FieldType} {t0 : Nat}, e0 = .inl (cA, x) → tys[t0]? = some (cA, ty) → x.1 = n → W p l e R s m args below meth c H locs cells slots Q (F0 m pc ls (.ref a :: st)) := by
    intro cA x ty t0 he0 ht hxn
    subst he0
    refine va_alen hx hb hK hP r.toNat t0 hwr ht (v := Int32.ofNat n) (by rw [hxn]) hd ?_
    exact k H locs ls _ ws tys he hK hP hD hS hRW hw hl ⟨⟨_, rfl, hv⟩, hs⟩
  match k0, hc with
  | 0, ⟨cA, g, t0, h1, h2, _⟩ => exact fin h1 h2 rfl
  | 1, ⟨cA, g, t0, h1, h2, _⟩ => exact fin h1 h2 rfl
  | 2, ⟨cA, g, t0, h1, h2, _⟩ => exact fin h1 h2 rfl
  | 3, ⟨cA, g, t0, h1, h2, _⟩ => exact fin h1 h2 rfl
  | 4, ⟨cA, g, t0, h1, h2, _⟩ => exact fin h1 h2 rfl
  | 5, ⟨cA, g, t0, h1, h2, _⟩ => exact fin h1 h2 rfl
  | 6, ⟨cA, g, t0, h1, h2, _⟩ => exact fin h1 h2 rfl
theorem sm_alenO (C : Cx p s m args meth c base L xs ro mi) {r : Int} (hr : r = -2 ∨ r = -3 ∨ r = -4 ∨ r = -5) (hd : decode (cOf mi) pc = .ok (.arraylength, 1)) (k : Sm p l e R s m args below meth c Q D base L xs ro mi ws0 cells slots (pc + 1) pls (vI (w r (-1)) :: pst) sh w) : Sm p l e R s m args below meth c Q D base L xs ro mi ws0 cells slots pc pls (vR r :: pst) sh w := by
  intro H locs ls st ws tys he hK hP hD hS hRW hw hl hs
  obtain ⟨hx, hb, hml, hown, hts, hini, hbs, hL, hE⟩ := C
  have hs' := srel_cons hs
  clear hs
  obtain ⟨v2, st, rfl, h2, hs⟩ := hs'
  rcases hr with rfl | rfl | rfl | rfl
  · obtain ⟨b, hb0, hbl, hX⟩ := hE.1
    cases ro_adr (by decide) hb0 h2
    refine va_slen hx hb hX (by omega) (fun z => by omega) hS hd ?_
    exact k H locs ls _ ws tys he hK hP hD hS hRW hw hl ⟨⟨_, rfl, by rw [hRW.1.1]; exact Int32.toInt_ofNat_of_lt hL⟩, hs⟩
  · obtain ⟨t, ht, -, hT⟩ := hE.2.1
    cases ro_adr (by decide) ht h2
    refine va_tlen hx hb hT hS rfl hd ?_
    exact k H locs ls _ ws tys he hK hP hD hS hRW hw hl ⟨⟨_, rfl, by rw [hRW.2.1.1]; rfl⟩, hs⟩
  · obtain ⟨t, ht, -, hT⟩ := hE.2.2.1
    cases ro_adr (by decide) ht h2
    refine va_tlen hx hb hT hS rfl hd ?_
    exact k H locs ls _ ws tys he hK hP hD hS hRW hw hl ⟨⟨_, rfl, by rw [hRW.2.2.1.1]; rfl⟩, hs⟩
  · obtain ⟨t, ht, -, hT⟩ := hE.2.2.2.1
    cases ro_adr (by decide) ht h2
    refine va_tlen hx hb hT hS rfl hd ?_
    exact k H locs ls _ ws tys he hK hP hD hS hRW hw hl ⟨⟨_, rfl, by rw [hRW.2.2.2.1]; rfl⟩, hs⟩

theorem sm_getstatic (C : Cx p s m args meth c base L xs ro mi) {x : Int} {idx : Nat} (hxx : x = -3 ∨ x = -4 ∨ x = -5) (hm : Cond.fieldLink (oOf mi) idx (rnF x).1 (rnF x).2.1 (rnF x).2.2.1 ∈ WT) (hd : decode (cOf mi) pc = .ok (.getstatic idx, 3)) (k : Sm p l e R s m args below meth c Q D base L xs ro mi ws0 cells slots (pc + 3) pls (vR x :: pst) sh w) : Sm p l e R s m args below meth c Q D base L xs ro mi ws0 cells slots pc pls (pst) sh w := by
  intro H locs ls st ws tys he hK hP hD hS hRW hw hl hs
  obtain ⟨hx, hb, hml, hown, hts, hini, hbs, hL, hE⟩ := C
  rcases hxx with rfl | rfl | rfl
  · obtain ⟨t, ht, hZ, -⟩ := hE.2.1
    refine va_gets hx hb hZ hS hown (hts _ hm) (fun _ h => h) hd ?_
    exact k H locs ls _ ws tys he hK hP hD hS hRW hw hl ⟨Or.inr ⟨by decide, t, rfl, by unfold adr; rw [if_neg (by decide)]; exact ht⟩, hs⟩
  · obtain ⟨t, ht, hZ, -⟩ := hE.2.2.1
    refine va_gets hx hb hZ hS hown (hts _ hm) (fun _ h => h) hd ?_
    exact k H locs ls _ ws tys he hK hP hD hS hRW hw hl ⟨Or.inr ⟨by decide, t, rfl, by unfold adr; rw [if_neg (by decide)]; exact ht⟩, hs⟩
  · obtain ⟨t, ht, hZ, -⟩ := hE.2.2.2.1
    refine va_gets hx hb hZ hS hown (hts _ hm) (fun _ h => h) hd ?_
    exact k H locs ls _ ws tys he hK hP hD hS hRW hw hl ⟨Or.inr ⟨by decide, t, rfl, by unfold adr; rw [if_neg (by decide)]; exact ht⟩, hs⟩

theorem sm_iastore (C : Cx p s m args meth c base L xs ro mi) {r i v : Int} (hg : stArr sh [1] r i = true) (hd : decode (cOf mi) pc = .ok (.iastore, 1)) (k : Sm p l e R s m args below meth c Q D base L xs ro mi ws0 cells slots (pc + 1) pls pst sh (up w r i (v))) : Sm p l e R s m args below meth c Q D base L xs ro mi ws0 cells slots pc pls (vI v :: vI i :: vR r :: pst) sh w := by
  intro H locs ls st ws tys he hK hP hD hS hRW hw hl hs
  obtain ⟨hx, hb, hml, hown, hts, hini, hbs, hL, hE⟩ := C
  have hs' := srel_cons hs
  clear hs
  obtain ⟨v0, st, rfl, ⟨c0, rfl, hv0⟩, hs⟩ := hs'
  have hs' := srel_cons hs
  clear hs
  obtain ⟨v1, st, rfl, ⟨c1, rfl, h1⟩, hs⟩ := hs'
  have hs' := srel_cons hs
  clear hs
  obtain ⟨v2, st, rfl, h2, hs⟩ := hs'
  subst h1 hv0
  obtain ⟨k0, n, hsx, hk0, hi0, hi1⟩ := stArr_spec hg
  obtain rfl : k0 = 1 := by simpa using hk0
  obtain ⟨a, e0, rfl, h0, hsr, hwr, cA, g, t0, rfl, ht, hgg⟩ := cell_at hw hsx h2
  have hin : vp_in c1 n := vp_in_iff.mpr ⟨hi0, hi1⟩
  refine va_iast hx hb hK hP hD hS r.toNat t0 hwr ht hin hd (fun H1 locs1 hP1 hD1 hS1 => ?_)
  have hxt := ext_set (e := .inl (cA, n, .inl (upd g c1.toNatClampNeg c0))) hwr
  refine k H1 locs1 ls st _ tys (ext_tr he hxt) hK hP1 hD1 hS1 (hRW.of (up_neg h0)) (wrel_set hw hwr hsr ?_ (fun k hk => up_ne (by omega))) (lrel_ext hxt hl) (srel_ext hxt hs)
  refine ⟨cA, _, t0, rfl, ht, fun j hj => ?_⟩
  rw [show ((r.toNat : Nat) : Int) = r by omega]
  unfold up
  by_cases hji : (j : Int) = c1.toInt
  · rw [if_pos ⟨rfl, hji⟩]
    have : c1.toNatClampNeg = j := by rw [tnc]; omega
    rw [this]
    rw [pk_us]
  · rw [if_neg (fun z => hji z.2)]
    have : j ≠ c1.toNatClampNeg := by rw [tnc]; omega
    rw [pk_un this]; exact hgg j hj
theorem sm_lastore (C : Cx p s m args meth c base L xs ro mi) {r i v : Int} (hg : stArr sh [2] r i = true) (hd : decode (cOf mi) pc = .ok (.lastore, 1)) (k : Sm p l e R s m args below meth c Q D base L xs ro mi ws0 cells slots (pc + 1) pls pst sh (up w r i (v))) : Sm p l e R s m args below meth c Q D base L xs ro mi ws0 cells slots pc pls (vL v :: vI i :: vR r :: pst) sh w := by
  intro H locs ls st ws tys he hK hP hD hS hRW hw hl hs
  obtain ⟨hx, hb, hml, hown, hts, hini, hbs, hL, hE⟩ := C
  have hs' := srel_cons hs
  clear hs
  obtain ⟨v0, st, rfl, ⟨c0, rfl, hv0⟩, hs⟩ := hs'
  have hs' := srel_cons hs
  clear hs
  obtain ⟨v1, st, rfl, ⟨c1, rfl, h1⟩, hs⟩ := hs'
  have hs' := srel_cons hs
  clear hs
  obtain ⟨v2, st, rfl, h2, hs⟩ := hs'
  subst h1 hv0
  obtain ⟨k0, n, hsx, hk0, hi0, hi1⟩ := stArr_spec hg
  obtain rfl : k0 = 2 := by simpa using hk0
  obtain ⟨a, e0, rfl, h0, hsr, hwr, cA, g, t0, rfl, ht, hgg⟩ := cell_at hw hsx h2
  have hin : vp_in c1 n := vp_in_iff.mpr ⟨hi0, hi1⟩
  refine va_last hx hb hK hP hD hS r.toNat t0 hwr ht hin hd (fun H1 locs1 hP1 hD1 hS1 => ?_)
  have hxt := ext_set (e := .inl (cA, n, .inr (.inl (vp_updL g c1.toNatClampNeg c0)))) hwr
  refine k H1 locs1 ls st _ tys (ext_tr he hxt) hK hP1 hD1 hS1 (hRW.of (up_neg h0)) (wrel_set hw hwr hsr ?_ (fun k hk => up_ne (by omega))) (lrel_ext hxt hl) (srel_ext hxt hs)
  refine ⟨cA, _, t0, rfl, ht, fun j hj => ?_⟩
  rw [show ((r.toNat : Nat) : Int) = r by omega]
  unfold up
  by_cases hji : (j : Int) = c1.toInt
  · rw [if_pos ⟨rfl, hji⟩]
    have : c1.toNatClampNeg = j := by rw [tnc]; omega
    rw [this]
    rw [pk_uLs]
  · rw [if_neg (fun z => hji z.2)]
    have : j ≠ c1.toNatClampNeg := by rw [tnc]; omega
    rw [pk_uLn this]; exact hgg j hj
theorem sm_bastoreB (C : Cx p s m args meth c base L xs ro mi) {r i v : Int} (hg : stArr sh [3] r i = true) (hd : decode (cOf mi) pc = .ok (.bastore, 1)) (k : Sm p l e R s m args below meth c Q D base L xs ro mi ws0 cells slots (pc + 1) pls pst sh (up w r i (iB v))) : Sm p l e R s m args below meth c Q D base L xs ro mi ws0 cells slots pc pls (vI v :: vI i :: vR r :: pst) sh w := by
  intro H locs ls st ws tys he hK hP hD hS hRW hw hl hs
  obtain ⟨hx, hb, hml, hown, hts, hini, hbs, hL, hE⟩ := C
  have hs' := srel_cons hs
  clear hs
  obtain ⟨v0, st, rfl, ⟨c0, rfl, hv0⟩, hs⟩ := hs'
  have hs' := srel_cons hs
  clear hs
  obtain ⟨v1, st, rfl, ⟨c1, rfl, h1⟩, hs⟩ := hs'
  have hs' := srel_cons hs
  clear hs
  obtain ⟨v2, st, rfl, h2, hs⟩ := hs'
  subst h1 hv0
  obtain ⟨k0, n, hsx, hk0, hi0, hi1⟩ := stArr_spec hg
  obtain rfl : k0 = 3 := by simpa using hk0
  obtain ⟨a, e0, rfl, h0, hsr, hwr, cA, g, t0, rfl, ht, hgg⟩ := cell_at hw hsx h2
  have hin : vp_in c1 n := vp_in_iff.mpr ⟨hi0, hi1⟩
  refine va_bast hx hb hK hP hD hS r.toNat t0 hwr ht hin hd (fun H1 locs1 hP1 hD1 hS1 => ?_)
  have hxt := ext_set (e := .inl (cA, n, .inl (upd g c1.toNatClampNeg (vp_nar .byte c0)))) hwr
  refine k H1 locs1 ls st _ tys (ext_tr he hxt) hK hP1 hD1 hS1 (hRW.of (up_neg h0)) (wrel_set hw hwr hsr ?_ (fun k hk => up_ne (by omega))) (lrel_ext hxt hl) (srel_ext hxt hs)
  refine ⟨cA, _, t0, rfl, ht, fun j hj => ?_⟩
  rw [show ((r.toNat : Nat) : Int) = r by omega]
  unfold up
  by_cases hji : (j : Int) = c1.toInt
  · rw [if_pos ⟨rfl, hji⟩]
    have : c1.toNatClampNeg = j := by rw [tnc]; omega
    rw [this]
    rw [pk_us, vp_nar_byte, Int8.toInt_toInt32, Int32.toInt_toInt8]; rfl
  · rw [if_neg (fun z => hji z.2)]
    have : j ≠ c1.toNatClampNeg := by rw [tnc]; omega
    rw [pk_un this]; exact hgg j hj
theorem sm_bastoreZ (C : Cx p s m args meth c base L xs ro mi) {r i v : Int} (hg : stArr sh [4] r i = true) (hz : v = 0 ∨ v = 1) (hd : decode (cOf mi) pc = .ok (.bastore, 1)) (k : Sm p l e R s m args below meth c Q D base L xs ro mi ws0 cells slots (pc + 1) pls pst sh (up w r i (v))) : Sm p l e R s m args below meth c Q D base L xs ro mi ws0 cells slots pc pls (vI v :: vI i :: vR r :: pst) sh w := by
  intro H locs ls st ws tys he hK hP hD hS hRW hw hl hs
  obtain ⟨hx, hb, hml, hown, hts, hini, hbs, hL, hE⟩ := C
  have hs' := srel_cons hs
  clear hs
  obtain ⟨v0, st, rfl, ⟨c0, rfl, hv0⟩, hs⟩ := hs'
  have hs' := srel_cons hs
  clear hs
  obtain ⟨v1, st, rfl, ⟨c1, rfl, h1⟩, hs⟩ := hs'
  have hs' := srel_cons hs
  clear hs
  obtain ⟨v2, st, rfl, h2, hs⟩ := hs'
  subst h1 hv0
  obtain ⟨k0, n, hsx, hk0, hi0, hi1⟩ := stArr_spec hg
  obtain rfl : k0 = 4 := by simpa using hk0
  obtain ⟨a, e0, rfl, h0, hsr, hwr, cA, g, t0, rfl, ht, hgg⟩ := cell_at hw hsx h2
  have hin : vp_in c1 n := vp_in_iff.mpr ⟨hi0, hi1⟩
  refine va_zast hx hb hK hP hD hS r.toNat t0 hwr ht hin hd (fun H1 locs1 hP1 hD1 hS1 => ?_)
  have hxt := ext_set (e := .inl (cA, n, .inl (upd g c1.toNatClampNeg (vp_nar .boolean c0)))) hwr
  refine k H1 locs1 ls st _ tys (ext_tr he hxt) hK hP1 hD1 hS1 (hRW.of (up_neg h0)) (wrel_set hw hwr hsr ?_ (fun k hk => up_ne (by omega))) (lrel_ext hxt hl) (srel_ext hxt hs)
  refine ⟨cA, _, t0, rfl, ht, fun j hj => ?_⟩
  rw [show ((r.toNat : Nat) : Int) = r by omega]
  unfold up
  by_cases hji : (j : Int) = c1.toInt
  · rw [if_pos ⟨rfl, hji⟩]
    have : c1.toNatClampNeg = j := by rw [tnc]; omega
    rw [this]
    rw [pk_us]
    rcases hz with hz | hz
    · have : c0 = 0 := eq32.mpr (by rw [hz]; rfl)
      subst this
      rfl
    · have : c0 = 1 := eq32.mpr (by rw [hz]; rfl)
      subst this
      rfl
  · rw [if_neg (fun z => hji z.2)]
    have : j ≠ c1.toNatClampNeg := by rw [tnc]; omega
    rw [pk_un this]; exact hgg j hj
theorem sm_aastoreS (C : Cx p s m args meth c base L xs ro mi) {r i v : Int} (hg : stArr sh [5] r i = true) (hvs : shAt sh v = some (0, 7)) (hd : decode (cOf mi) pc = .ok (.aastore, 1)) (k : Sm p l e R s m args below meth c Q D base L xs ro mi ws0 cells slots (pc + 1) pls pst sh (up w r i v)) : Sm p l e R s m args below meth c Q D base L xs ro mi ws0 cells slots pc pls (vR v :: vI i :: vR r :: pst) sh w := by
  intro H locs ls st ws tys he hK hP hD hS hRW hw hl hs
  obtain ⟨hx, hb, hml, hown, hts, hini, hbs, hL, hE⟩ := C
  have hs' := srel_cons hs
  clear hs
  obtain ⟨v0, st, rfl, hv0, hs⟩ := hs'
  have hs' := srel_cons hs
  clear hs
  obtain ⟨v1, st, rfl, ⟨c1, rfl, h1⟩, hs⟩ := hs'
  have hs' := srel_cons hs
  clear hs
  obtain ⟨v2, st, rfl, h2, hs⟩ := hs'
  subst h1
  obtain ⟨k0, n, hsx, hk0, hi0, hi1⟩ := stArr_spec hg
  obtain rfl : k0 = 5 := by simpa using hk0
  obtain ⟨a, e0, rfl, h0, hsr, hwr, cA, g, t0, rfl, ht, hgg⟩ := cell_at hw hsx h2
  have hv0' := hv0
  obtain ⟨av, ev, rfl, hv0n, hvsr, hvwr, fs, rfl, -⟩ := cell_at hw hvs hv0
  have hin : vp_in c1 n := vp_in_iff.mpr ⟨hi0, hi1⟩
  obtain ⟨T, ty, hcl, -⟩ := cls_7
  refine va_astq (r := (CN 7, T, NT 7)) hx hb hK hP hD hS r.toNat t0 v.toNat 7 hwr ht hvwr hcl hin hd (fun H1 locs1 hP1 hD1 hS1 => ?_)
  have hxt := ext_set (e := .inl (cA, n, .inr (.inr (.inr (.inr (va_up g c1.toNatClampNeg (some av))))))) hwr
  refine k H1 locs1 ls st _ tys (ext_tr he hxt) hK hP1 hD1 hS1 (hRW.of (up_neg h0)) (wrel_set hw hwr hsr ?_ (fun k hk => up_ne (by omega))) (lrel_ext hxt hl) (srel_ext hxt hs)
  refine ⟨cA, _, t0, rfl, ht, fun j hj => ?_⟩
  rw [show ((r.toNat : Nat) : Int) = r by omega]
  unfold up va_up
  by_cases hji : (j : Int) = c1.toInt
  · rw [if_pos (by rw [tnc]; omega), if_pos ⟨rfl, hji⟩]
    exact hv0'
  · rw [if_neg (by rw [tnc]; omega), if_neg (fun z => hji z.2)]
    exact hgg j hj
theorem sm_aastoreL (C : Cx p s m args meth c base L xs ro mi) {r i v : Int} (hg : stArr sh [6] r i = true) (hvs : shAt sh v = some (0, 3)) (hd : decode (cOf mi) pc = .ok (.aastore, 1)) (k : Sm p l e R s m args below meth c Q D base L xs ro mi ws0 cells slots (pc + 1) pls pst sh (up w r i v)) : Sm p l e R s m args below meth c Q D base L xs ro mi ws0 cells slots pc pls (vR v :: vI i :: vR r :: pst) sh w := by
  intro H locs ls st ws tys he hK hP hD hS hRW hw hl hs
  obtain ⟨hx, hb, hml, hown, hts, hini, hbs, hL, hE⟩ := C
  have hs' := srel_cons hs
  clear hs
  obtain ⟨v0, st, rfl, hv0, hs⟩ := hs'
  have hs' := srel_cons hs
  clear hs
  obtain ⟨v1, st, rfl, ⟨c1, rfl, h1⟩, hs⟩ := hs'
  have hs' := srel_cons hs
  clear hs
  obtain ⟨v2, st, rfl, h2, hs⟩ := hs'
  subst h1
  obtain ⟨k0, n, hsx, hk0, hi0, hi1⟩ := stArr_spec hg
  obtain rfl : k0 = 6 := by simpa using hk0
  obtain ⟨a, e0, rfl, h0, hsr, hwr, cA, g, t0, rfl, ht, hgg⟩ := cell_at hw hsx h2
  have hv0' := hv0
  obtain ⟨av, ev, rfl, hv0n, hvsr, hvwr, fs, rfl, -⟩ := cell_at hw hvs hv0
  have hin : vp_in c1 n := vp_in_iff.mpr ⟨hi0, hi1⟩
  obtain ⟨T, ty, hcl, -⟩ := cls_3
  refine va_astq (r := (CN 3, T, NT 3)) hx hb hK hP hD hS r.toNat t0 v.toNat 3 hwr ht hvwr hcl hin hd (fun H1 locs1 hP1 hD1 hS1 => ?_)
  have hxt := ext_set (e := .inl (cA, n, .inr (.inr (.inr (.inr (va_up g c1.toNatClampNeg (some av))))))) hwr
  refine k H1 locs1 ls st _ tys (ext_tr he hxt) hK hP1 hD1 hS1 (hRW.of (up_neg h0)) (wrel_set hw hwr hsr ?_ (fun k hk => up_ne (by omega))) (lrel_ext hxt hl) (srel_ext hxt hs)
  refine ⟨cA, _, t0, rfl, ht, fun j hj => ?_⟩
  rw [show ((r.toNat : Nat) : Int) = r by omega]
  unfold up va_up
  by_cases hji : (j : Int) = c1.toInt
  · rw [if_pos (by rw [tnc]; omega), if_pos ⟨rfl, hji⟩]
    exact hv0'
  · rw [if_neg (by rw [tnc]; omega), if_neg (fun z => hji z.2)]
    exact hgg j hj
theorem sm_objInit (C : Cx p s m args meth c base L xs ro mi) {r : Int} {idx : Nat} (hr : r ≠ -1) (hst : pst.length ≤ 4) (hR : 1 ≤ R.frames ∧ 40 ≤ R.locals) (hm : Cond.methodLink (oOf mi) idx Lib.objectInit ∈ WT) (hd : decode (cOf mi) pc = .ok (.invokespecial idx, 3)) (k : Sm p l e R s m args below meth c Q D base L xs ro mi ws0 cells slots (pc + 3) pls pst sh w) : Sm p l e R s m args below meth c Q D base L xs ro mi ws0 cells slots pc pls (vR r :: pst) sh w := by
  intro H locs ls st ws tys he hK hP hD hS hRW hw hl hs
  obtain ⟨hx, hb, hml, hown, hts, hini, hbs, hL, hE⟩ := C
  have hs' := srel_cons hs
  clear hs
  obtain ⟨v2, st, rfl, h2, hs⟩ := hs'
  rcases h2 with ⟨z, -⟩ | ⟨h0, a, rfl, ha⟩
  · exact absurd z hr
  have hsl := srel_len hs
  have hcs := cat_sum st
  obtain ⟨lv, g1, -⟩ := id hl
  refine W.objInit hx hb hown (hts _ hm) (hts _ (WT_in (p := 86) (by decide +kernel) rfl)) (hts _ (tk_1 22 rfl rfl)) (g := F0 m pc ls (.ref a :: st)) rfl (g1.1.trans hml.symm) rfl hd hR.1 (by show 2 * 0 + _ + 12 ≤ _; omega) ?_
  exact k H locs ls _ ws tys he hK hP hD hS hRW hw hl hs
theorem sm_mmax (C : Cx p s m args meth c base L xs ro mi) {a b : Int} {idx : Nat} (hst : pst.length ≤ 4) (hR : 1 ≤ R.frames ∧ 40 ≤ R.locals) (hcs : cells ≤ R.cells ∧ slots ≤ R.slots) (hm : Cond.methodLink (oOf mi) idx Lib.Math.max.name ∈ WT) (hd : decode (cOf mi) pc = .ok (.invokestatic idx, 3)) (k : Sm p l e R s m args below meth c Q D base L xs ro mi ws0 cells slots (pc + 3) pls (vI (if a < b then b else a) :: pst) sh w) : Sm p l e R s m args below meth c Q D base L xs ro mi ws0 cells slots pc pls (vI b :: vI a :: pst) sh w := by
  intro H locs ls st ws tys he hK hP hD hS hRW hw hl hs
  obtain ⟨hx, hb, hml, hown, hts, hini, hbs, hL, hE⟩ := C
  have hs' := srel_cons hs
  clear hs
  obtain ⟨v1, st, rfl, ⟨c1, rfl, h1⟩, hs⟩ := hs'
  have hs' := srel_cons hs
  clear hs
  obtain ⟨v2, st, rfl, ⟨c2, rfl, h2⟩, hs⟩ := hs'
  subst h1 h2
  have hsl := srel_len hs
  have hcs2 := cat_sum st
  obtain ⟨lv, g1, -⟩ := id hl
  refine va_mmax hx hb (hml.trans g1.1.symm) hown (hts _ hm) (hts _ (WT_in (p := 288) (by decide +kernel) rfl)) (hts _ (WT_in (p := 76) (by decide +kernel) rfl)) (hts _ (tk_1 224 rfl rfl)) hR.1 (by omega) hcs.1 hcs.2 hd ?_
  exact k H locs ls _ ws tys he hK hP hD hS hRW hw hl ⟨⟨_, rfl, by rw [apply_ite Int32.toInt]; simp only [lt32]⟩, hs⟩
theorem sm_mmin (C : Cx p s m args meth c base L xs ro mi) {a b : Int} {idx : Nat} (hst : pst.length ≤ 4) (hR : 1 ≤ R.frames ∧ 40 ≤ R.locals) (hcs : cells ≤ R.cells ∧ slots ≤ R.slots) (hm : Cond.methodLink (oOf mi) idx Lib.Math.min.name ∈ WT) (hd : decode (cOf mi) pc = .ok (.invokestatic idx, 3)) (k : Sm p l e R s m args below meth c Q D base L xs ro mi ws0 cells slots (pc + 3) pls (vI (if b < a then b else a) :: pst) sh w) : Sm p l e R s m args below meth c Q D base L xs ro mi ws0 cells slots pc pls (vI b :: vI a :: pst) sh w := by
  intro H locs ls st ws tys he hK hP hD hS hRW hw hl hs
  obtain ⟨hx, hb, hml, hown, hts, hini, hbs, hL, hE⟩ := C
  have hs' := srel_cons hs
  clear hs
  obtain ⟨v1, st, rfl, ⟨c1, rfl, h1⟩, hs⟩ := hs'
  have hs' := srel_cons hs
  clear hs
  obtain ⟨v2, st, rfl, ⟨c2, rfl, h2⟩, hs⟩ := hs'
  subst h1 h2
  have hsl := srel_len hs
  have hcs2 := cat_sum st
  obtain ⟨lv, g1, -⟩ := id hl
  refine va_mmin hx hb (hml.trans g1.1.symm) hown (hts _ hm) (hts _ (WT_in (p := 365) (by decide +kernel) rfl)) (hts _ (WT_in (p := 76) (by decide +kernel) rfl)) (hts _ (tk_2 61 rfl rfl)) hR.1 (by omega) hcs.1 hcs.2 hd ?_
  exact k H locs ls _ ws tys he hK hP hD hS hRW hw hl ⟨⟨_, rfl, by rw [apply_ite Int32.toInt]; simp only [lt32]⟩, hs⟩
theorem sm_mabs (C : Cx p s m args meth c base L xs ro mi) {a : Int} {idx : Nat} (hst : pst.length ≤ 4) (hR : 1 ≤ R.frames ∧ 40 ≤ R.locals) (hcs : cells ≤ R.cells ∧ slots ≤ R.slots) (hm : Cond.methodLink (oOf mi) idx Lib.Math.abs.name ∈ WT) (hd : decode (cOf mi) pc = .ok (.invokestatic idx, 3)) (k : Sm p l e R s m args below meth c Q D base L xs ro mi ws0 cells slots (pc + 3) pls (vI (if 0 ≤ a then a else w32 (0 - a)) :: pst) sh w) : Sm p l e R s m args below meth c Q D base L xs ro mi ws0 cells slots pc pls (vI a :: pst) sh w := by
  intro H locs ls st ws tys he hK hP hD hS hRW hw hl hs
  obtain ⟨hx, hb, hml, hown, hts, hini, hbs, hL, hE⟩ := C
  have hs' := srel_cons hs
  clear hs
  obtain ⟨v1, st, rfl, ⟨c1, rfl, h1⟩, hs⟩ := hs'
  subst h1
  have hsl := srel_len hs
  have hcs2 := cat_sum st
  obtain ⟨lv, g1, -⟩ := id hl
  refine va_mabs hx hb (hml.trans g1.1.symm) hown (hts _ hm) (hts _ (WT_in (p := 493) (by decide +kernel) rfl)) (hts _ (WT_in (p := 76) (by decide +kernel) rfl)) (hts _ (tk_2 189 rfl rfl)) hR.1 (by omega) hcs.1 hcs.2 hd ?_
  exact k H locs ls _ ws tys he hK hP hD hS hRW hw hl ⟨⟨_, rfl, by rw [apply_ite Int32.toInt]; simp only [le32, Int32.toInt_sub]; rfl⟩, hs⟩
theorem sm_copy (C : Cx p s m args meth c base L xs ro mi) {sr d n sp dp : Int} {n0 n1 idx : Nat} (hs1 : shAt sh sr = some (1, n0)) (hd1 : shAt sh d = some (1, n1)) (hc : 0 ≤ n ∧ 0 ≤ sp ∧ 0 ≤ dp ∧ sp + n ≤ n0 ∧ dp + n ≤ n1 ∧ pst.length ≤ 4) (hR : 1 ≤ R.frames ∧ 40 ≤ R.locals) (hm : Cond.methodLink (oOf mi) idx arraycopyName ∈ WT) (hd : decode (cOf mi) pc = .ok (.invokestatic idx, 3)) (k : Sm p l e R s m args below meth c Q D base L xs ro mi ws0 cells slots (pc + 3) pls pst sh (fun a j => if a = d ∧ dp ≤ j ∧ j < dp + n then w sr (sp + (j - dp)) else w a j)) : Sm p l e R s m args below meth c Q D base L xs ro mi ws0 cells slots pc pls (vI n :: vI dp :: vR d :: vI sp :: vR sr :: pst) sh w := by
  intro H locs ls st ws tys he hK hP hD hS hRW hw hl hs
  obtain ⟨hx, hb, hml, hown, hts, hini, hbs, hL, hE⟩ := C
  have hs' := srel_cons hs
  clear hs
  obtain ⟨v1, st, rfl, ⟨c1, rfl, h1⟩, hs⟩ := hs'
  have hs' := srel_cons hs
  clear hs
  obtain ⟨v2, st, rfl, ⟨c2, rfl, h2⟩, hs⟩ := hs'
  have hs' := srel_cons hs
  clear hs
  obtain ⟨v3, st, rfl, h3, hs⟩ := hs'
  have hs' := srel_cons hs
  clear hs
  obtain ⟨v4, st, rfl, ⟨c4, rfl, h4⟩, hs⟩ := hs'
  have hs' := srel_cons hs
  clear hs
  obtain ⟨v5, st, rfl, h5, hs⟩ := hs'
  subst h1 h2 h4
  have hsl := srel_len hs
  have hcs2 := cat_sum st
  obtain ⟨lv, g1, -⟩ := id hl
  obtain ⟨ad, ed, rfl, hd0, hdsr, hdwr, cD, gD, tD, rfl, htD, hgD⟩ := cell_at hw hd1 h3
  obtain ⟨as, es, rfl, hs0, hssr, hswr, cS, gS, tS, rfl, htS, hgS⟩ := cell_at hw hs1 h5
  obtain ⟨hc1, hc2, hc3, hc4, hc5, hc6⟩ := hc
  refine va_copyi hx hb (hml.trans g1.1.symm) hown (hts _ hm) (hts _ (WT_in (p := 401) (by decide +kernel) rfl)) (hts _ (WT_in (p := 400) (by decide +kernel) rfl)) (hts _ (WT_in (p := 78) (by decide +kernel) rfl)) hK hP hD hS sr.toNat d.toNat tS tD hswr hdwr htS htD rfl (fun z => by rw [lt32] at z; have : (0 : Int32).toInt = 0 := rfl; omega) (fun z => by rw [lt32] at z; have : (0 : Int32).toInt = 0 := rfl; omega) (fun z => by rw [lt32] at z; have : (0 : Int32).toInt = 0 := rfl; omega) (by rw [tnc, tnc]; omega) (by rw [tnc, tnc]; omega) (fun i _ => rfl) hR.1 (by rw [show nativeFrameWords "java/lang/System" "arraycopy" 5 = 7 by decide]; omega) hd (fun H1 locs1 hP1 hD1 hS1 => ?_)
  have hxt := ext_set (e := .inl (cD, n1, .inl (va_cpy gS gD c4.toNatClampNeg c2.toNatClampNeg c1.toNatClampNeg))) hdwr
  refine k H1 locs1 ls st _ tys (ext_tr he hxt) hK hP1 hD1 hS1 (hRW.of (fun a ha => by funext j; rw [if_neg (fun z => by omega)])) (wrel_set hw hdwr hdsr ?_ (fun k hk => by funext j; rw [if_neg (fun z => by omega)])) (lrel_ext hxt hl) (srel_ext hxt hs)
  refine ⟨cD, _, tD, rfl, htD, fun j hj => ?_⟩
  rw [show ((d.toNat : Nat) : Int) = d by omega]
  unfold va_cpy
  rw [tnc, tnc, tnc]
  dsimp only
  by_cases hji : c2.toInt ≤ (j : Int) ∧ (j : Int) < c2.toInt + c1.toInt
  · rw [if_pos (by omega), if_pos ⟨rfl, hji⟩, hgS _ (by omega)]
    congr 1
    omega
  · rw [if_neg (by omega), if_neg (fun z => hji z.2)]
    exact hgD j hj
end SIM
end
section
/-! one pure step is one step of the machine -/
section SIM
variable {p : Program} {l : Launch} {e : Env} {R : Room} {s : State} {m : MethodId} {args : Array Value} {below : List Frame} {meth : Method} {c : Code} {Q : State → Prop} {D : va_G} {base L : Nat} {xs : Nat → Int32} {ro : Int → Option Nat} {mi : Nat} {ws0 : va_W} {cells slots : Nat} {pc : Nat} {pls : PL} {pst : List PV} {sh : Shp} {w : Hp}
set_option maxHeartbeats 4000000 in
theorem sm_step (C : Cx p s m args meth c base L xs ro mi) {ins : Instr} {len pos : Nat} {x : Int} {pc' : Nat} {pls' : PL} {pst' : List PV} {w' : Hp} (hR : 1 ≤ R.frames ∧ 40 ≤ R.locals) (hcs : cells ≤ R.cells ∧ slots ≤ R.slots) (hd : decode (cOf mi) pc = .ok (ins, len)) (hlen : len = lenOf ins len) (hok : okWord mi (oOf mi) pc ins x pos = true) (h : step1 sh ins len x pc pls pst w = some (pc', pls', pst', w')) (k : Sm p l e R s m args below meth c Q D base L xs ro mi ws0 cells slots pc' pls' pst' sh w') : Sm p l e R s m args below meth c Q D base L xs ro mi ws0 cells slots pc pls pst sh w := by
  unfold step1 at h
  split at h
  · obtain rfl : len = 1 := hlen
    split at h
    · rename_i hg
      split at h
      · cases h
      · rename_i hr
        cases h
        exact sm_aload_n C hr hg hd k
    · cases h
  · obtain rfl : len = 2 := hlen
    split at h
    · rename_i hg
      split at h
      · cases h
      · rename_i hr
        cases h
        exact sm_aload C hr hg hd k
    · cases h
  · obtain rfl : len = 1 := hlen
    split at h
    · rename_i hg
      cases h
      exact sm_iload_n C hg hd k
    · cases h
  · obtain rfl : len = 2 := hlen
    split at h
    · rename_i hg
      cases h
      exact sm_iload C hg hd k
    · cases h
  · obtain rfl : len = 1 := hlen
    split at h
    · rename_i hg
      cases h
      exact sm_lload_n C hg hd k
    · cases h
  · obtain rfl : len = 2 := hlen
    split at h
    · rename_i hg
      cases h
      exact sm_lload C hg hd k
    · cases h
  · obtain rfl : len = 1 := hlen
    split at h
    · split at h
      · rename_i hk
        cases h
        exact sm_istore_n C hk hd k
      · cases h
    · cases h
  · obtain rfl : len = 2 := hlen
    split at h
    · split at h
      · rename_i hk
        cases h
        exact sm_istore C hk hd k
      · cases h
    · cases h
  · obtain rfl : len = 1 := hlen
    split at h
    · split at h
      · cases h
      · rename_i hr
        split at h
        · rename_i hk
          cases h
          exact sm_astore_n C hr hk hd k
        · cases h
    · cases h
  · obtain rfl : len = 1 := hlen
    split at h
    · split at h
      · rename_i hk
        cases h
        exact sm_lstore_n C hk hd k
      · cases h
    · cases h
  · obtain rfl : len = 2 := hlen
    split at h
    · split at h
      · rename_i hk
        cases h
        exact sm_lstore C hk hd k
      · cases h
    · cases h
  · obtain rfl : len = 3 := hlen
    split at h
    · rename_i hg
      cases h
      exact sm_iinc C hg hd k
    · cases h
  · obtain rfl : len = 1 := hlen
    cases h
    exact sm_iconst C hd k
  · obtain rfl : len = 2 := hlen
    cases h
    exact sm_bipush C hd k
  · obtain rfl : len = 3 := hlen
    cases h
    exact sm_sipush C hd k
  · obtain rfl : len = 2 := hlen
    cases h
    exact sm_ldc C (WT_in hok rfl) hd k
  · obtain rfl : len = 3 := hlen
    cases h
    exact sm_ldc_w C (WT_in hok rfl) hd k
  · obtain rfl : len = 3 := hlen
    cases h
    exact sm_ldc2_w C (WT_in hok rfl) hd k
  · obtain rfl : len = 1 := hlen
    cases h
    exact sm_lconst C hd k
  · obtain rfl : len = 1 := hlen
    cases h
    exact sm_null C hd k
  · obtain rfl : len = 1 := hlen
    split at h
    · cases h
      exact sm_dupI C hd k
    · cases h
      exact sm_dupR C hd k
    · cases h
  · obtain rfl : len = 1 := hlen
    split at h
    · cases h
      exact sm_dup2 C hd k
    · cases h
  · obtain rfl : len = 1 := hlen
    split at h
    · cases h
      exact sm_pop C hd k
    · cases h
  · obtain rfl : len = 1 := hlen
    split at h
    · cases h
      exact sm_iadd C hd k
    · cases h
  · obtain rfl : len = 1 := hlen
    split at h
    · cases h
      exact sm_isub C hd k
    · cases h
  · obtain rfl : len = 1 := hlen
    split at h
    · cases h
      exact sm_imul C hd k
    · cases h
  · obtain rfl : len = 1 := hlen
    split at h
    · split at h
      · cases h
      · rename_i hn
        cases h
        exact sm_idiv C hn hd k
    · cases h
  · obtain rfl : len = 1 := hlen
    split at h
    · split at h
      · cases h
      · rename_i hn
        cases h
        exact sm_irem C hn hd k
    · cases h
  · obtain rfl : len = 1 := hlen
    split at h
    · cases h
      exact sm_ineg C hd k
    · cases h
  · obtain rfl : len = 1 := hlen
    split at h
    · cases h
      exact sm_iand C hd k
    · cases h
  · obtain rfl : len = 1 := hlen
    split at h
    · cases h
      exact sm_ior C hd k
    · cases h
  · obtain rfl : len = 1 := hlen
    split at h
    · cases h
      exact sm_ixor C hd k
    · cases h
  · obtain rfl : len = 1 := hlen
    split at h
    · cases h
      exact sm_ishl C hd k
    · cases h
  · obtain rfl : len = 1 := hlen
    split at h
    · cases h
      exact sm_ishr C hd k
    · cases h
  · obtain rfl : len = 1 := hlen
    split at h
    · cases h
      exact sm_iushr C hd k
    · cases h
  · obtain rfl : len = 1 := hlen
    split at h
    · cases h
      exact sm_i2l C hd k
    · cases h
  · obtain rfl : len = 1 := hlen
    split at h
    · cases h
      exact sm_l2i C hd k
    · cases h
  · obtain rfl : len = 1 := hlen
    split at h
    · cases h
      exact sm_i2b C hd k
    · cases h
  · obtain rfl : len = 1 := hlen
    split at h
    · cases h
      exact sm_ladd C hd k
    · cases h
  · obtain rfl : len = 1 := hlen
    split at h
    · cases h
      exact sm_lmul C hd k
    · cases h
  · obtain rfl : len = 1 := hlen
    split at h
    · split at h
      · cases h
      · rename_i hn
        cases h
        exact sm_ldiv C hn hd k
    · cases h
  · obtain rfl : len = 1 := hlen
    split at h
    · split at h
      · cases h
      · rename_i hn
        cases h
        exact sm_lrem C hn hd k
    · cases h
  · obtain rfl : len = 1 := hlen
    split at h
    · cases h
      exact sm_lcmp C hd k
    · cases h
  · obtain rfl : len = 3 := hlen
    cases h
    exact sm_goto C hd (of_decide_eq_true hok) k
  · obtain rfl : len = 3 := hlen
    split at h
    · split at h
      · cases h
        exact sm_if_eq C hd (of_decide_eq_true hok) k
      · cases h
        exact sm_if_ne C hd (of_decide_eq_true hok) k
      · cases h
        exact sm_if_lt C hd (of_decide_eq_true hok) k
      · cases h
        exact sm_if_ge C hd (of_decide_eq_true hok) k
      · cases h
        exact sm_if_gt C hd (of_decide_eq_true hok) k
      · cases h
        exact sm_if_le C hd (of_decide_eq_true hok) k
    · cases h
  · obtain rfl : len = 3 := hlen
    split at h
    · split at h
      · cases h
        exact sm_icmp_eq C hd (of_decide_eq_true hok) k
      · cases h
        exact sm_icmp_ne C hd (of_decide_eq_true hok) k
      · cases h
        exact sm_icmp_lt C hd (of_decide_eq_true hok) k
      · cases h
        exact sm_icmp_ge C hd (of_decide_eq_true hok) k
      · cases h
        exact sm_icmp_gt C hd (of_decide_eq_true hok) k
      · cases h
        exact sm_icmp_le C hd (of_decide_eq_true hok) k
    · cases h
  · obtain rfl : len = 3 := hlen
    split at h
    · split at h
      · cases h
      · rename_i hr
        cases h
        exact sm_ifnull C hr hd k
    · cases h
  · rw [okWord, Bool.and_eq_true] at hok
    split at h
    · split at h
      · rename_i ha
        cases h
        exact sm_swOut C ha hd (of_decide_eq_true hok.1) k
      · rename_i ha
        split at h
        · rename_i o ho
          cases h
          have h2 := List.all_eq_true.mp hok.2 o (by rw [← Array.getElem?_toList] at ho; exact List.mem_of_getElem? ho)
          exact sm_swIn C ha ho hd (of_decide_eq_true h2) k
        · cases h
    · cases h
  · obtain rfl : len = 3 := hlen
    rw [okWord, Bool.and_eq_true] at hok
    split at h
    · split at h
      · rename_i hsx
        split at h
        · rename_i ht
          cases h
          exact sm_getfield C hsx (of_decide_eq_true hok.1) (WT_in hok.2 rfl) ht hd k
        · cases h
      · cases h
    · cases h
  · obtain rfl : len = 3 := hlen
    rw [okWord, Bool.and_eq_true, Bool.and_eq_true] at hok
    split at h
    · split at h
      · rename_i hsx
        split at h
        · rename_i ht
          cases h
          refine sm_putfield C hsx (of_decide_eq_true hok.1.1) (WT_in hok.1.2 rfl) (fun hf => ?_) ht hd k
          have h3 := hok.2
          rw [hf, Bool.not_true, Bool.false_or, Bool.and_eq_true] at h3
          exact ⟨of_decide_eq_true h3.1, of_decide_eq_true h3.2⟩
        · cases h
      · cases h
    · cases h
  · obtain rfl : len = 3 := hlen
    rw [okWord, Bool.and_eq_true] at hok
    cases h
    exact sm_getstatic C (of_decide_eq_true hok.1) (WT_in hok.2 rfl) hd k
  · obtain rfl : len = 1 := hlen
    split at h
    · split at h
      · rename_i h0
        split at h
        · rename_i hsx
          split at h
          · rename_i hn
            cases h
            exact sm_alenH C (shAt_of h0 hsx) hn hd k
          · cases h
        · cases h
      · split at h
        · rename_i hr
          cases h
          exact sm_alenO C hr.1 hd k
        · cases h
    · cases h
  · obtain rfl : len = 1 := hlen
    split at h
    · split at h
      · rename_i hg
        cases h
        exact sm_iaload C hg hd k
      · cases h
    · cases h
  · obtain rfl : len = 1 := hlen
    split at h
    · split at h
      · rename_i hg
        cases h
        exact sm_caload C hg hd k
      · cases h
    · cases h
  · obtain rfl : len = 1 := hlen
    split at h
    · split at h
      · rename_i hg
        cases h
        exact sm_baload C hg hd k
      · cases h
    · cases h
  · obtain rfl : len = 1 := hlen
    split at h
    · split at h
      · rename_i hg
        cases h
        exact sm_laload C hg hd k
      · cases h
    · cases h
  · obtain rfl : len = 1 := hlen
    split at h
    · split at h
      · rename_i hg
        cases h
        exact sm_aaload C hg hd k
      · cases h
    · cases h
  · obtain rfl : len = 1 := hlen
    split at h
    · split at h
      · rename_i hg
        cases h
        exact sm_iastore C hg hd k
      · cases h
    · cases h
  · obtain rfl : len = 1 := hlen
    split at h
    · split at h
      · rename_i hg
        cases h
        exact sm_lastore C hg hd k
      · cases h
    · cases h
  · obtain rfl : len = 1 := hlen
    split at h
    · split at h
      · rename_i hg
        cases h
        exact sm_bastoreB C hg hd k
      · split at h
        · rename_i hg
          cases h
          exact sm_bastoreZ C hg.1 hg.2 hd k
        · cases h
    · cases h
  · obtain rfl : len = 1 := hlen
    split at h
    · split at h
      · rename_i hg
        cases h
        exact sm_aastoreS C hg.1 hg.2 hd k
      · split at h
        · rename_i hg
          cases h
          exact sm_aastoreL C hg.1 hg.2 hd k
        · cases h
    · cases h
  · obtain rfl : len = 3 := hlen
    split at h
    · split at h
      · rename_i hg
        cases h
        obtain ⟨rfl, hr, hst⟩ := hg
        rw [okWord, if_pos rfl] at hok
        exact sm_objInit C hr hst hR (WT_in hok rfl) hd k
      · cases h
    · cases h
  · obtain rfl : len = 3 := hlen
    split at h
    · rename_i hx2
      subst hx2
      rw [okWord, if_pos rfl] at hok
      split at h
      · split at h
        · rename_i hs1 hd1
          split at h
          · rename_i hc
            cases h
            exact sm_copy C hs1 hd1 hc hR (WT_in hok rfl) hd k
          · cases h
        · cases h
      · cases h
    · split at h
      · rename_i hx2 hx3
        subst hx3
        rw [okWord, if_neg (by decide), if_pos rfl] at hok
        split at h
        · split at h
          · rename_i hst
            cases h
            exact sm_mmax C hst hR hcs (WT_in hok rfl) hd k
          · cases h
        · cases h
      · split at h
        · rename_i hx2 hx3 hx4
          subst hx4
          rw [okWord, if_neg (by decide), if_neg (by decide), if_pos rfl] at hok
          split at h
          · split at h
            · rename_i hst
              cases h
              exact sm_mmin C hst hR hcs (WT_in hok rfl) hd k
            · cases h
          · cases h
        · split at h
          · rename_i hx2 hx3 hx4 hx5
            subst hx5
            rw [okWord, if_neg (by decide), if_neg (by decide), if_neg (by decide), if_pos rfl] at hok
            split at h
            · split at h
              · rename_i hst
                cases h
                exact sm_mabs C hst hR hcs (WT_in hok rfl) hd k
              · cases h
            · cases h
          · cases h
  · cases h
end SIM
end
section
/-! making cells -/
def slot1 (q : Nat × Nat) : Nat := if q.1 = 0 then NT q.2 else q.2
def slotsOf (sh : Shp) : Nat := (sh.map slot1).sum
theorem crel_tys {ro : Int → Option Nat} {ws : va_W} {tys t : List (ClassId × FieldType)} {s : Nat × Nat} {e : va_E} {f : Int → Int} (h : crel ro ws tys s e f) : crel ro ws (tys ++ t) s e f := by
  have ap : ∀ {t0 : Nat} {q : ClassId × FieldType}, tys[t0]? = some q → (tys ++ t)[t0]? = some q := fun h => by rw [List.getElem?_append_left (List.getElem?_eq_some_iff.mp h).1]; exact h
  obtain ⟨s1, s2⟩ := s
  match s1, h with
  | 0, h => exact h
  | 1, ⟨cA, g, t0, h1, h2, h3⟩ => exact ⟨cA, g, t0, h1, ap h2, h3⟩
  | 2, ⟨cA, g, t0, h1, h2, h3⟩ => exact ⟨cA, g, t0, h1, ap h2, h3⟩
  | 3, ⟨cA, g, t0, h1, h2, h3⟩ => exact ⟨cA, g, t0, h1, ap h2, h3⟩
  | 4, ⟨cA, g, t0, h1, h2, h3⟩ => exact ⟨cA, g, t0, h1, ap h2, h3⟩
  | 5, ⟨cA, g, t0, h1, h2, h3⟩ => exact ⟨cA, g, t0, h1, ap h2, h3⟩
  | 6, ⟨cA, g, t0, h1, h2, h3⟩ => exact ⟨cA, g, t0, h1, ap h2, h3⟩
  | 7, ⟨cA, g, t0, h1, h2, h3⟩ => exact ⟨cA, g, t0, h1, ap h2, h3⟩
theorem wrel_tys {ro : Int → Option Nat} {ws : va_W} {tys t : List (ClassId × FieldType)} {sh : Shp} {w : Hp} (h : wrel ro tys ws sh w) : wrel ro (tys ++ t) ws sh w := ⟨h.1, fun k s e h1 h2 => crel_tys (h.2 k s e h1 h2)⟩
theorem wrel_push {ro : Int → Option Nat} {ws : va_W} {tys : List (ClassId × FieldType)} {sh : Shp} {w w' : Hp} {q : Nat} {e : va_E} {s : Nat × Nat} (h : wrel ro tys ws sh w) (hc : crel ro (ws ++ [(q, e)]) tys s e (w' sh.length)) (ho : ∀ k : Nat, k < sh.length → w' k = w k) : wrel ro tys (ws ++ [(q, e)]) (sh ++ [s]) w' := by
  refine ⟨by rw [List.length_append, List.length_append, h.1]; rfl, fun k s' x hk hx => ?_⟩
  by_cases hl : k < sh.length
  · rw [List.getElem?_append_left hl] at hk
    rw [List.getElem?_append_left (by rw [h.1]; exact hl)] at hx
    rw [ho k hl]
    exact crel_ext (ext_app _ _) (h.2 k s' x hk hx)
  · rw [List.getElem?_append_right (by omega)] at hk
    rw [List.getElem?_append_right (by rw [h.1]; omega)] at hx
    have hz : k - sh.length < 1 := (List.getElem?_eq_some_iff.mp hk).1
    have hk0 : k = sh.length := by omega
    subst hk0
    rw [Nat.sub_self] at hk
    rw [h.1, Nat.sub_self] at hx
    cases hk
    cases hx
    exact hc
theorem new_ref {ro : Int → Option Nat} {ws : va_W} {tys : List (ClassId × FieldType)} {sh : Shp} {w : Hp} (h : wrel ro tys ws sh w) (q : Nat) (e : va_E) (r : va_W) : vrel ro (ws ++ ((q, e) :: r)) (.ref q) (vR sh.length) := by
  refine Or.inr ⟨by omega, q, rfl, ?_⟩
  unfold adr
  rw [if_pos (by omega), show ((sh.length : Nat) : Int).toNat = ws.length by rw [h.1]; omega, List.getElem?_append_right (Nat.le_refl _), Nat.sub_self]
  rfl
theorem fill_ne {w : Hp} {r : Int} {f : Int → Int} {a : Int} (h : a ≠ r) : fill w r f a = w a := by
  funext j
  unfold fill
  rw [if_neg h]
theorem fill_eq (w : Hp) (r : Int) (f : Int → Int) (j : Int) : fill w r f r j = f j := by
  unfold fill
  rw [if_pos rfl]
section SIM
variable {p : Program} {l : Launch} {e : Env} {R : Room} {s : State} {m : MethodId} {args : Array Value} {below : List Frame} {meth : Method} {c : Code} {Q : State → Prop} {D : va_G} {base L : Nat} {xs : Nat → Int32} {ro : Int → Option Nat} {mi : Nat} {ws0 : va_W} {cells slots : Nat} {pc : Nat} {pls : PL} {pst : List PV} {sh : Shp} {w : Hp}
theorem sm_new (C : Cx p s m args meth c base L xs ro mi) {x : Int} {idx : Nat} (hxi : x.toNat < 11) (hm : Cond.classLink (oOf mi) idx (CN x.toNat) ∈ WT) (hRc : cells + 1 ≤ R.cells ∧ slots + NT x.toNat ≤ R.slots) (hd : decode (cOf mi) pc = .ok (.new idx, 3)) (k : Sm p l e R s m args below meth c Q D base L xs ro mi ws0 (cells + 1) (slots + NT x.toNat) (pc + 3) pls (vR sh.length :: pst) (sh ++ [(0, x.toNat)]) (fill w sh.length (fun j => if fk x.toNat j.toNat = 2 then -1 else 0))) : Sm p l e R s m args below meth c Q D base L xs ro mi ws0 (cells) (slots) pc pls (pst) sh w := by
  intro H locs ls st ws tys he hK hP hD hS hRW hw hl hs
  obtain ⟨hx, hb, hml, hown, hts, hini, hbs, hL, hE⟩ := C
  have hA : ∀ q : Nat, s.heap.size ≤ q → (fun q : Nat => base ≤ q) q := fun q h => Nat.le_trans hbs h
  obtain ⟨T, ty, hcl, hT, hin, hty, hnm, hi1, hi2, hkd⟩ := cls_all _ hxi
  have hlen : ((List.range (NT x.toNat)).map (fun j => defaultValue (ty j))).length = NT x.toNat := by rw [List.length_map, List.length_range]
  have hat : ∀ j, j < NT x.toNat → ((List.range (NT x.toNat)).map (fun j => defaultValue (ty j)))[j]? = some (defaultValue (ty j)) := fun j hj => by rw [List.getElem?_map, List.getElem?_range hj]; rfl
  refine va_new (ci := x.toNat) (fs := (List.range (NT x.toNat)).map (fun j => defaultValue (ty j))) hx hb hts hin ty hty hown (hts _ hm) (hts _ hi1) (hts _ hi2) hK hP hD hS hA hcl (fun j hj => by show _ = List.getD _ _ _; rw [List.getD_eq_getElem?_getD, hat j hj]; rfl) hRc.1 hRc.2 hd (fun q H1 hP1 hD1 hS1 => ?_)
  refine k H1 locs ls _ _ tys (ext_tr he (ext_app _ _)) hK hP1 hD1 hS1 (hRW.of (fun a ha => fill_ne (by omega))) (wrel_push hw ⟨_, rfl, hxi, hlen, fun j v hj => ?_⟩ (fun k hk => fill_ne (by omega))) (lrel_ext (ext_app _ _) hl) ⟨new_ref hw q _ [], srel_ext (ext_app _ _) hs⟩
  have hjl : j < NT x.toNat := by rw [← hlen]; exact (List.getElem?_eq_some_iff.mp hj).1
  rw [hat j hjl] at hj
  cases hj
  rw [fill_eq]
  show frel ro _ (fk x.toNat j) _ (if fk x.toNat ((j : Int)).toNat = 2 then -1 else 0)
  rw [Int.toNat_natCast]
  rcases hkd j hjl with ⟨f1, f2⟩ | ⟨f1, f2⟩ | ⟨f1, f2⟩ | ⟨f1, f2⟩
  · rw [f1, f2, if_neg (by decide)]
    exact ⟨_, rfl, 0, rfl, rfl⟩
  · rw [f1, f2, if_neg (by decide)]
    exact ⟨_, rfl, 0, rfl, rfl⟩
  · rw [f1, if_pos rfl]
    generalize ty j = tt at f2 ⊢
    refine ⟨_, rfl, Or.inl ⟨rfl, ?_⟩⟩
    cases tt <;> first | rfl | cases f2
  · rw [f1, f2, if_neg (by decide)]
    exact ⟨_, rfl, 0, rfl, rfl⟩
theorem sm_newaI (C : Cx p s m args meth c base L xs ro mi) {n : Int} (hn : 0 ≤ n ∧ n ≤ 10000) (hm : Cond.arrayClass (newarray.typeOf .int) ∈ WT) (hRc : cells + 1 ≤ R.cells ∧ slots + n.toNat ≤ R.slots) (hd : decode (cOf mi) pc = .ok (.newarray .int, 2)) (k : Sm p l e R s m args below meth c Q D base L xs ro mi ws0 (cells + 1) (slots + n.toNat) (pc + 2) pls (vR sh.length :: pst) (sh ++ [(1, n.toNat)]) (fill w sh.length (fun _ => 0))) : Sm p l e R s m args below meth c Q D base L xs ro mi ws0 (cells) (slots) pc pls (vI n :: pst) sh w := by
  intro H locs ls st ws tys he hK hP hD hS hRW hw hl hs
  obtain ⟨hx, hb, hml, hown, hts, hini, hbs, hL, hE⟩ := C
  have hA : ∀ q : Nat, s.heap.size ≤ q → (fun q : Nat => base ≤ q) q := fun q h => Nat.le_trans hbs h
  have hs' := srel_cons hs
  clear hs
  obtain ⟨v1, st, rfl, ⟨c1, rfl, h1⟩, hs⟩ := hs'
  subst h1
  refine va_newa (N' := c1.toInt.toNat) (a0 := (c1.toInt.toNat, .inl (fun _ => 0))) hx hb (hts _ hm) (ty := .int) rfl hK hP hD hS hA (fun cA => rfl) (fun z => by rw [lt32] at z; have : (0 : Int32).toInt = 0 := rfl; omega) rfl (Nat.le_trans (Nat.mul_le_mul_right _ (show c1.toInt.toNat ≤ 10000 by omega)) (by decide)) hRc.1 hRc.2 hd (fun q cA H1 hK1 hP1 hD1 hS1 => ?_)
  refine k H1 locs ls _ _ _ (ext_tr he (ext_app _ _)) hK1 hP1 hD1 hS1 (hRW.of (fun a ha => fill_ne (by omega))) (wrel_push (wrel_tys hw) ⟨cA, fun _ => 0, tys.length, rfl, by rw [List.getElem?_append_right (Nat.le_refl _), Nat.sub_self]; rfl, fun j hj => ?_⟩ (fun k hk => fill_ne (by omega))) (lrel_ext (ext_app _ _) hl) ⟨new_ref hw q _ [], srel_ext (ext_app _ _) hs⟩
  rw [fill_eq]
  rfl
theorem sm_newaJ (C : Cx p s m args meth c base L xs ro mi) {n : Int} (hn : 0 ≤ n ∧ n ≤ 10000) (hm : Cond.arrayClass (newarray.typeOf .long) ∈ WT) (hRc : cells + 1 ≤ R.cells ∧ slots + n.toNat ≤ R.slots) (hd : decode (cOf mi) pc = .ok (.newarray .long, 2)) (k : Sm p l e R s m args below meth c Q D base L xs ro mi ws0 (cells + 1) (slots + n.toNat) (pc + 2) pls (vR sh.length :: pst) (sh ++ [(2, n.toNat)]) (fill w sh.length (fun _ => 0))) : Sm p l e R s m args below meth c Q D base L xs ro mi ws0 (cells) (slots) pc pls (vI n :: pst) sh w := by
  intro H locs ls st ws tys he hK hP hD hS hRW hw hl hs
  obtain ⟨hx, hb, hml, hown, hts, hini, hbs, hL, hE⟩ := C
  have hA : ∀ q : Nat, s.heap.size ≤ q → (fun q : Nat => base ≤ q) q := fun q h => Nat.le_trans hbs h
  have hs' := srel_cons hs
  clear hs
  obtain ⟨v1, st, rfl, ⟨c1, rfl, h1⟩, hs⟩ := hs'
  subst h1
  refine va_newa (N' := c1.toInt.toNat) (a0 := (c1.toInt.toNat, .inr (.inl (fun _ => 0)))) hx hb (hts _ hm) (ty := .long) rfl hK hP hD hS hA (fun cA => rfl) (fun z => by rw [lt32] at z; have : (0 : Int32).toInt = 0 := rfl; omega) rfl (Nat.le_trans (Nat.mul_le_mul_right _ (show c1.toInt.toNat ≤ 10000 by omega)) (by decide)) hRc.1 hRc.2 hd (fun q cA H1 hK1 hP1 hD1 hS1 => ?_)
  refine k H1 locs ls _ _ _ (ext_tr he (ext_app _ _)) hK1 hP1 hD1 hS1 (hRW.of (fun a ha => fill_ne (by omega))) (wrel_push (wrel_tys hw) ⟨cA, fun _ => 0, tys.length, rfl, by rw [List.getElem?_append_right (Nat.le_refl _), Nat.sub_self]; rfl, fun j hj => ?_⟩ (fun k hk => fill_ne (by omega))) (lrel_ext (ext_app _ _) hl) ⟨new_ref hw q _ [], srel_ext (ext_app _ _) hs⟩
  rw [fill_eq]
  rfl
theorem sm_newaB (C : Cx p s m args meth c base L xs ro mi) {n : Int} (hn : 0 ≤ n ∧ n ≤ 10000) (hm : Cond.arrayClass (newarray.typeOf .byte) ∈ WT) (hRc : cells + 1 ≤ R.cells ∧ slots + n.toNat ≤ R.slots) (hd : decode (cOf mi) pc = .ok (.newarray .byte, 2)) (k : Sm p l e R s m args below meth c Q D base L xs ro mi ws0 (cells + 1) (slots + n.toNat) (pc + 2) pls (vR sh.length :: pst) (sh ++ [(3, n.toNat)]) (fill w sh.length (fun _ => 0))) : Sm p l e R s m args below meth c Q D base L xs ro mi ws0 (cells) (slots) pc pls (vI n :: pst) sh w := by
  intro H locs ls st ws tys he hK hP hD hS hRW hw hl hs
  obtain ⟨hx, hb, hml, hown, hts, hini, hbs, hL, hE⟩ := C
  have hA : ∀ q : Nat, s.heap.size ≤ q → (fun q : Nat => base ≤ q) q := fun q h => Nat.le_trans hbs h
  have hs' := srel_cons hs
  clear hs
  obtain ⟨v1, st, rfl, ⟨c1, rfl, h1⟩, hs⟩ := hs'
  subst h1
  refine va_newa (N' := c1.toInt.toNat) (a0 := (c1.toInt.toNat, .inl (fun _ => 0))) hx hb (hts _ hm) (ty := .byte) rfl hK hP hD hS hA (fun cA => rfl) (fun z => by rw [lt32] at z; have : (0 : Int32).toInt = 0 := rfl; omega) rfl (Nat.le_trans (Nat.mul_le_mul_right _ (show c1.toInt.toNat ≤ 10000 by omega)) (by decide)) hRc.1 hRc.2 hd (fun q cA H1 hK1 hP1 hD1 hS1 => ?_)
  refine k H1 locs ls _ _ _ (ext_tr he (ext_app _ _)) hK1 hP1 hD1 hS1 (hRW.of (fun a ha => fill_ne (by omega))) (wrel_push (wrel_tys hw) ⟨cA, fun _ => 0, tys.length, rfl, by rw [List.getElem?_append_right (Nat.le_refl _), Nat.sub_self]; rfl, fun j hj => ?_⟩ (fun k hk => fill_ne (by omega))) (lrel_ext (ext_app _ _) hl) ⟨new_ref hw q _ [], srel_ext (ext_app _ _) hs⟩
  rw [fill_eq]
  rfl
theorem sm_newaZ (C : Cx p s m args meth c base L xs ro mi) {n : Int} (hn : 0 ≤ n ∧ n ≤ 10000) (hm : Cond.arrayClass (newarray.typeOf .boolean) ∈ WT) (hRc : cells + 1 ≤ R.cells ∧ slots + n.toNat ≤ R.slots) (hd : decode (cOf mi) pc = .ok (.newarray .boolean, 2)) (k : Sm p l e R s m args below meth c Q D base L xs ro mi ws0 (cells + 1) (slots + n.toNat) (pc + 2) pls (vR sh.length :: pst) (sh ++ [(4, n.toNat)]) (fill w sh.length (fun _ => 0))) : Sm p l e R s m args below meth c Q D base L xs ro mi ws0 (cells) (slots) pc pls (vI n :: pst) sh w := by
  intro H locs ls st ws tys he hK hP hD hS hRW hw hl hs
  obtain ⟨hx, hb, hml, hown, hts, hini, hbs, hL, hE⟩ := C
  have hA : ∀ q : Nat, s.heap.size ≤ q → (fun q : Nat => base ≤ q) q := fun q h => Nat.le_trans hbs h
  have hs' := srel_cons hs
  clear hs
  obtain ⟨v1, st, rfl, ⟨c1, rfl, h1⟩, hs⟩ := hs'
  subst h1
  refine va_newa (N' := c1.toInt.toNat) (a0 := (c1.toInt.toNat, .inl (fun _ => 0))) hx hb (hts _ hm) (ty := .boolean) rfl hK hP hD hS hA (fun cA => rfl) (fun z => by rw [lt32] at z; have : (0 : Int32).toInt = 0 := rfl; omega) rfl (Nat.le_trans (Nat.mul_le_mul_right _ (show c1.toInt.toNat ≤ 10000 by omega)) (by decide)) hRc.1 hRc.2 hd (fun q cA H1 hK1 hP1 hD1 hS1 => ?_)
  refine k H1 locs ls _ _ _ (ext_tr he (ext_app _ _)) hK1 hP1 hD1 hS1 (hRW.of (fun a ha => fill_ne (by omega))) (wrel_push (wrel_tys hw) ⟨cA, fun _ => 0, tys.length, rfl, by rw [List.getElem?_append_right (Nat.le_refl _), Nat.sub_self]; rfl, fun j hj => ?_⟩ (fun k hk => fill_ne (by omega))) (lrel_ext (ext_app _ _) hl) ⟨new_ref hw q _ [], srel_ext (ext_app _ _) hs⟩
  rw [fill_eq]
  rfl
theorem sm_newqS (C : Cx p s m args meth c base L xs ro mi) {n : Int} {idx : Nat} (hn : 0 ≤ n ∧ n ≤ 10000) (hm : Cond.classLink (oOf mi) idx "VotedHill$Strip" ∈ WT) (hRc : cells + 1 ≤ R.cells ∧ slots + n.toNat ≤ R.slots) (hd : decode (cOf mi) pc = .ok (.anewarray idx, 3)) (k : Sm p l e R s m args below meth c Q D base L xs ro mi ws0 (cells + 1) (slots + n.toNat) (pc + 3) pls (vR sh.length :: pst) (sh ++ [(5, n.toNat)]) (fill w sh.length (fun _ => -1))) : Sm p l e R s m args below meth c Q D base L xs ro mi ws0 (cells) (slots) pc pls (vI n :: pst) sh w := by
  intro H locs ls st ws tys he hK hP hD hS hRW hw hl hs
  obtain ⟨hx, hb, hml, hown, hts, hini, hbs, hL, hE⟩ := C
  have hA : ∀ q : Nat, s.heap.size ≤ q → (fun q : Nat => base ≤ q) q := fun q h => Nat.le_trans hbs h
  have hs' := srel_cons hs
  clear hs
  obtain ⟨v1, st, rfl, ⟨c1, rfl, h1⟩, hs⟩ := hs'
  subst h1
  refine va_newq (N' := c1.toInt.toNat) hx hb hown (hts _ hm) hE.2.2.2.2.2.1 hK hP hD hS hA (fun z => by rw [lt32] at z; have : (0 : Int32).toInt = 0 := rfl; omega) rfl (by omega) hRc.1 hRc.2 hd (fun q cA H1 hK1 hP1 hD1 hS1 => ?_)
  refine k H1 locs ls _ _ _ (ext_tr he (ext_app _ _)) hK1 hP1 hD1 hS1 (hRW.of (fun a ha => fill_ne (by omega))) (wrel_push (wrel_tys hw) ⟨cA, fun _ => none, tys.length, rfl, by rw [List.getElem?_append_right (Nat.le_refl _), Nat.sub_self]; rfl, fun j hj => ?_⟩ (fun k hk => fill_ne (by omega))) (lrel_ext (ext_app _ _) hl) ⟨new_ref hw q _ [], srel_ext (ext_app _ _) hs⟩
  rw [fill_eq]
  exact Or.inl ⟨rfl, rfl⟩
theorem sm_newqL (C : Cx p s m args meth c base L xs ro mi) {n : Int} {idx : Nat} (hn : 0 ≤ n ∧ n ≤ 10000) (hm : Cond.classLink (oOf mi) idx "VotedHill$Land" ∈ WT) (hRc : cells + 1 ≤ R.cells ∧ slots + n.toNat ≤ R.slots) (hd : decode (cOf mi) pc = .ok (.anewarray idx, 3)) (k : Sm p l e R s m args below meth c Q D base L xs ro mi ws0 (cells + 1) (slots + n.toNat) (pc + 3) pls (vR sh.length :: pst) (sh ++ [(6, n.toNat)]) (fill w sh.length (fun _ => -1))) : Sm p l e R s m args below meth c Q D base L xs ro mi ws0 (cells) (slots) pc pls (vI n :: pst) sh w := by
  intro H locs ls st ws tys he hK hP hD hS hRW hw hl hs
  obtain ⟨hx, hb, hml, hown, hts, hini, hbs, hL, hE⟩ := C
  have hA : ∀ q : Nat, s.heap.size ≤ q → (fun q : Nat => base ≤ q) q := fun q h => Nat.le_trans hbs h
  have hs' := srel_cons hs
  clear hs
  obtain ⟨v1, st, rfl, ⟨c1, rfl, h1⟩, hs⟩ := hs'
  subst h1
  refine va_newq (N' := c1.toInt.toNat) hx hb hown (hts _ hm) hE.2.2.2.2.2.2.1 hK hP hD hS hA (fun z => by rw [lt32] at z; have : (0 : Int32).toInt = 0 := rfl; omega) rfl (by omega) hRc.1 hRc.2 hd (fun q cA H1 hK1 hP1 hD1 hS1 => ?_)
  refine k H1 locs ls _ _ _ (ext_tr he (ext_app _ _)) hK1 hP1 hD1 hS1 (hRW.of (fun a ha => fill_ne (by omega))) (wrel_push (wrel_tys hw) ⟨cA, fun _ => none, tys.length, rfl, by rw [List.getElem?_append_right (Nat.le_refl _), Nat.sub_self]; rfl, fun j hj => ?_⟩ (fun k hk => fill_ne (by omega))) (lrel_ext (ext_app _ _) hl) ⟨new_ref hw q _ [], srel_ext (ext_app _ _) hs⟩
  rw [fill_eq]
  exact Or.inl ⟨rfl, rfl⟩
theorem any_int {ro : Int → Option Nat} {ws : va_W} {tys : List (ClassId × FieldType)} {sh : Shp} {w : Hp} (h : wrel ro tys ws sh w) (ha : sh.any (fun q => Nat.beq q.1 1) = true) : ∃ (t0 : Nat) (cA : ClassId), tys[t0]? = some (cA, .int) := by
  obtain ⟨q, hq, hb⟩ := List.any_eq_true.mp ha
  obtain ⟨k, hk⟩ := List.mem_iff_getElem?.mp hq
  have hlt : k < ws.length := by rw [h.1]; exact (List.getElem?_eq_some_iff.mp hk).1
  have hc := h.2 k q _ hk (List.getElem?_eq_getElem hlt)
  obtain ⟨q1, q2⟩ := q
  have h1 : q1 = 1 := Nat.eq_of_beq_eq_true hb
  subst h1
  obtain ⟨cA, g, t0, -, ht, -⟩ := hc
  exact ⟨t0, cA, ht⟩
theorem sm_multi (C : Cx p s m args meth c base L xs ro mi) {n kk : Int} {idx : Nat} (hn : 0 ≤ n ∧ n ≤ 100 ∧ 0 ≤ kk ∧ kk ≤ 1000) (ha : sh.any (fun q => Nat.beq q.1 1) = true) (hm : Cond.classLink (oOf mi) idx "[[I" ∈ WT) (hac : Cond.arrayClass .int ∈ WT) (hRc : cells + 1 + n.toNat ≤ R.cells ∧ slots + n.toNat + n.toNat * kk.toNat ≤ R.slots) (hd : decode (cOf mi) pc = .ok (.multianewarray idx 2, 4)) (k : Sm p l e R s m args below meth c Q D base L xs ro mi ws0 (cells + 1 + n.toNat) (slots + n.toNat + n.toNat * kk.toNat) (pc + 4) pls (vR sh.length :: pst) (sh ++ ((7, n.toNat) :: List.replicate n.toNat (1, kk.toNat))) (fun a j => if a = sh.length then (if 0 ≤ j ∧ j < n then (sh.length : Int) + 1 + j else -1) else if (sh.length : Int) < a ∧ a ≤ sh.length + n then 0 else w a j)) : Sm p l e R s m args below meth c Q D base L xs ro mi ws0 (cells) (slots) pc pls (vI kk :: vI n :: pst) sh w := by
  intro H locs ls st ws tys he hK hP hD hS hRW hw hl hs
  obtain ⟨hx, hb, hml, hown, hts, hini, hbs, hL, hE⟩ := C
  have hA : ∀ q : Nat, s.heap.size ≤ q → (fun q : Nat => base ≤ q) q := fun q h => Nat.le_trans hbs h
  have hs' := srel_cons hs
  clear hs
  obtain ⟨v1, st, rfl, ⟨c1, rfl, h1⟩, hs⟩ := hs'
  have hs' := srel_cons hs
  clear hs
  obtain ⟨v2, st, rfl, ⟨c2, rfl, h2⟩, hs⟩ := hs'
  subst h1 h2
  obtain ⟨t0, cy, ht0⟩ := any_int hw ha
  have hcy : s.vm.findClass (FieldType.array .int).toString = some cy := (hK.2 t0 _ ht0).2
  have hP0 : va_P D vwCl (ws ++ va_pl [] (fun _ => .inr (0, []))) H := by rw [show va_pl [] (fun _ => .inr (0, [])) = [] from rfl, List.append_nil]; exact hP
  have hD0 : va_D (fun q => base ≤ q) (ws ++ va_pl [] (fun _ => .inr (0, []))) := by rw [show va_pl [] (fun _ => .inr (0, [])) = [] from rfl, List.append_nil]; exact hD
  have h00 : (0 : Int32).toInt = 0 := rfl
  refine va_mna (ty := .int) (cy := cy) (N' := c2.toInt.toNat) (K' := c1.toInt.toNat) (z := (c1.toInt.toNat, .inl (fun _ => 0))) hx hb hown (hts _ hm) hE.2.2.2.2.2.2.2 (hts _ hac) hcy hK hP0 hD0 hS hA (fun z => by rw [lt32] at z; omega) (fun z => by rw [lt32] at z; omega) rfl rfl (by omega) (Nat.le_trans (Nat.mul_le_mul_right _ (show c1.toInt.toNat ≤ 1000 by omega)) (by decide)) (by omega) rfl rfl (by omega) (by omega) (fun c => ?_) hd (fun q r cA H1 hri hrL hK1 hP1 hD1 hS1 => ?_)
  · show ({ cls := c, slots := Array.replicate c1.toInt.toNat (.int 0), vm := .none } : Cell) = _
    rw [arrV_new]
    rfl
  · have hpl : va_pl ([] ++ (List.range c2.toInt.toNat).map r) (vr_up (fun _ => (.inr (0, []) : va_E)) ((List.range c2.toInt.toNat).map r) (.inl (cy, (c1.toInt.toNat, .inl (fun _ => 0))))) = (List.range c2.toInt.toNat).map (fun i => (r i, (.inl (cy, (c1.toInt.toNat, .inl (fun _ => 0))) : va_E))) := by
      unfold va_pl
      rw [List.nil_append, List.map_map]
      apply List.map_congr_left
      intro i hi
      show (r i, vr_up _ _ _ (r i)) = _
      rw [vr_up_in (List.mem_map.mpr ⟨i, hi, rfl⟩)]
    rw [hpl, List.append_assoc] at hP1 hD1
    have hat : ∀ i, i < c2.toInt.toNat → ((List.range c2.toInt.toNat).map (fun i => (r i, (.inl (cy, (c1.toInt.toNat, .inl (fun _ => 0))) : va_E))))[i]? = some (r i, .inl (cy, (c1.toInt.toNat, .inl (fun _ => 0)))) := fun i hi => by rw [List.getElem?_map, List.getElem?_range hi]; rfl
    generalize hM : (List.range c2.toInt.toNat).map (fun i => (r i, (.inl (cy, (c1.toInt.toNat, .inl (fun _ => 0))) : va_E))) = M at hP1 hD1 hat
    have hMl : M.length = c2.toInt.toNat := by rw [← hM, List.length_map, List.length_range]
    have hwl := hw.1
    refine k H1 locs ls _ _ _ (ext_tr he (ext_app _ _)) hK1 hP1 hD1 hS1 (hRW.of (fun a ha => by funext j; rw [if_neg (by omega), if_neg (by omega)])) ⟨by simp only [List.length_append, List.length_cons, List.length_nil, List.length_replicate, hMl, hwl]; omega, fun i s' x hi hxx => ?_⟩ (lrel_ext (ext_app _ _) hl) ⟨new_ref hw q _ M, srel_ext (ext_app _ _) hs⟩
    by_cases hl1 : i < sh.length
    · rw [List.getElem?_append_left hl1] at hi
      rw [List.getElem?_append_left (by omega)] at hxx
      dsimp only
      rw [show (fun j => if ((i : Nat) : Int) = sh.length then (if 0 ≤ j ∧ j < c2.toInt then (sh.length : Int) + 1 + j else -1) else if (sh.length : Int) < i ∧ (i : Int) ≤ sh.length + c2.toInt then 0 else w i j) = w i from by funext j; rw [if_neg (by omega), if_neg (by omega)]]
      exact crel_ext (ext_app _ _) (crel_tys (hw.2 i s' x hi hxx))
    · rw [List.getElem?_append_right (by omega)] at hi
      rw [List.getElem?_append_right (by omega)] at hxx
      by_cases hl2 : i = sh.length
      · subst hl2
        rw [Nat.sub_self] at hi
        rw [hwl, Nat.sub_self] at hxx
        cases hi
        cases hxx
        refine ⟨cA, _, tys.length, rfl, by rw [List.getElem?_append_right (Nat.le_refl _), Nat.sub_self]; rfl, fun j hj => ?_⟩
        dsimp only at hj ⊢
        rw [if_pos rfl, if_pos hj, if_pos (by omega)]
        refine Or.inr ⟨by omega, r j, rfl, ?_⟩
        unfold adr
        rw [if_pos (by omega), List.getElem?_append_right (by omega), show (((sh.length : Nat) : Int) + 1 + j).toNat - ws.length = j + 1 by omega]
        show (M[j]?).map _ = _
        rw [hat j hj]
        rfl
      · obtain ⟨i', rfl⟩ : ∃ i', i = sh.length + 1 + i' := ⟨i - sh.length - 1, by omega⟩
        rw [show sh.length + 1 + i' - sh.length = i' + 1 by omega] at hi
        rw [show sh.length + 1 + i' - ws.length = i' + 1 by omega] at hxx
        have hi2 : (List.replicate c2.toInt.toNat (1, c1.toInt.toNat))[i']? = some s' := hi
        have hx2 : M[i']? = some x := hxx
        have hlt : i' < c2.toInt.toNat := by have := (List.getElem?_eq_some_iff.mp hx2).1; omega
        rw [List.getElem?_replicate, if_pos hlt] at hi2
        rw [hat i' hlt] at hx2
        cases hi2
        cases hx2
        refine ⟨cy, fun _ => 0, t0, rfl, by rw [List.getElem?_append_left (List.getElem?_eq_some_iff.mp ht0).1]; exact ht0, fun j hj => ?_⟩
        dsimp only
        rw [if_neg (by omega), if_pos (by omega)]
        rfl
end SIM
end
section
/-! the machine follows the pure one: calls, returns, the whole of a method -/
theorem alloc_mono {sh : Shp} {ins : Instr} {x : Int} {st : List PV} {w : Hp} {st' : List PV} {sh' : Shp} {w' : Hp} (h : allocOf sh ins x st w = some (st', sh', w')) : ∃ t, sh' = sh ++ t := by
  unfold allocOf at h
  split at h
  · split at h
    · cases h; exact ⟨_, rfl⟩
    · cases h
  · split at h
    · split at h
      · split at h
        · cases h; exact ⟨_, rfl⟩
        · cases h; exact ⟨_, rfl⟩
        · cases h; exact ⟨_, rfl⟩
        · cases h; exact ⟨_, rfl⟩
        · cases h
      · cases h
    · cases h
  · split at h
    · split at h
      · cases h; exact ⟨_, rfl⟩
      · cases h
    · cases h
  · split at h
    · split at h
      · cases h; exact ⟨_, rfl⟩
      · cases h
    · cases h
  · cases h
theorem ev_mono : ∀ (n d mi pc : Nat) (ls : PL) (st : List PV) (sh : Shp) (w : Hp) (v : Option PV) (sh1 : Shp) (w1 : Hp), ev n d mi pc ls st sh w = some (v, sh1, w1) → ∃ t, sh1 = sh ++ t := by
  intro n
  induction n with
  | zero => intro d mi pc ls st sh w v sh1 w1 h; cases h
  | succ n ih =>
    intro d mi pc ls st sh w v sh1 w1 h
    unfold ev at h
    split at h
    · cases h
    · split at h
      · split at h
        · cases h
        · split at h
          · split at h
            · cases h
            · rename_i hc
              obtain ⟨t1, h1⟩ := ih _ _ _ _ _ _ _ _ _ _ hc
              obtain ⟨t2, h2⟩ := ih _ _ _ _ _ _ _ _ _ _ h
              exact ⟨t1 ++ t2, by rw [h2, h1, List.append_assoc]⟩
          · cases h
      · split at h
        · cases h
          exact ⟨[], (List.append_nil _).symm⟩
        · split at h
          · rename_i ha
            obtain ⟨t1, h1⟩ := alloc_mono ha
            obtain ⟨t2, h2⟩ := ih _ _ _ _ _ _ _ _ _ _ h
            exact ⟨t1 ++ t2, by rw [h2, h1, List.append_assoc]⟩
          · split at h
            · exact ih _ _ _ _ _ _ _ _ _ _ h
            · cases h
theorem slots_app (a b : Shp) : slotsOf (a ++ b) = slotsOf a + slotsOf b := by
  unfold slotsOf
  rw [List.map_append, List.sum_append]
theorem srel_take {ro : Int → Option Nat} {ws : va_W} : ∀ (k : Nat) {vs : List Value} {qs : List PV}, srel ro ws vs qs → srel ro ws (vs.take k) (qs.take k) ∧ srel ro ws (vs.drop k) (qs.drop k)
  | 0, vs, qs, h => ⟨by simp [srel], by simpa using h⟩
  | _ + 1, [], [], _ => ⟨trivial, trivial⟩
  | k + 1, _ :: _, _ :: _, h => ⟨⟨h.1, (srel_take k h.2).1⟩, (srel_take k h.2).2⟩
theorem srel_app {ro : Int → Option Nat} {ws : va_W} : ∀ {a : List Value} {b : List PV} {c : List Value} {d : List PV}, srel ro ws a b → srel ro ws c d → srel ro ws (a ++ c) (b ++ d)
  | [], [], _, _, _, h => h
  | _ :: _, _ :: _, _, _, h1, h2 => ⟨h1.1, srel_app h1.2 h2⟩
theorem srel_rev {ro : Int → Option Nat} {ws : va_W} : ∀ {a : List Value} {b : List PV}, srel ro ws a b → srel ro ws a.reverse b.reverse
  | [], [], _ => trivial
  | _ :: _, _ :: _, h => by
    rw [List.reverse_cons, List.reverse_cons]
    exact srel_app (srel_rev h.2) ⟨h.1, trivial⟩
theorem vrel_cat2 {ro : Int → Option Nat} {ws : va_W} {v : Value} {a : Int} (h : vrel ro ws v (vL a)) : v.category = 2 := by
  obtain ⟨c, h, -⟩ := h
  rw [h]
  rfl
theorem spread_len {ro : Int → Option Nat} {ws : va_W} : ∀ {vs : List Value} {as : List PV}, srel ro ws vs as → (lg_sl vs).length = (spread as).length
  | [], [], _ => rfl
  | v :: vs, Sum.inl _ :: as, h => by
    have h1 := vrel_cat h.1 rfl
    have h2 := spread_len h.2
    unfold lg_sl at h2 ⊢
    simp [h1, spread, h2]
  | v :: vs, Sum.inr (Sum.inl _) :: as, h => by
    have h1 := vrel_cat2 h.1
    have h2 := spread_len h.2
    unfold lg_sl at h2 ⊢
    simp [h1, spread, h2]
  | v :: vs, Sum.inr (Sum.inr _) :: as, h => by
    have h1 := vrel_cat h.1 rfl
    have h2 := spread_len h.2
    unfold lg_sl at h2 ⊢
    simp [h1, spread, h2]
theorem spread_rel {ro : Int → Option Nat} {ws : va_W} : ∀ {vs : List Value} {as : List PV}, srel ro ws vs as → ∀ (k i : Nat) (pv : PV), (spread as)[i]? = some (some pv) → ∃ v, (k + i, v) ∈ lv_args k vs ∧ vrel ro ws v pv := by
  intro vs
  induction vs with
  | nil =>
    intro as h k i pv hi
    cases as with
    | nil => simp [spread] at hi
    | cons _ _ => exact absurd h (by simp [srel])
  | cons v vs ih =>
    intro as h k i pv hi
    cases as with
    | nil => exact absurd h (by simp [srel])
    | cons a as =>
      have one : isL a = false → spread (a :: as) = some a :: spread as → ∃ v', (k + i, v') ∈ lv_args k (v :: vs) ∧ vrel ro ws v' pv := by
        intro ha hsp
        have h1 := vrel_cat h.1 ha
        rw [hsp] at hi
        unfold lv_args
        rw [if_neg (by rw [h1]; decide)]
        cases i with
        | zero =>
          cases hi
          exact ⟨v, List.mem_cons_self, h.1⟩
        | succ i =>
          obtain ⟨v', m1, m2⟩ := ih h.2 (k + 1) i pv hi
          exact ⟨v', List.mem_cons_of_mem _ (by rw [show k + (i + 1) = k + 1 + i by omega]; exact m1), m2⟩
      match a, h, hi, one with
      | Sum.inl x, h, hi, one => exact one rfl rfl
      | Sum.inr (Sum.inr x), h, hi, one => exact one rfl rfl
      | Sum.inr (Sum.inl x), h, hi, one =>
        have h1 := vrel_cat2 h.1
        unfold lv_args
        rw [if_pos h1]
        match i, hi with
        | 0, hi =>
          cases hi
          exact ⟨v, List.mem_cons_self, h.1⟩
        | 1, hi => cases hi
        | i + 2, hi =>
          obtain ⟨v', m1, m2⟩ := ih h.2 (k + 2) i pv hi
          exact ⟨v', List.mem_cons_of_mem _ (by rw [show k + (i + 2) = k + 2 + i by omega]; exact m1), m2⟩
theorem entry_rel {ro : Int → Option Nat} {ws : va_W} {vs : List Value} {as : List PV} {j : Nat} (h : srel ro ws vs as) (hl : (spread as).length ≤ mLoc j) : lrel ro ws (mLoc j) ((lg_sl vs ++ List.replicate (mLoc j - (lg_sl vs).length) Slot.unset).toArray) (entryLs j as) := by
  refine ⟨lv_args 0 vs, lv_entry vs (by rw [spread_len h]; exact hl), ?_, fun i pv hi => ?_⟩
  · unfold entryLs
    rw [List.length_append, List.length_replicate]
    omega
  · unfold entryLs at hi
    by_cases hlt : i < (spread as).length
    · rw [List.getElem?_append_left hlt] at hi
      have := spread_rel h 0 i pv hi
      rw [Nat.zero_add] at this
      exact this
    · rw [List.getElem?_append_right (by omega), List.getElem?_replicate] at hi
      split at hi <;> cases hi
theorem Env0.at {base L : Nat} {xs : Nat → Int32} {ro : Int → Option Nat} {s U : State} {H H1 : Heap} (h : Env0 base L xs ro s H) (hb : base ≤ H.size) (hW : s.WarmedH U.vm) (hk : ∀ q : Nat, q < H.size → ¬ base ≤ q → H1[q]? = H[q]?) : Env0 base L xs ro U H1 := by
  obtain ⟨⟨b, h1, h2, h3⟩, h4, h5, h6, h7, h8, h9, h10⟩ := h
  have st : ∀ {C n d : String} {ty : FieldType} {N : Nat} {K : Nat → Int} {r : Option Nat}, stO base C n d ty N K r s H → stO base C n d ty N K r U H1 := fun ⟨t, q1, q2, q3⟩ => ⟨t, q1, (q2.kept hk).moved hW.alike, (q3.kept hk).moved hW.alike⟩
  exact ⟨⟨b, h1, h2, (h3.kept (hk b (by omega) (by omega))).moved hW.alike⟩, st h4, st h5, st h6, fun a i y h hm => va_Nw.warmM hW (h7 a i y h hm), h8.moved hW.alike, h9.moved hW.alike, over_moved hW.alike h10⟩
theorem Env0.calling {base L : Nat} {xs : Nat → Int32} {ro : Int → Option Nat} {U : State} {H : Heap} {g : JFrame} {mk : MethodId} {a : Array Value} (h : Env0 base L xs ro U H) : Env0 base L xs ro (U.calling g mk a) H := by
  obtain ⟨⟨b, h1, h2, h3⟩, h4, h5, h6, h7, h8, h9, h10⟩ := h
  have hal : U.vm.Alike (U.calling g mk a).vm := Vm.Alike.refl U.vm
  have st : ∀ {C n d : String} {ty : FieldType} {N : Nat} {K : Nat → Int} {r : Option Nat}, stO base C n d ty N K r U H → stO base C n d ty N K r (U.calling g mk a) H := fun ⟨t, q1, q2, q3⟩ => ⟨t, q1, q2.moved hal, q3.moved hal⟩
  exact ⟨⟨b, h1, h2, h3.moved hal⟩, st h4, st h5, st h6, fun a i y h hm => va_Nw.same rfl rfl (h7 a i y h hm), h8.moved hal, h9.moved hal, over_moved hal h10⟩
/-- a method's start: the arguments, the world, what is read only -/
def PcS (base L : Nat) (xs : Nat → Int32) (ro : Int → Option Nat) (D : va_G) (ws : va_W) (tys : List (ClassId × FieldType)) (avs : List Value) : Array Value → State → Prop := va_Pc avs (fun U => base ≤ U.heap.size ∧ va_P D vwCl ws U.heap ∧ va_K D vwCl tys U ∧ va_D (fun q => base ≤ q) ws ∧ Env0 base L xs ro U U.heap)
/-- its end: the pure answer, the pure world -/
def QcS (base L : Nat) (xs : Nat → Int32) (ro : Int → Option Nat) (D : va_G) (ws : va_W) (v : Option PV) (sh1 : Shp) (w1 : Hp) : Array Value → State → Outcome → State → Prop := fun _ st oc t =>
  (∃ (cv : Option Value) (ws1 : va_W) (tys1 : List (ClassId × FieldType)), oc = .returned cv ∧ srel ro ws1 cv.toList v.toList ∧ ext ws ws1 ∧ va_K D vwCl tys1 t ∧ va_P D vwCl ws1 t.heap ∧ va_D (fun q => base ≤ q) ws1 ∧ wrel ro tys1 ws1 sh1 w1 ∧ RW L xs w1) ∧ va_F (fun q => base ≤ q) st t
theorem PcS_blind {base L : Nat} {xs : Nat → Int32} {ro : Int → Option Nat} {D : va_G} {ws : va_W} {tys : List (ClassId × FieldType)} {avs : List Value} : FrameBlind (PcS base L xs ro D ws tys avs) := by
  intro a U g mk h
  obtain ⟨h1, h2, h3, h4, h5, h6⟩ := h
  exact ⟨h1, h2, h3, va_K.moved (u := U) (U := U.calling g mk a) (Vm.Alike.refl U.vm) h4, h5, h6.calling⟩
section SIM
variable {p : Program} {l : Launch} {e : Env} {R : Room} {s : State} {m : MethodId} {args : Array Value} {below : List Frame} {meth : Method} {c : Code} {Q : State → Prop} {D : va_G} {base L : Nat} {xs : Nat → Int32} {ro : Int → Option Nat} {mi : Nat} {ws0 : va_W} {cells slots : Nat} {pc : Nat} {pls : PL} {pst : List PV} {sh : Shp} {w : Hp}
theorem sm_alloc (C : Cx p s m args meth c base L xs ro mi) {ins : Instr} {len pos cells' slots' : Nat} {x : Int} {pst' : List PV} {sh' : Shp} {w' : Hp} (hd : decode (cOf mi) pc = .ok (ins, len)) (hlen : len = lenOf ins len) (hok : okWord mi (oOf mi) pc ins x pos = true) (h : allocOf sh ins x pst w = some (pst', sh', w')) (hc : cells + sh'.length = cells' + sh.length) (hsl : slots + slotsOf sh' = slots' + slotsOf sh) (hRc : cells' ≤ R.cells ∧ slots' ≤ R.slots) (k : Sm p l e R s m args below meth c Q D base L xs ro mi ws0 cells' slots' (pc + len) pls pst' sh' w') : Sm p l e R s m args below meth c Q D base L xs ro mi ws0 (cells) (slots) pc pls pst sh w := by
  have one : ∀ q : Nat × Nat, slotsOf (sh ++ [q]) = slotsOf sh + slot1 q := fun q => by rw [slots_app]; simp [slotsOf]
  unfold allocOf at h
  split at h
  · obtain rfl : len = 3 := hlen
    rw [okWord, Bool.and_eq_true] at hok
    split at h
    · rename_i hx11
      cases h
      rw [one] at hsl
      have h2 : slot1 (0, x.toNat) = NT x.toNat := if_pos rfl
      rw [List.length_append] at hc
      obtain rfl : cells' = cells + 1 := by simp at hc; omega
      obtain rfl : slots' = slots + NT x.toNat := by omega
      exact sm_new C hx11 (WT_in hok.2 rfl) hRc hd k
    · cases h
  · obtain rfl : len = 2 := hlen
    split at h
    · split at h
      · rename_i hn
        split at h
        · cases h
          rw [one] at hsl
          rename_i n _ _
          have h2 : slot1 (1, n.toNat) = n.toNat := if_neg (Nat.succ_ne_zero _)
          rw [List.length_append] at hc
          obtain rfl : cells' = cells + 1 := by simp at hc; omega
          obtain rfl : slots' = slots + n.toNat := by omega
          exact sm_newaI C hn (WT_in hok rfl) hRc hd k
        · cases h
          rw [one] at hsl
          rename_i n _ _
          have h2 : slot1 (2, n.toNat) = n.toNat := if_neg (Nat.succ_ne_zero _)
          rw [List.length_append] at hc
          obtain rfl : cells' = cells + 1 := by simp at hc; omega
          obtain rfl : slots' = slots + n.toNat := by omega
          exact sm_newaJ C hn (WT_in hok rfl) hRc hd k
        · cases h
          rw [one] at hsl
          rename_i n _ _
          have h2 : slot1 (3, n.toNat) = n.toNat := if_neg (Nat.succ_ne_zero _)
          rw [List.length_append] at hc
          obtain rfl : cells' = cells + 1 := by simp at hc; omega
          obtain rfl : slots' = slots + n.toNat := by omega
          exact sm_newaB C hn (WT_in hok rfl) hRc hd k
        · cases h
          rw [one] at hsl
          rename_i n _ _
          have h2 : slot1 (4, n.toNat) = n.toNat := if_neg (Nat.succ_ne_zero _)
          rw [List.length_append] at hc
          obtain rfl : cells' = cells + 1 := by simp at hc; omega
          obtain rfl : slots' = slots + n.toNat := by omega
          exact sm_newaZ C hn (WT_in hok rfl) hRc hd k
        · cases h
      · cases h
    · cases h
  · obtain rfl : len = 3 := hlen
    split at h
    · split at h
      · rename_i n _ hn
        cases h
        obtain ⟨hn0, hn1, hx56⟩ := hn
        rw [one] at hsl
        rw [List.length_append] at hc
        obtain rfl : cells' = cells + 1 := by simp at hc; omega
        rcases hx56 with rfl | rfl
        · have h2 : slot1 (5, n.toNat) = n.toNat := if_neg (Nat.succ_ne_zero _)
          obtain rfl : slots' = slots + n.toNat := by
            have h3 : slot1 ((5 : Int).toNat, n.toNat) = n.toNat := h2
            omega
          refine sm_newqS C ⟨hn0, hn1⟩ (WT_in (p := pos) ?_ rfl) hRc hd k
          simpa [okWord] using hok
        · have h2 : slot1 (6, n.toNat) = n.toNat := if_neg (Nat.succ_ne_zero _)
          obtain rfl : slots' = slots + n.toNat := by
            have h3 : slot1 ((6 : Int).toNat, n.toNat) = n.toNat := h2
            omega
          refine sm_newqL C ⟨hn0, hn1⟩ (WT_in (p := pos) ?_ rfl) hRc hd k
          simpa [okWord] using hok
      · cases h
    · cases h
  · obtain rfl : len = 4 := hlen
    split at h
    · split at h
      · rename_i kk n _ hn
        cases h
        obtain ⟨hn0, hn1, hn2, hn3, rfl, hany⟩ := hn
        have h2 : slotsOf (sh ++ ((7, n.toNat) :: List.replicate n.toNat (1, kk.toNat))) = slotsOf sh + n.toNat + n.toNat * kk.toNat := by
          rw [slots_app]
          simp [slotsOf, slot1, List.map_replicate, List.sum_replicate_nat]
          omega
        rw [h2] at hsl
        rw [List.length_append, List.length_cons, List.length_replicate] at hc
        obtain rfl : cells' = cells + 1 + n.toNat := by omega
        obtain rfl : slots' = slots + n.toNat + n.toNat * kk.toNat := by omega
        exact sm_multi C ⟨hn0, hn1, hn2, hn3⟩ hany (WT_in hok rfl) (WT_in (p := 163) (by decide +kernel) rfl) hRc hd k
      · cases h
    · cases h
  · cases h

end SIM
end
section
/-! the theorem: what the pure machine answers, the machine answers -/
section SIM
variable {p : Program} {l : Launch} {e : Env} {R : Room} {s : State} {m : MethodId} {args : Array Value} {below : List Frame} {meth : Method} {c : Code} {Q : State → Prop} {D : va_G} {base L : Nat} {xs : Nat → Int32} {ro : Int → Option Nat} {mi : Nat} {ws0 : va_W} {cells slots : Nat} {pc : Nat} {pls : PL} {pst : List PV} {sh : Shp} {w : Hp}
/-- what is done at a return -/
def RETS (p : Program) (l : Launch) (e : Env) (R : Room) (s : State) (m : MethodId) (args : Array Value) (below : List Frame) (meth : Method) (c : Code) (Q : State → Prop) (D : va_G) (base L : Nat) (xs : Nat → Int32) (ro : Int → Option Nat) (mi : Nat) (ws0 : va_W) (cf sf : Nat) (v : Option PV) (sh1 : Shp) (w1 : Hp) : Prop :=
  ∀ (H : Heap) (locs : List Loc) (ls : Array Slot) (st : List Value) (ws : va_W) (tys : List (ClassId × FieldType)) (pc : Nat) (ins : Instr) (len : Nat) (pst : List PV), decode (cOf mi) pc = .ok (ins, len) → len = lenOf ins len → retOf mi ins pst = some v → ext ws0 ws → va_K D vwCl tys s → va_P D vwCl ws H → va_D (fun q => base ≤ q) ws → va_S (fun q => base ≤ q) s.heap H locs → RW L xs w1 → wrel ro tys ws sh1 w1 → srel ro ws st pst → W p l e R s m args below meth c H locs cf sf Q (F0 m pc ls st)
/-- what is claimed of so much fuel -/
def SimN (l : Launch) (D : va_G) (base L : Nat) (xs : Nat → Int32) (ro : Int → Option Nat) (n : Nat) : Prop :=
  ∀ (d mi pc : Nat) (pls : PL) (pst : List PV) (sh : Shp) (w : Hp) (v : Option PV) (sh1 : Shp) (w1 : Hp), ev n d mi pc pls pst sh w = some (v, sh1, w1) → mi < 230 →
  ∀ (p : Program) (e : Env) (R : Room) (s : State) (m : MethodId) (args : Array Value) (below : List Frame) (meth : Method) (c : Code) (Q : State → Prop) (ws0 : va_W) (cells slots cf sf : Nat), Cx p s m args meth c base L xs ro mi → (d + 1 ≤ R.frames ∧ 40 + 31 * d ≤ R.locals) → cells + sh1.length = cf + sh.length → slots + slotsOf sh1 = sf + slotsOf sh → (cf ≤ R.cells ∧ sf ≤ R.slots) → RETS p l e R s m args below meth c Q D base L xs ro mi ws0 cf sf v sh1 w1 → Sm p l e R s m args below meth c Q D base L xs ro mi ws0 cells slots pc pls pst sh w
theorem OKM_of {j : Nat} (h1 : j < 230) (h0 : 0 < j) : OKM j := okM_229 j h1 h0
/-- a method's contract out of its pure run -/
theorem met_of {n d j : Nat} {as : List PV} {v : Option PV} {sh1 : Shp} {w1 : Hp} {ws : va_W} {tys : List (ClassId × FieldType)} {avs : List Value} (IH : SimN l D base L xs ro n) (hj : j < 230) (hj0 : 0 < j) (hL : L < 2 ^ 31) (hev : ev n d j 0 (entryLs j as) [] sh w = some (v, sh1, w1)) (hsp : (spread as).length ≤ mLoc j) (hRW : RW L xs w) (hw : wrel ro tys ws sh w) (ha : srel ro ws avs as) :
    Met l (yOf j) (Cond.code (yOf j) (cOf j) (mLoc j) (retTy (mRet j)) :: WT) ({ frames := d + 1, cells := sh1.length - sh.length, slots := slotsOf sh1 - slotsOf sh, locals := 40 + 31 * d }) (PcS base L xs ro D ws tys avs) (QcS base L xs ro D ws v sh1 w1) (sh1.length - sh.length) (slotsOf sh1 - slotsOf sh) (fun q => base ≤ q) := by
  obtain ⟨⟨pz, hokm⟩, hcw⟩ := OKM_of hj hj0
  unfold okM at hokm
  simp only [Bool.and_eq_true, decide_eq_true_eq] at hokm
  obtain ⟨⟨⟨⟨⟨⟨hi, hkd⟩, hpar⟩, hpl⟩, hnn⟩, hml0⟩, hcls⟩ := hokm
  obtain ⟨t, ht⟩ := ev_mono _ _ _ _ _ _ _ _ _ _ _ hev
  have hl1 : sh.length ≤ sh1.length := by rw [ht, List.length_append]; omega
  have hl2 : slotsOf sh ≤ slotsOf sh1 := by rw [ht, slots_app]; omega
  refine Met.ofW (cc := cOf j) (maxL := mLoc j) (ret := retTy (mRet j)) hpl rfl ?_
  intro p e s m args below meth c s₁ B hml hv
  obtain ⟨rfl, hsz, hP, hK, hD, hE⟩ := hv
  have hts := atoms_spec (ws := Cond.code (yOf j) (cOf j) (mLoc j) (retTy (mRet j)) :: WT) B.pre
  have hown : s.vm.findClass (oOf j) = some m.cls := by rw [← hcls]; exact findClass_of_methodNamed B.named
  have hini : mKind j = 2 → meth.name = "<init>" := fun hk => by
    rw [hk] at hkd
    simp only [Bool.and_eq_true, decide_eq_true_eq] at hkd
    rw [(name_of_methodNamed B.named B.method).1]
    exact hkd.1.1.2
  have C : Cx p s m avs.toArray meth c base L xs ro j := ⟨B.exec, B.bytes, hml, hown, fun w hw => hts w (List.mem_cons_of_mem _ hw), hini, hsz, hL, hE⟩
  rw [lg_entry_eq]
  have hlocks := B.notSynchronized
  have hr := B.returns
  refine IH d j 0 (entryLs j as) [] sh w v sh1 w1 hev hj p e _ s m avs.toArray below meth c _ ws 0 0 (sh1.length - sh.length) (slotsOf sh1 - slotsOf sh) C ⟨Nat.le_refl _, Nat.le_refl _⟩ (by omega) (by omega) ⟨Nat.le_refl _, Nat.le_refl _⟩ ?_ s.heap [] _ [] ws tys (ext_rf ws) hK hP hD va_S.rf hRW hw (entry_rel ha hsp) trivial
  intro H locs ls st ws1 tys1 pc ins len pst hd hlen hret hx hK1 hP1 hD1 hS1 hRW1 hw1 hs
  have fin : ∀ (cv : Option Value), srel ro ws1 cv.toList v.toList → ∀ t : State, t.heap = H → s.WarmedH t.vm → QcS base L xs ro D ws v sh1 w1 avs.toArray s (.returned cv) t := fun cv hcv t ht hW => ⟨⟨cv, ws1, tys1, rfl, hcv, hx, va_K.moved hW.alike hK1, by rw [ht]; exact hP1, hD1, hw1, hRW1⟩, hS1.F ht⟩
  unfold retOf at hret
  split at hret
  · obtain rfl : len = 1 := hlen
    split at hret
    · split at hret
      · rename_i a hm
        cases hret
        obtain ⟨v1, st', rfl, ⟨c1, rfl, h1⟩, hs'⟩ := srel_cons hs
        cases srel_nil hs'
        rcases hm with hm | ⟨hm, hz⟩
        · exact W.iret B.exec B.bytes (by rw [hr, hm]; rfl) (fin (some (.int c1)) ⟨⟨c1, rfl, h1⟩, trivial⟩) hS1.2.2 hd
        · refine W.zret B.exec B.bytes (ty := .boolean) (by rw [hr, hm]; rfl) ?_ (fin (some (.int c1)) ⟨⟨c1, rfl, h1⟩, trivial⟩) hS1.2.2 hd
          rcases hz with hz | hz
          · have : c1 = 0 := eq32.mpr (by rw [h1, hz]; rfl)
            subst this
            rfl
          · have : c1 = 1 := eq32.mpr (by rw [h1, hz]; rfl)
            subst this
            rfl
      · cases hret
    · cases hret
  · obtain rfl : len = 1 := hlen
    split at hret
    · split at hret
      · rename_i a hm
        cases hret
        obtain ⟨v1, st', rfl, ⟨c1, rfl, h1⟩, hs'⟩ := srel_cons hs
        cases srel_nil hs'
        exact W.lret B.exec B.bytes (by rw [hr, hm]; rfl) (fin (some (.long c1)) ⟨⟨c1, rfl, h1⟩, trivial⟩) hS1.2.2 hd
      · cases hret
    · cases hret
  · obtain rfl : len = 1 := hlen
    split at hret
    · split at hret
      · rename_i hm
        cases hret
        cases srel_nil hs
        exact W.vret B.exec B.bytes (by rw [hr, hm]; rfl) (fin none trivial) hS1.2.2 hd
      · cases hret
    · cases hret
  · cases hret
/-- behind a call: the callee's world, the answer on the stack -/
theorem sm_back {mc ms : Nat} {H : Heap} {locs : List Loc} {ls : Array Slot} {st0 rest : List Value} {ws : va_W} {av : Array Value} {v : Option PV} {sh1 : Shp} {w1 : Hp} {rst : List PV} (hr : va_Run p l e R s m args below meth c H locs cells slots mc ms (F0 m pc ls st0) rest (QcS base L xs ro D ws v sh1 w1 av) (fun q => base ≤ q))
    (hx : ext ws0 ws) (hS : va_S (fun q => base ≤ q) s.heap H locs) (hl : lrel ro ws (mLoc mi) ls pls) (hs : srel ro ws rest rst) (k : Sm p l e R s m args below meth c Q D base L xs ro mi ws0 (cells + mc) (slots + ms) (pc + 3) pls (v.toList ++ rst) sh1 w1) : W p l e R s m args below meth c H locs cells slots Q (F0 m pc ls st0) := by
  intro T hT X
  obtain ⟨v', st₀, t, T', LL, h0, X', hL, e1, e2, ⟨⟨cv, ws1, tys1, hcv, ho, hx1, hK1, hP1, hD1, hw1, hRW1⟩, hz, hk⟩, stp⟩ := hr T hT X
  cases hcv
  rw [h0] at hz hk
  have hal : s.vm.Alike t.vm := by rw [← e2]; exact X'.warmed.alike
  obtain ⟨t2, a1, b1⟩ := k T'.heap (locs ++ LL) ls (v'.toList ++ rest) ws1 tys1 (ext_tr hx hx1) (va_K.moved hal.symm hK1) (by rw [e1]; exact hP1) hD1
    ⟨Nat.le_trans hS.1 (by rw [e1]; exact hz), fun q h1 h2 => by rw [e1, hk q (Nat.lt_of_lt_of_le h1 hS.1) h2]; exact hS.2.1 q h1 h2, fun q hq => by
      rcases List.mem_append.mp hq with h | h
      · exact hS.2.2 q h
      · exact hL q h⟩ hRW1 hw1 (lrel_ext hx1 hl) (srel_app ho (srel_ext hx1 hs)) T' rfl X'
  exact ⟨t2, stp t2 a1, b1⟩
theorem GoodCode {j : Nat} (hcw : Cond.code (yOf j) (cOf j) (mLoc j) (retTy (mRet j)) ∈ WT) : GoodIn WT (Cond.code (yOf j) (cOf j) (mLoc j) (retTy (mRet j)) :: WT) := fun w hw => by
  rcases List.mem_cons.mp hw with rfl | hw
  · exact WT_self _ hcw
  · exact WT_self _ hw
set_option maxHeartbeats 4000000 in
theorem sm_call {n d j cells1 slots1 : Nat} {ins : Instr} {x : Int} {pos : Nat} {v : Option PV} {sh1 : Shp} {w1 : Hp} (IH : SimN l D base L xs ro n) (C : Cx p s m args meth c base L xs ro mi) (hd : decode (cOf mi) pc = .ok (ins, 3)) (hok : okWord mi (oOf mi) pc ins x pos = true) (hcall : callOf ins x = some j) (hj : j < 230) (hj0 : 0 < j) (hR : d + 1 + 1 ≤ R.frames ∧ 40 + 31 * (d + 1) ≤ R.locals)
    (hpop : mPop j ≤ pst.length) (hrest : (pst.drop (mPop j)).length ≤ 4) (hrecv : recvOk sh j (pst.take (mPop j)).reverse = true) (hsp : (spread (pst.take (mPop j)).reverse).length ≤ mLoc j) (hev : ev n d j 0 (entryLs j (pst.take (mPop j)).reverse) [] sh w = some (v, sh1, w1)) (hc1 : cells1 = cells + (sh1.length - sh.length)) (hs1 : slots1 = slots + (slotsOf sh1 - slotsOf sh)) (hRc : cells1 ≤ R.cells ∧ slots1 ≤ R.slots)
    (k : Sm p l e R s m args below meth c Q D base L xs ro mi ws0 cells1 slots1 (pc + 3) pls (v.toList ++ pst.drop (mPop j)) sh1 w1) : Sm p l e R s m args below meth c Q D base L xs ro mi ws0 cells slots pc pls pst sh w := by
  subst hc1 hs1
  intro H locs ls st ws tys he hK hP hD hS hRW hw hl hs
  obtain ⟨hx, hb, hml, hown, hts, hini, hbs, hL, hE⟩ := id C
  obtain ⟨⟨pz, hokm⟩, hcw⟩ := OKM_of hj hj0
  unfold okM at hokm
  simp only [Bool.and_eq_true, decide_eq_true_eq] at hokm
  obtain ⟨⟨⟨⟨⟨⟨hi, hkd⟩, hpar⟩, hpl⟩, hnn⟩, hml0⟩, hcls⟩ := hokm
  obtain ⟨hta, hdr⟩ := srel_take (mPop j) hs
  have hav := srel_rev hta
  have hM := met_of (tys := tys) IH hj hj0 hL hev hsp hRW hw hav
  have hst : st = ((st.take (mPop j)).reverse).reverse ++ st.drop (mPop j) := by rw [List.reverse_reverse, List.take_append_drop]
  have hlen : ((st.take (mPop j)).reverse).length = mPop j := by
    rw [List.length_reverse, List.length_take, srel_len hs]
    omega
  have hcat : ((st.drop (mPop j)).map fun v => v.category).sum ≤ 8 := by
    have h1 := cat_sum (st.drop (mPop j))
    have h2 := srel_len hdr
    omega
  have hpc : ∀ U : State, U.heap = H → s.WarmedH U.vm → PcS base L xs ro D ws tys (st.take (mPop j)).reverse ((st.take (mPop j)).reverse).toArray U := fun U hU hW =>
    ⟨rfl, by rw [hU]; exact Nat.le_trans hbs hS.1, by rw [hU]; exact hP, va_K.moved hW.alike hK, hD, by rw [hU]; exact hE.at hbs hW (fun q h1 h2 => hS.2.1 q h1 h2)⟩
  have hpay : ∀ w ∈ (Cond.code (yOf j) (cOf j) (mLoc j) (retTy (mRet j)) :: WT), ∀ (a' : Array Value) (U : State), s.WarmedH U.vm → w.before a' U = true := pay_in hts (GoodCode hcw)
  have hsig : ∀ sig, parseMethodDescriptor (yOf j).desc = some sig → mPar j = sig.parameters.length := fun sig h => by
    rw [h] at hpar
    exact (Option.some.inj hpar).symm
  have hrf : d + 1 + 1 ≤ R.frames ∧ 8 + (mLoc j + 11) + (40 + 31 * d) ≤ R.locals := by omega
  obtain ⟨lv, hlv, -⟩ := id hl
  generalize hAV : (st.take (mPop j)).reverse = avs at hM hst hlen hav hpc
  generalize hRS : st.drop (mPop j) = rest at hst hcat hdr
  subst hst
  have hfix : CallFix p m c (cOf mi) (mLoc mi) s args WT (oOf mi) := ⟨hx, hb, hml, hown, hts⟩
  have hroom : 2 * (F0 m pc ls (avs.reverse ++ rest)).monitorRoom + (rest.map fun v => v.category).sum ≤ 8 := by
    show 2 * 0 + _ ≤ 8
    omega
  have cb : ∀ {idx : Nat}, (Cond.methodLink (oOf mi) idx (yOf j)).before args s = true → CallB R s args (oOf mi) idx (yOf j) (cOf j) (mLoc j) (retTy (mRet j)) (Cond.code (yOf j) (cOf j) (mLoc j) (retTy (mRet j)) :: WT) ({ frames := d + 1, cells := sh1.length - sh.length, slots := slotsOf sh1 - slotsOf sh, locals := 40 + 31 * d }) (sh1.length - sh.length) (slotsOf sh1 - slotsOf sh) (mPar j) := fun {idx} hlk =>
    ⟨rfl, rfl, hrf.1, hrf.2, hpay, List.mem_cons_self, hts _ hcw, hts _ (WT_in hi rfl), hnn, hsig, hlk⟩
  unfold callOf at hcall
  split at hcall
  · split at hcall
    · rename_i idx h0
      cases hcall
      rw [okWord, Bool.and_eq_true, decide_eq_true_eq] at hok
      have hk1 := hok.1.2
      rw [hk1] at hkd
      simp only [Bool.and_eq_true, decide_eq_true_eq] at hkd
      unfold recvOk at hrecv
      rw [hk1] at hrecv
      generalize hPT : (pst.take (mPop x.toNat)).reverse = pas at hrecv hav
      match pas, hrecv, hav with
      | Sum.inr (Sum.inr r) :: pas', hrecv, hav =>
        obtain ⟨b0, As, rfl, hb0, hAs⟩ := srel_cons hav
        have hsr := of_decide_eq_true hrecv
        obtain ⟨b, e0, rfl, -, -, hwr, fs, rfl, hci, -⟩ := cell_at hw hsr hb0
        obtain ⟨Tt, ty, hcl, -⟩ := cls_all _ hci
        have hrv := va_recv hK hP hcl hwr
        have hlA : As.length = mPar x.toNat := by
          have : mPop x.toNat = mPar x.toNat + 1 := by unfold mPop; rw [hk1]; rfl
          simp only [List.length_cons] at hlen
          omega
        exact sm_back (va_runV (C := CN (mCls x.toNat)) (As := As) (rest := rest) hfix hM ⟨cb (hts _ (WT_in hok.2 rfl)), hts _ (WT_in hkd.1.1.1 rfl), hts _ (WT_in hkd.1.1.2 rfl)⟩ ⟨PcS_blind, hrv, hpc⟩ rfl hlA hlv.1 (by show _ = _; simp) hroom hd hRc) he hS hl hdr k
    · cases hcall
  · split at hcall
    · rename_i idx h0
      cases hcall
      rw [okWord, if_neg (by omega), if_neg (by omega), if_neg (by omega), if_neg (by omega), Bool.and_eq_true, decide_eq_true_eq] at hok
      have hk1 := hok.1.2
      rw [hk1] at hkd
      have hlA : avs.length = mPar x.toNat := by
        have : mPop x.toNat = mPar x.toNat := by unfold mPop; rw [hk1]; rfl
        omega
      exact sm_back (va_runS (As := avs) (rest := rest) hfix hM ⟨cb (hts _ (WT_in hok.2 rfl)), hts _ (WT_in hkd rfl)⟩ ⟨PcS_blind, hpc⟩ rfl hlA hlv.1 rfl hroom hd hRc) he hS hl hdr k
    · cases hcall
  · split at hcall
    · rename_i idx h0
      cases hcall
      rw [okWord, if_neg (by omega), Bool.and_eq_true, decide_eq_true_eq, Bool.or_eq_true] at hok
      have hk1 := hok.1.2
      rw [hk1] at hkd
      simp only [Bool.and_eq_true, decide_eq_true_eq] at hkd
      unfold recvOk at hrecv
      rw [hk1] at hrecv
      generalize hPT : (pst.take (mPop x.toNat)).reverse = pas at hrecv hav
      match pas, hrecv, hav with
      | Sum.inr (Sum.inr r) :: pas', hrecv, hav =>
        obtain ⟨b0, As, rfl, hb0, hAs⟩ := srel_cons hav
        have hsr := of_decide_eq_true hrecv
        obtain ⟨b, e0, rfl, -, -, hwr, fs, rfl, hci, -⟩ := cell_at hw hsr hb0
        have hlA : As.length = mPar x.toNat := by
          have : mPop x.toNat = mPar x.toNat + 1 := by unfold mPop; rw [hk1]; rfl
          simp only [List.length_cons] at hlen
          omega
        have hrt : retTy (mRet x.toNat) = none := by rw [hkd.2]; rfl
        rcases hok.2 with hlk | hlk
        · have cb' := cb (hts _ (WT_in hlk rfl))
          rw [hrt] at cb' hM
          exact sm_back (va_runI (As := As) (rest := rest) hfix hM ⟨cb', hkd.1.1.2, hts _ (WT_in hkd.1.1.1 rfl)⟩ ⟨PcS_blind, hpc⟩ rfl hlA hlv.1 (by show _ = _; simp) hroom hd hRc) he hS hl hdr k
        · have hnw := hE.2.2.2.2.1 _ _ _ _ (List.mem_of_getElem? (of_decide_eq_true hlk))
          rw [hrt] at hM hpay hcw
          have hcn : va_CN R s args (oOf mi) idx (yOf x.toNat) "VotedHill" (cOf x.toNat) (mLoc x.toNat) none (Cond.code (yOf x.toNat) (cOf x.toNat) (mLoc x.toNat) none :: WT) ({ frames := d + 1, cells := sh1.length - sh.length, slots := slotsOf sh1 - slotsOf sh, locals := 40 + 31 * d }) (sh1.length - sh.length) (slotsOf sh1 - slotsOf sh) (mPar x.toNat) :=
            ⟨⟨rfl, rfl, hrf.1, hrf.2, hpay, List.mem_cons_self⟩, hts _ hcw, hts _ (WT_in hi rfl), hnn, hsig, va_Nw.use rfl hnw⟩
          exact sm_back (va_runIN (As := As) (rest := rest) hfix hM ⟨hcn, hkd.1.1.2, hts _ (WT_in hkd.1.1.1 rfl)⟩ ⟨PcS_blind, hpc⟩ rfl hlA hlv.1 (by show _ = _; simp) hroom hd hRc) he hS hl hdr k
    · cases hcall
  · cases hcall
end SIM
set_option maxHeartbeats 4000000 in
/-- THE SIMULATION -/
theorem sim (l : Launch) (D : va_G) (base L : Nat) (xs : Nat → Int32) (ro : Int → Option Nat) : ∀ n, SimN l D base L xs ro n := by
  intro n
  induction n with
  | zero => intro d mi pc pls pst sh w v sh1 w1 h; cases h
  | succ n ih =>
    intro d mi pc pls pst sh w v sh1 w1 h hmi p e R s m args below meth c Q ws0 cells slots cf sf C hR hcf hsf hRc hret
    unfold ev at h
    split at h
    · cases h
    · rename_i pc0 ins len x pos hrow
      obtain ⟨rfl, hrk⟩ := row_ok hmi hrow
      unfold okRow at hrk
      simp only [Bool.and_eq_true, decide_eq_true_eq] at hrk
      obtain ⟨⟨hd, hlen⟩, hok⟩ := hrk
      split at h
      · rename_i j hcall
        have hlen3 : len = 3 := by
          unfold callOf at hcall
          split at hcall
          · exact hlen
          · exact hlen
          · exact hlen
          · cases hcall
        subst hlen3
        split at h
        · cases h
        · rename_i d'
          split at h
          · rename_i hcond
            obtain ⟨hpop, hrest, hrecv, hj, hj0, hsp⟩ := hcond
            split at h
            · cases h
            · rename_i v2 sh2 w2 hev
              obtain ⟨t1, ht1⟩ := ev_mono _ _ _ _ _ _ _ _ _ _ _ hev
              obtain ⟨t2, ht2⟩ := ev_mono _ _ _ _ _ _ _ _ _ _ _ h
              have e1 : sh2.length = sh.length + t1.length := by rw [ht1, List.length_append]
              have e2 : sh1.length = sh2.length + t2.length := by rw [ht2, List.length_append]
              have e3 : slotsOf sh2 = slotsOf sh + slotsOf t1 := by rw [ht1, slots_app]
              have e4 : slotsOf sh1 = slotsOf sh2 + slotsOf t2 := by rw [ht2, slots_app]
              refine sm_call ih C hd hok hcall hj hj0 hR hpop hrest hrecv hsp hev rfl rfl ⟨by omega, by omega⟩ ?_
              exact ih _ _ _ _ _ _ _ _ _ _ h hmi p e R s m args below meth c Q ws0 _ _ cf sf C hR (by omega) (by omega) hRc hret
          · cases h
      · split at h
        · rename_i v0 hr0
          cases h
          intro H locs ls st ws tys he hK hP hD hS hRW hw hl hs
          obtain rfl : cells = cf := by omega
          obtain rfl : slots = sf := by omega
          exact hret H locs ls st ws tys _ ins len pst hd hlen hr0 he hK hP hD hS hRW hw hs
        · split at h
          · rename_i st' sh' w' ha
            obtain ⟨t1, ht1⟩ := alloc_mono ha
            obtain ⟨t2, ht2⟩ := ev_mono _ _ _ _ _ _ _ _ _ _ _ h
            have e1 : sh'.length = sh.length + t1.length := by rw [ht1, List.length_append]
            have e2 : sh1.length = sh'.length + t2.length := by rw [ht2, List.length_append]
            have e3 : slotsOf sh' = slotsOf sh + slotsOf t1 := by rw [ht1, slots_app]
            have e4 : slotsOf sh1 = slotsOf sh' + slotsOf t2 := by rw [ht2, slots_app]
            refine sm_alloc (cells' := cells + t1.length) (slots' := slots + slotsOf t1) C hd hlen hok ha (by omega) (by omega) ⟨by omega, by omega⟩ ?_
            exact ih _ _ _ _ _ _ _ _ _ _ h hmi p e R s m args below meth c Q ws0 _ _ cf sf C hR (by omega) (by omega) hRc hret
          · split at h
            · rename_i pc' ls' st' w' hst
              obtain ⟨t2, ht2⟩ := ev_mono _ _ _ _ _ _ _ _ _ _ _ h
              have e2 : sh1.length = sh.length + t2.length := by rw [ht2, List.length_append]
              have e4 : slotsOf sh1 = slotsOf sh + slotsOf t2 := by rw [ht2, slots_app]
              refine sm_step C ⟨by omega, by omega⟩ ⟨by omega, by omega⟩ hd hlen hok hst ?_
              exact ih _ _ _ _ _ _ _ _ _ _ h hmi p e R s m args below meth c Q ws0 _ _ cf sf C hR hcf hsf hRc hret
            · cases h
end
section
/-! THE CLAIM OUT OF ONE WALK OF THE LAW'S BODY. Your part is whole_start (and what it stands on); all else here is the same for every law, but numbers. -/
def R_law : String := "VotedHillLaw"
def lw_P (b : Addr) (xs : List Int32) (args : Array Value) (s : State) : Prop := args = #[.ref b] ∧ s.IntsAt b xs ∧ xs.length ≤ 384 ∧ (Jvm.Cond.and given_1 narrow_1).before args s = true
def lw_Q (_ : Array Value) (s : State) (o : Outcome) (t : State) : Prop := o = .returned (some (.int 1)) ∧ Framed s o t [] 600000 7302250
def lw_Z (below : List Frame) (a : Array Value) (s : State) : State → Prop := fun t => ∃ o, t.status = .running ∧ Ended t below o ∧ lw_Q a s o t
/-- the law's own end, with 1 on the stack, nothing written that was there before, its room as the claim has it -/
theorem lw_ret {p : Program} {l : Launch} {e : Env} {s : State} {m : MethodId} {below : List Frame} {meth : Method} {c : Code} {b : Nat} (hx : p.tables.exec = Jvm.exec) (hb : c.code = code) (hr : meth.sig.returnType = ret) (hlocks : meth.locks = false) {pc : Nat} {H : Heap} {ls : Array Slot} (hdg : decode code pc = .ok (.ireturn, 1)) : W p l e room_1 s m #[Value.ref b] below meth c H [] 600000 7302250 (lw_Z below #[Value.ref b] s) (F0 m pc ls [.int 1]) := by
  intro T hT X
  obtain ⟨fs, hret, hrun, hended, hW, hframe⟩ := X.leave (v := some (.int 1)) (hlocks := hlocks) (fun h => by rw [hr] at h; cases h)
  have hmeth' : T.vm.method? m = some meth := X.method'
  refine ⟨T.setFrames fs, ?_, .returned (some (.int 1)), hrun, hended, rfl, ⟨_, rfl⟩, hW, hframe⟩
  jvm_step X.here [X.here.top, hx, hb, hdg, hmeth', hr, ret, narrow_b1]
  (try refine ⟨rfl, ?_⟩); (try refine ⟨rfl, ?_⟩)
  first | (intro acts; rw [hret _ acts rfl rfl rfl]) | rw [hret _ _ rfl rfl rfl]
  exact Steps.refl _
/-- what holds at the law's entry: the machine, the code, the tables' words (any of lw_tbl by 'hts w (by decide +kernel)'), the script of L ints xs at the cell b, what the Statement gives of the start (any of its parts by flat_of_before) -/
def lw_At (p : Program) (s : State) (m : MethodId) (meth : Method) (c : Code) (b L : Nat) (xs : Nat → Int32) : Prop :=
  p.tables.exec = Jvm.exec ∧ c.code = code ∧ meth.sig.returnType = ret ∧ c.maxLocals = 4 ∧ s.vm.findClass R_law = some m.cls ∧ (∀ w ∈ lw_tbl, w.before #[Value.ref b] s = true) ∧ va_X b L xs s s.heap ∧ b < s.heap.size ∧ meth.locks = false ∧ (Jvm.Cond.and given_1 narrow_1).before #[Value.ref b] s = true
theorem nr3_0 : Cond.eq (.elem (Term.static "VotedHill$Reader" "KIND_LETTERS" "[C") (.int 0)) (.int 102) ∈ flatC (Jvm.Cond.and given_1 narrow_1) := by decide +kernel
theorem nr3_1 : Cond.eq (.elem (Term.static "VotedHill$Reader" "KIND_LETTERS" "[C") (.int 1)) (.int 118) ∈ flatC (Jvm.Cond.and given_1 narrow_1) := by decide +kernel
theorem nr3_2 : Cond.eq (.elem (Term.static "VotedHill$Reader" "KIND_LETTERS" "[C") (.int 2)) (.int 119) ∈ flatC (Jvm.Cond.and given_1 narrow_1) := by decide +kernel
theorem nr3_3 : Cond.eq (.elem (Term.static "VotedHill$Reader" "KIND_LETTERS" "[C") (.int 3)) (.int 103) ∈ flatC (Jvm.Cond.and given_1 narrow_1) := by decide +kernel
theorem nr3_4 : Cond.eq (.elem (Term.static "VotedHill$Reader" "KIND_LETTERS" "[C") (.int 4)) (.int 109) ∈ flatC (Jvm.Cond.and given_1 narrow_1) := by decide +kernel
theorem nr3_5 : Cond.eq (.elem (Term.static "VotedHill$Reader" "KIND_LETTERS" "[C") (.int 5)) (.int 104) ∈ flatC (Jvm.Cond.and given_1 narrow_1) := by decide +kernel
theorem nr3_a : Cond.arrayOf (Term.static "VotedHill$Reader" "KIND_LETTERS" "[C") .char ∈ flatC (Jvm.Cond.and given_1 narrow_1) := by decide +kernel
theorem nr3_l : Cond.eq (.length (Term.static "VotedHill$Reader" "KIND_LETTERS" "[C")) (.int 6) ∈ flatC (Jvm.Cond.and given_1 narrow_1) := by decide +kernel
theorem nr3_s : tb 457 (.laysStatic "VotedHill$Reader" "KIND_LETTERS" "[C") = true := by decide +kernel
theorem nr3_i : tb 68 (.initialized "VotedHill$Reader") = true := by decide +kernel
theorem ro_3 {s : State} {args : Array Value} (hts : ∀ w ∈ lw_tbl, w.before args s = true) (hg : (Jvm.Cond.and given_1 narrow_1).before args s = true) : ∃ t, stO s.heap.size "VotedHill$Reader" "KIND_LETTERS" "[C" .char 6 K3 (some t) s s.heap := by
  have hs := flat_of_before _ hg
  have hA : ∀ a : Nat, a < s.heap.size → ¬ (fun q : Nat => s.heap.size ≤ q) a := fun a h => Nat.not_le.mpr h
  obtain ⟨t, h1, h2⟩ := va_Tof (tm := (Term.static "VotedHill$Reader" "KIND_LETTERS" "[C")) (ty := .char) (N := 6) (f := fun j => .int (Int32.ofInt (K3 j))) (by decide) (hs _ nr3_a) (va_eqt (hs _ nr3_l)) (fun j hj => by
    match j, hj with
    | 0, _ => exact va_eqt (hs _ nr3_0)
    | 1, _ => exact va_eqt (hs _ nr3_1)
    | 2, _ => exact va_eqt (hs _ nr3_2)
    | 3, _ => exact va_eqt (hs _ nr3_3)
    | 4, _ => exact va_eqt (hs _ nr3_4)
    | 5, _ => exact va_eqt (hs _ nr3_5)
    | j + 6, hj => omega) hA
  exact ⟨t, t, rfl, va_Zof (hts _ (List.mem_of_getElem? (of_decide_eq_true nr3_s))) (hts _ (List.mem_of_getElem? (of_decide_eq_true nr3_i))) h1 hA, h2⟩
theorem nr4_0 : Cond.eq (.elem (Term.static "VotedHill$Land" "WIDER_KIND" "[I") (.int 0)) (.int 0) ∈ flatC (Jvm.Cond.and given_1 narrow_1) := by decide +kernel
theorem nr4_1 : Cond.eq (.elem (Term.static "VotedHill$Land" "WIDER_KIND" "[I") (.int 1)) (.int 0) ∈ flatC (Jvm.Cond.and given_1 narrow_1) := by decide +kernel
theorem nr4_2 : Cond.eq (.elem (Term.static "VotedHill$Land" "WIDER_KIND" "[I") (.int 2)) (.int 0) ∈ flatC (Jvm.Cond.and given_1 narrow_1) := by decide +kernel
theorem nr4_3 : Cond.eq (.elem (Term.static "VotedHill$Land" "WIDER_KIND" "[I") (.int 3)) (.int 0) ∈ flatC (Jvm.Cond.and given_1 narrow_1) := by decide +kernel
theorem nr4_4 : Cond.eq (.elem (Term.static "VotedHill$Land" "WIDER_KIND" "[I") (.int 4)) (.int 2) ∈ flatC (Jvm.Cond.and given_1 narrow_1) := by decide +kernel
theorem nr4_5 : Cond.eq (.elem (Term.static "VotedHill$Land" "WIDER_KIND" "[I") (.int 5)) (.int 3) ∈ flatC (Jvm.Cond.and given_1 narrow_1) := by decide +kernel
theorem nr4_a : Cond.arrayOf (Term.static "VotedHill$Land" "WIDER_KIND" "[I") .int ∈ flatC (Jvm.Cond.and given_1 narrow_1) := by decide +kernel
theorem nr4_l : Cond.eq (.length (Term.static "VotedHill$Land" "WIDER_KIND" "[I")) (.int 6) ∈ flatC (Jvm.Cond.and given_1 narrow_1) := by decide +kernel
theorem nr4_s : tb 520 (.laysStatic "VotedHill$Land" "WIDER_KIND" "[I") = true := by decide +kernel
theorem nr4_i : tb 67 (.initialized "VotedHill$Land") = true := by decide +kernel
theorem ro_4 {s : State} {args : Array Value} (hts : ∀ w ∈ lw_tbl, w.before args s = true) (hg : (Jvm.Cond.and given_1 narrow_1).before args s = true) : ∃ t, stO s.heap.size "VotedHill$Land" "WIDER_KIND" "[I" .int 6 K4 (some t) s s.heap := by
  have hs := flat_of_before _ hg
  have hA : ∀ a : Nat, a < s.heap.size → ¬ (fun q : Nat => s.heap.size ≤ q) a := fun a h => Nat.not_le.mpr h
  obtain ⟨t, h1, h2⟩ := va_Tof (tm := (Term.static "VotedHill$Land" "WIDER_KIND" "[I")) (ty := .int) (N := 6) (f := fun j => .int (Int32.ofInt (K4 j))) (by decide) (hs _ nr4_a) (va_eqt (hs _ nr4_l)) (fun j hj => by
    match j, hj with
    | 0, _ => exact va_eqt (hs _ nr4_0)
    | 1, _ => exact va_eqt (hs _ nr4_1)
    | 2, _ => exact va_eqt (hs _ nr4_2)
    | 3, _ => exact va_eqt (hs _ nr4_3)
    | 4, _ => exact va_eqt (hs _ nr4_4)
    | 5, _ => exact va_eqt (hs _ nr4_5)
    | j + 6, hj => omega) hA
  exact ⟨t, t, rfl, va_Zof (hts _ (List.mem_of_getElem? (of_decide_eq_true nr4_s))) (hts _ (List.mem_of_getElem? (of_decide_eq_true nr4_i))) h1 hA, h2⟩
theorem nr5_0 : Cond.eq (.elem (Term.static "VotedHill$Land" "AGAINST" "[I") (.int 0)) (.int 0) ∈ flatC (Jvm.Cond.and given_1 narrow_1) := by decide +kernel
theorem nr5_1 : Cond.eq (.elem (Term.static "VotedHill$Land" "AGAINST" "[I") (.int 1)) (.int 3) ∈ flatC (Jvm.Cond.and given_1 narrow_1) := by decide +kernel
theorem nr5_2 : Cond.eq (.elem (Term.static "VotedHill$Land" "AGAINST" "[I") (.int 2)) (.int 4) ∈ flatC (Jvm.Cond.and given_1 narrow_1) := by decide +kernel
theorem nr5_3 : Cond.eq (.elem (Term.static "VotedHill$Land" "AGAINST" "[I") (.int 3)) (.int 1) ∈ flatC (Jvm.Cond.and given_1 narrow_1) := by decide +kernel
theorem nr5_4 : Cond.eq (.elem (Term.static "VotedHill$Land" "AGAINST" "[I") (.int 4)) (.int 2) ∈ flatC (Jvm.Cond.and given_1 narrow_1) := by decide +kernel
theorem nr5_a : Cond.arrayOf (Term.static "VotedHill$Land" "AGAINST" "[I") .int ∈ flatC (Jvm.Cond.and given_1 narrow_1) := by decide +kernel
theorem nr5_l : Cond.eq (.length (Term.static "VotedHill$Land" "AGAINST" "[I")) (.int 5) ∈ flatC (Jvm.Cond.and given_1 narrow_1) := by decide +kernel
theorem nr5_s : tb 592 (.laysStatic "VotedHill$Land" "AGAINST" "[I") = true := by decide +kernel
theorem nr5_i : tb 67 (.initialized "VotedHill$Land") = true := by decide +kernel
theorem ro_5 {s : State} {args : Array Value} (hts : ∀ w ∈ lw_tbl, w.before args s = true) (hg : (Jvm.Cond.and given_1 narrow_1).before args s = true) : ∃ t, stO s.heap.size "VotedHill$Land" "AGAINST" "[I" .int 5 K5 (some t) s s.heap := by
  have hs := flat_of_before _ hg
  have hA : ∀ a : Nat, a < s.heap.size → ¬ (fun q : Nat => s.heap.size ≤ q) a := fun a h => Nat.not_le.mpr h
  obtain ⟨t, h1, h2⟩ := va_Tof (tm := (Term.static "VotedHill$Land" "AGAINST" "[I")) (ty := .int) (N := 5) (f := fun j => .int (Int32.ofInt (K5 j))) (by decide) (hs _ nr5_a) (va_eqt (hs _ nr5_l)) (fun j hj => by
    match j, hj with
    | 0, _ => exact va_eqt (hs _ nr5_0)
    | 1, _ => exact va_eqt (hs _ nr5_1)
    | 2, _ => exact va_eqt (hs _ nr5_2)
    | 3, _ => exact va_eqt (hs _ nr5_3)
    | 4, _ => exact va_eqt (hs _ nr5_4)
    | j + 5, hj => omega) hA
  exact ⟨t, t, rfl, va_Zof (hts _ (List.mem_of_getElem? (of_decide_eq_true nr5_s))) (hts _ (List.mem_of_getElem? (of_decide_eq_true nr5_i))) h1 hA, h2⟩

/-- the pure heap at the start: what is read only -/
def w0 (L : Nat) (xs : Nat → Int32) : Hp := fun a j => if a = -2 then (if j = -1 then L else (xs j.toNat).toInt) else if a = -3 then (if j = -1 then 6 else K3 j.toNat) else if a = -4 then (if j = -1 then 6 else K4 j.toNat) else if a = -5 then (if j = -1 then 5 else K5 j.toNat) else 0
theorem w0_RW (L : Nat) (xs : Nat → Int32) : RW L xs (w0 L xs) := by
  refine ⟨⟨rfl, fun j hj => ?_⟩, ⟨rfl, fun j hj => ?_⟩, ⟨rfl, fun j hj => ?_⟩, ⟨rfl, fun j hj => ?_⟩⟩
  · unfold w0
    rw [if_pos rfl, if_neg (by omega), Int.toNat_natCast]
  · unfold w0
    rw [if_neg (by decide), if_pos rfl, if_neg (by omega), Int.toNat_natCast]
  · unfold w0
    rw [if_neg (by decide), if_neg (by decide), if_pos rfl, if_neg (by omega), Int.toNat_natCast]
  · unfold w0
    rw [if_neg (by decide), if_neg (by decide), if_neg (by decide), if_pos rfl, if_neg (by omega), Int.toNat_natCast]
/-- WHAT IS LEFT: the pure machine answers 1 on every script -/
def PureMain : Prop := ∀ (L : Nat) (xs : Nat → Int32), L ≤ 384 → ∃ (n : Nat) (sh1 : Shp) (w1 : Hp), ev n 10 0 0 (entryLs 0 [vR (-2)]) [] [] (w0 L xs) = some (some (vI 1), sh1, w1) ∧ sh1.length ≤ 600000 ∧ slotsOf sh1 ≤ 7302250
theorem ao_S : tb 89 (.arrayOver (.object "VotedHill$Strip")) = true := by decide +kernel
theorem ao_L : tb 164 (.arrayOver (.object "VotedHill$Land")) = true := by decide +kernel
theorem ao_I : tb 221 (.arrayOver (.array .int)) = true := by decide +kernel
theorem start_of_pure (hpure : PureMain) {p : Program} {e : Env} {s : State} {m : MethodId} {below : List Frame} {meth : Method} {c : Code} (l : Launch) {b L : Nat} {xs : Nat → Int32} (hL : L ≤ 384) (C0 : lw_At p s m meth c b L xs) : W p l e room_1 s m #[Value.ref b] below meth c s.heap [] 0 0 (lw_Z below #[Value.ref b] s) (entryFrame m ([Value.ref b] : List Value).toArray 4) := by
  obtain ⟨hx, hb, hr, hml, hown, hts, hX, hbl, hlocks, hgv⟩ := id C0
  obtain ⟨n, sh1, w1, hev, hc1, hs1⟩ := hpure L xs hL
  have htw : ∀ w ∈ WT, w.before #[Value.ref b] s = true := fun w hw => hts w (WT_good w hw).1
  have hcl : ∀ ci, ∃ (cC : ClassId) (iS : Nat → Nat), ci < 11 → ∀ q : vw_C, vwCl[ci]? = some q → u_Kn s q.1 q.2.1 q.2.2 cC iS := by
    intro ci
    by_cases hci : ci < 11
    · obtain ⟨T, ty, hq, hT, hin, hty, hnm, hi1, hi2, hkd⟩ := cls_all _ hci
      obtain ⟨cC, iS, h⟩ := u_known htw hin (htw _ hi1)
      refine ⟨cC, iS, fun _ q hq' => ?_⟩
      rw [hq] at hq'
      cases hq'
      exact h
    · exact ⟨m.cls, fun _ => 0, fun h => absurd h hci⟩
  obtain ⟨dC, hdC⟩ := Classical.axiomOfChoice hcl
  obtain ⟨dI, hdI⟩ := Classical.axiomOfChoice hdC
  have hK : va_K (dC, dI) vwCl [] s := ⟨fun ci q hq => hdI ci (List.getElem?_eq_some_iff.mp hq).1 q hq, fun k q h => by simp at h⟩
  have hP : va_P (dC, dI) vwCl [] s.heap := fun k q h => by simp at h
  have hD : va_D (fun q : Nat => s.heap.size ≤ q) [] := ⟨fun i j p q h => by simp at h, fun k q h => by simp at h⟩
  obtain ⟨t3, h3⟩ := ro_3 hts hgv
  obtain ⟨t4, h4⟩ := ro_4 hts hgv
  obtain ⟨t5, h5⟩ := ro_5 hts hgv
  obtain ⟨ro, r2, r3, r4, r5⟩ : ∃ ro : Int → Option Nat, ro (-2) = some b ∧ ro (-3) = some t3 ∧ ro (-4) = some t4 ∧ ro (-5) = some t5 := ⟨fun r => if r = -2 then some b else if r = -3 then some t3 else if r = -4 then some t4 else some t5, rfl, rfl, rfl, rfl⟩
  have hE : Env0 s.heap.size L xs ro s s.heap := ⟨⟨b, r2, hbl, hX⟩, by rw [r3]; exact h3, by rw [r4]; exact h4, by rw [r5]; exact h5, fun a i y h hm => va_Nw.of rfl (hts _ hm), va_AO.of (hts _ (List.mem_of_getElem? (of_decide_eq_true ao_S))), va_AO.of (hts _ (List.mem_of_getElem? (of_decide_eq_true ao_L))), (hts _ (List.mem_of_getElem? (of_decide_eq_true ao_I)) : (Cond.arrayOver (.array .int)).before _ s = true)⟩
  have hE : Env0 s.heap.size L xs ro s s.heap := hE
  have C : Cx p s m #[Value.ref b] meth c s.heap.size L xs ro 0 := ⟨hx, hb, hml, hown, htw, fun h => absurd h (by decide), Nat.le_refl _, by omega, hE⟩
  have ha : srel ro [] [Value.ref b] [vR (-2)] := ⟨Or.inr ⟨by decide, b, rfl, r2⟩, trivial⟩
  rw [lg_entry_eq]
  refine sim l (dC, dI) s.heap.size L xs ro n 10 0 0 _ [] [] _ _ _ _ hev (by decide) p e room_1 s m _ below meth c _ [] 0 0 sh1.length (slotsOf sh1) C ⟨by decide, by decide⟩ (by simp) (by simp [slotsOf]) ⟨hc1, hs1⟩ ?_ s.heap [] _ [] [] [] (ext_rf _) hK hP hD va_S.rf (w0_RW L xs) ⟨rfl, fun k s' x h => by simp at h⟩ (entry_rel ha (by decide)) trivial
  intro H locs ls st ws tys pc ins len pst hd hlen hret hxt hK1 hP1 hD1 hS1 hRW1 hw1 hs
  unfold retOf at hret
  split at hret
  · obtain rfl : len = 1 := hlen
    split at hret
    · split at hret
      · cases hret
        obtain ⟨v1, st', rfl, ⟨c1, rfl, h1⟩, hs'⟩ := srel_cons hs
        cases srel_nil hs'
        have hc : c1 = 1 := eq32.mpr (by rw [h1]; rfl)
        subst hc
        refine va_forget (fun q hq => hS1.2.2 q hq) ?_
        refine W.widen (k := 600000) (n := 7302250) hc1 hs1 ?_
        exact lw_ret hx hb hr hlocks hd
      · cases hret
    · cases hret
  · split at hret
    · split at hret
      · rename_i hm
        exact absurd hm (by decide)
      · cases hret
    · cases hret
  · split at hret
    · split at hret
      · rename_i hm
        exact absurd hm (by decide)
      · cases hret
    · cases hret
  · cases hret
end
section
/-! weakest preconditions over the pure machine: fuel is hidden -/
theorem ev_more : ∀ (n d mi pc : Nat) (ls : PL) (st : List PV) (sh : Shp) (w : Hp) (r : Option PV × Shp × Hp), ev n d mi pc ls st sh w = some r → ev (n + 1) d mi pc ls st sh w = some r := by
  intro n
  induction n with
  | zero => intro d mi pc ls st sh w r h; cases h
  | succ n ih =>
    intro d mi pc ls st sh w r h
    rw [ev] at h ⊢
    cases hrow : rowOf mi pc with
    | none => rw [hrow] at h; cases h
    | some row =>
      obtain ⟨pc0, ins, len, x, pos⟩ := row
      simp only [hrow] at h ⊢
      cases hj : callOf ins x with
      | some j =>
        simp only [hj] at h ⊢
        cases d with
        | zero => cases h
        | succ d' =>
          simp only at h ⊢
          split at h
          · rename_i hc
            rw [if_pos hc]
            cases hev : ev n d' j 0 (entryLs j (List.take (mPop j) st).reverse) [] sh w with
            | none => rw [hev] at h; cases h
            | some q =>
              obtain ⟨v1, sh1, w1⟩ := q
              rw [hev] at h
              rw [ih _ _ _ _ _ _ _ _ hev]
              exact ih _ _ _ _ _ _ _ _ h
          · cases h
      | none =>
        simp only [hj] at h ⊢
        cases hr : retOf mi ins st with
        | some v0 =>
          simp only [hr] at h ⊢
          exact h
        | none =>
          simp only [hr] at h ⊢
          cases ha : allocOf sh ins x st w with
          | some q =>
            obtain ⟨st', sh', w'⟩ := q
            simp only [ha] at h ⊢
            exact ih _ _ _ _ _ _ _ _ h
          | none =>
            simp only [ha] at h ⊢
            cases hs : step1 sh ins len x pc ls st w with
            | some q =>
              obtain ⟨pc', ls', st', w'⟩ := q
              simp only [hs] at h ⊢
              exact ih _ _ _ _ _ _ _ _ h
            | none => rw [hs] at h; cases h
theorem ev_le {n m d mi pc : Nat} {ls : PL} {st : List PV} {sh : Shp} {w : Hp} {r : Option PV × Shp × Hp} (hnm : n ≤ m) (h : ev n d mi pc ls st sh w = some r) : ev m d mi pc ls st sh w = some r := by
  induction hnm with
  | refl => exact h
  | step _ ih => exact ev_more _ _ _ _ _ _ _ _ _ ih
/-- from here the method returns, makes no cell, and Q holds of answer and heap -/
def WP (sh : Shp) (d mi pc : Nat) (ls : PL) (st : List PV) (w : Hp) (Q : Option PV → Hp → Prop) : Prop := ∃ (n : Nat) (v : Option PV) (w' : Hp), ev n d mi pc ls st sh w = some (v, sh, w') ∧ Q v w'
theorem WP.mono {sh : Shp} {d mi pc : Nat} {ls : PL} {st : List PV} {w : Hp} {Q Q' : Option PV → Hp → Prop} (h : WP sh d mi pc ls st w Q) (hq : ∀ v w', Q v w' → Q' v w') : WP sh d mi pc ls st w Q' := by
  obtain ⟨n, v, w', h1, h2⟩ := h
  exact ⟨n, v, w', h1, hq v w' h2⟩
section WPR
variable {sh : Shp} {d mi pc pc' pc0 len pos : Nat} {x : Int} {ls ls' : PL} {st : List PV} {w : Hp} {Q : Option PV → Hp → Prop}
theorem wp_of {ins : Instr} {st' : List PV} {w' : Hp} (h : rowOf mi pc = some (pc0, ins, len, x, pos)) (h1 : callOf ins x = none) (h2 : retOf mi ins st = none) (h3 : allocOf sh ins x st w = none) (h4 : step1 sh ins len x pc ls st w = some (pc', ls', st', w')) (k : WP sh d mi pc' ls' st' w' Q) : WP sh d mi pc ls st w Q := by
  obtain ⟨n, v, w2, e1, e2⟩ := k
  refine ⟨n + 1, v, w2, ?_, e2⟩
  unfold ev
  simp only [h, h1, h2, h3, h4]
  exact e1
/-- a call: the callee's contract, then on with its answer -/
theorem wp_call {ins : Instr} {j : Nat} {as rest : List PV} {Q1 : Option PV → Hp → Prop} (h : rowOf mi pc = some (pc0, ins, len, x, pos)) (h1 : callOf ins x = some j) (hp : pc + len = pc') (ha : (st.take (mPop j)).reverse = as) (hr : st.drop (mPop j) = rest) (hc : mPop j ≤ st.length ∧ rest.length ≤ 4 ∧ j < 230 ∧ 0 < j ∧ (spread as).length ≤ mLoc j) (hv : recvOk sh j as = true) (hm : WP sh d j 0 (entryLs j as) [] w Q1) (k : ∀ v w', Q1 v w' → WP sh (d + 1) mi pc' ls (v.toList ++ rest) w' Q) : WP sh (d + 1) mi pc ls st w Q := by
  subst ha hr hp
  obtain ⟨n1, v1, w1, e1, q1⟩ := hm
  obtain ⟨n2, v2, w2, e2, q2⟩ := k v1 w1 q1
  refine ⟨max n1 n2 + 1, v2, w2, ?_, q2⟩
  unfold ev
  simp only [h, h1]
  rw [if_pos ⟨hc.1, hc.2.1, hv, hc.2.2.1, hc.2.2.2.1, hc.2.2.2.2⟩, ev_le (Nat.le_max_left n1 n2) e1]
  exact ev_le (Nat.le_max_right n1 n2) e2
theorem wp_ret {ins : Instr} {v : Option PV} (h : rowOf mi pc = some (pc0, ins, len, x, pos)) (h1 : callOf ins x = none) (h2 : retOf mi ins st = some v) (q : Q v w) : WP sh d mi pc ls st w Q := by
  refine ⟨1, v, w, ?_, q⟩
  unfold ev
  simp only [h, h1, h2]
theorem wp_iload_n {k0 : Fin 4} {a : Int} (h : rowOf mi pc = some (pc0, .iload_n k0, len, x, pos)) (hp : pc + len = pc') (hg : ls[k0.val]? = some (some (vI a))) (k : WP sh d mi pc' ls (vI a :: st) w Q) : WP sh d mi pc ls (st) w Q := by
  subst hp
  exact wp_of h rfl rfl rfl (by simp only [step1, hg]) k
theorem wp_lload_n {k0 : Fin 4} {a : Int} (h : rowOf mi pc = some (pc0, .lload_n k0, len, x, pos)) (hp : pc + len = pc') (hg : ls[k0.val]? = some (some (vL a))) (k : WP sh d mi pc' ls (vL a :: st) w Q) : WP sh d mi pc ls (st) w Q := by
  subst hp
  exact wp_of h rfl rfl rfl (by simp only [step1, hg]) k
theorem wp_aload_n {k0 : Fin 4} {a : Int} (h : rowOf mi pc = some (pc0, .aload_n k0, len, x, pos)) (hp : pc + len = pc') (hg : ls[k0.val]? = some (some (vR a))) (hn : a ≠ -1) (k : WP sh d mi pc' ls (vR a :: st) w Q) : WP sh d mi pc ls (st) w Q := by
  subst hp
  exact wp_of h rfl rfl rfl (by simp only [step1, hg, if_neg hn]) k
theorem wp_iload {k0 : Nat} {a : Int} (h : rowOf mi pc = some (pc0, .iload k0, len, x, pos)) (hp : pc + len = pc') (hg : ls[k0]? = some (some (vI a))) (k : WP sh d mi pc' ls (vI a :: st) w Q) : WP sh d mi pc ls (st) w Q := by
  subst hp
  exact wp_of h rfl rfl rfl (by simp only [step1, hg]) k
theorem wp_lload {k0 : Nat} {a : Int} (h : rowOf mi pc = some (pc0, .lload k0, len, x, pos)) (hp : pc + len = pc') (hg : ls[k0]? = some (some (vL a))) (k : WP sh d mi pc' ls (vL a :: st) w Q) : WP sh d mi pc ls (st) w Q := by
  subst hp
  exact wp_of h rfl rfl rfl (by simp only [step1, hg]) k
theorem wp_aload {k0 : Nat} {a : Int} (h : rowOf mi pc = some (pc0, .aload k0, len, x, pos)) (hp : pc + len = pc') (hg : ls[k0]? = some (some (vR a))) (hn : a ≠ -1) (k : WP sh d mi pc' ls (vR a :: st) w Q) : WP sh d mi pc ls (st) w Q := by
  subst hp
  exact wp_of h rfl rfl rfl (by simp only [step1, hg, if_neg hn]) k
theorem wp_istore_n {k0 : Fin 4} {a : Int} (h : rowOf mi pc = some (pc0, .istore_n k0, len, x, pos)) (hp : pc + len = pc') (hk : k0.val < ls.length) (hl : lset ls k0.val (vI a) = ls') (k : WP sh d mi pc' ls' (st) w Q) : WP sh d mi pc ls (vI a :: st) w Q := by
  subst hp
  exact wp_of h rfl rfl rfl (by simp only [step1, if_pos hk, hl]) k
theorem wp_lstore_n {k0 : Fin 4} {a : Int} (h : rowOf mi pc = some (pc0, .lstore_n k0, len, x, pos)) (hp : pc + len = pc') (hk : k0.val + 1 < ls.length) (hl : lset2 ls k0.val (vL a) = ls') (k : WP sh d mi pc' ls' (st) w Q) : WP sh d mi pc ls (vL a :: st) w Q := by
  subst hp
  exact wp_of h rfl rfl rfl (by simp only [step1, if_pos hk, hl]) k
theorem wp_istore {k0 : Nat} {a : Int} (h : rowOf mi pc = some (pc0, .istore k0, len, x, pos)) (hp : pc + len = pc') (hk : k0 < ls.length) (hl : lset ls k0 (vI a) = ls') (k : WP sh d mi pc' ls' (st) w Q) : WP sh d mi pc ls (vI a :: st) w Q := by
  subst hp
  exact wp_of h rfl rfl rfl (by simp only [step1, if_pos hk, hl]) k
theorem wp_lstore {k0 : Nat} {a : Int} (h : rowOf mi pc = some (pc0, .lstore k0, len, x, pos)) (hp : pc + len = pc') (hk : k0 + 1 < ls.length) (hl : lset2 ls k0 (vL a) = ls') (k : WP sh d mi pc' ls' (st) w Q) : WP sh d mi pc ls (vL a :: st) w Q := by
  subst hp
  exact wp_of h rfl rfl rfl (by simp only [step1, if_pos hk, hl]) k
theorem wp_astore_n {k0 : Fin 4} {a : Int} (h : rowOf mi pc = some (pc0, .astore_n k0, len, x, pos)) (hp : pc + len = pc') (hn : a ≠ -1) (hk : k0.val < ls.length) (hl : lset ls k0.val (vR a) = ls') (k : WP sh d mi pc' ls' (st) w Q) : WP sh d mi pc ls (vR a :: st) w Q := by
  subst hp
  exact wp_of h rfl rfl rfl (by simp only [step1, if_neg hn, if_pos hk, hl]) k
theorem wp_iinc {k0 : Nat} {a n b : Int} (h : rowOf mi pc = some (pc0, .iinc k0 n, len, x, pos)) (hp : pc + len = pc') (hg : ls[k0]? = some (some (vI a))) (hb : w32 (a + w32 n) = b) (hl : lset ls k0 (vI b) = ls') (k : WP sh d mi pc' ls' (st) w Q) : WP sh d mi pc ls (st) w Q := by
  subst hp
  exact wp_of h rfl rfl rfl (by simp only [step1, hg, hb, hl]) k
theorem wp_iconst {n a : Int} (h : rowOf mi pc = some (pc0, .iconst n, len, x, pos)) (hp : pc + len = pc') (ha : w32 n = a) (k : WP sh d mi pc' ls (vI a :: st) w Q) : WP sh d mi pc ls (st) w Q := by
  subst hp
  exact wp_of h rfl rfl rfl (by subst ha; rfl) k
theorem wp_bipush {n a : Int} (h : rowOf mi pc = some (pc0, .bipush n, len, x, pos)) (hp : pc + len = pc') (ha : iB n = a) (k : WP sh d mi pc' ls (vI a :: st) w Q) : WP sh d mi pc ls (st) w Q := by
  subst hp
  exact wp_of h rfl rfl rfl (by subst ha; rfl) k
theorem wp_sipush {n a : Int} (h : rowOf mi pc = some (pc0, .sipush n, len, x, pos)) (hp : pc + len = pc') (ha : Int.bmod n 65536 = a) (k : WP sh d mi pc' ls (vI a :: st) w Q) : WP sh d mi pc ls (st) w Q := by
  subst hp
  exact wp_of h rfl rfl rfl (by subst ha; rfl) k
theorem wp_ldc {i : Nat} {a : Int} (h : rowOf mi pc = some (pc0, .ldc i, len, x, pos)) (hp : pc + len = pc') (ha : w32 x = a) (k : WP sh d mi pc' ls (vI a :: st) w Q) : WP sh d mi pc ls (st) w Q := by
  subst hp
  exact wp_of h rfl rfl rfl (by subst ha; rfl) k
theorem wp_ldc_w {i : Nat} {a : Int} (h : rowOf mi pc = some (pc0, .ldc_w i, len, x, pos)) (hp : pc + len = pc') (ha : w32 x = a) (k : WP sh d mi pc' ls (vI a :: st) w Q) : WP sh d mi pc ls (st) w Q := by
  subst hp
  exact wp_of h rfl rfl rfl (by subst ha; rfl) k
theorem wp_ldc2_w {i : Nat} {a : Int} (h : rowOf mi pc = some (pc0, .ldc2_w i, len, x, pos)) (hp : pc + len = pc') (ha : w64 x = a) (k : WP sh d mi pc' ls (vL a :: st) w Q) : WP sh d mi pc ls (st) w Q := by
  subst hp
  exact wp_of h rfl rfl rfl (by subst ha; rfl) k
theorem wp_lconst {n : Fin 2} {a : Int} (h : rowOf mi pc = some (pc0, .lconst n, len, x, pos)) (hp : pc + len = pc') (ha : (n.val : Int) = a) (k : WP sh d mi pc' ls (vL a :: st) w Q) : WP sh d mi pc ls (st) w Q := by
  subst hp
  exact wp_of h rfl rfl rfl (by subst ha; rfl) k
theorem wp_dupI {a : Int} (h : rowOf mi pc = some (pc0, .dup, len, x, pos)) (hp : pc + len = pc') (k : WP sh d mi pc' ls (vI a :: vI a :: st) w Q) : WP sh d mi pc ls (vI a :: st) w Q := by
  subst hp
  exact wp_of h rfl rfl rfl (rfl) k
theorem wp_dupR {a : Int} (h : rowOf mi pc = some (pc0, .dup, len, x, pos)) (hp : pc + len = pc') (k : WP sh d mi pc' ls (vR a :: vR a :: st) w Q) : WP sh d mi pc ls (vR a :: st) w Q := by
  subst hp
  exact wp_of h rfl rfl rfl (rfl) k
theorem wp_dup2 {a b : Int} (h : rowOf mi pc = some (pc0, .dup2, len, x, pos)) (hp : pc + len = pc') (k : WP sh d mi pc' ls (vI a :: vR b :: vI a :: vR b :: st) w Q) : WP sh d mi pc ls (vI a :: vR b :: st) w Q := by
  subst hp
  exact wp_of h rfl rfl rfl (rfl) k
theorem wp_pop {a : Int} (h : rowOf mi pc = some (pc0, .pop, len, x, pos)) (hp : pc + len = pc') (k : WP sh d mi pc' ls (st) w Q) : WP sh d mi pc ls (vI a :: st) w Q := by
  subst hp
  exact wp_of h rfl rfl rfl (rfl) k
theorem wp_iadd {a b c : Int} (h : rowOf mi pc = some (pc0, .iadd, len, x, pos)) (hp : pc + len = pc') (hc : w32 (a + b) = c) (k : WP sh d mi pc' ls (vI c :: st) w Q) : WP sh d mi pc ls (vI b :: vI a :: st) w Q := by
  subst hp
  exact wp_of h rfl rfl rfl (by subst hc; rfl) k
theorem wp_isub {a b c : Int} (h : rowOf mi pc = some (pc0, .isub, len, x, pos)) (hp : pc + len = pc') (hc : w32 (a - b) = c) (k : WP sh d mi pc' ls (vI c :: st) w Q) : WP sh d mi pc ls (vI b :: vI a :: st) w Q := by
  subst hp
  exact wp_of h rfl rfl rfl (by subst hc; rfl) k
theorem wp_imul {a b c : Int} (h : rowOf mi pc = some (pc0, .imul, len, x, pos)) (hp : pc + len = pc') (hc : w32 (a * b) = c) (k : WP sh d mi pc' ls (vI c :: st) w Q) : WP sh d mi pc ls (vI b :: vI a :: st) w Q := by
  subst hp
  exact wp_of h rfl rfl rfl (by subst hc; rfl) k
theorem wp_iand {a b c : Int} (h : rowOf mi pc = some (pc0, .iand, len, x, pos)) (hp : pc + len = pc') (hc : iAnd a b = c) (k : WP sh d mi pc' ls (vI c :: st) w Q) : WP sh d mi pc ls (vI b :: vI a :: st) w Q := by
  subst hp
  exact wp_of h rfl rfl rfl (by subst hc; rfl) k
theorem wp_ior {a b c : Int} (h : rowOf mi pc = some (pc0, .ior, len, x, pos)) (hp : pc + len = pc') (hc : iOr a b = c) (k : WP sh d mi pc' ls (vI c :: st) w Q) : WP sh d mi pc ls (vI b :: vI a :: st) w Q := by
  subst hp
  exact wp_of h rfl rfl rfl (by subst hc; rfl) k
theorem wp_ixor {a b c : Int} (h : rowOf mi pc = some (pc0, .ixor, len, x, pos)) (hp : pc + len = pc') (hc : iXor a b = c) (k : WP sh d mi pc' ls (vI c :: st) w Q) : WP sh d mi pc ls (vI b :: vI a :: st) w Q := by
  subst hp
  exact wp_of h rfl rfl rfl (by subst hc; rfl) k
theorem wp_ishl {a b c : Int} (h : rowOf mi pc = some (pc0, .ishl, len, x, pos)) (hp : pc + len = pc') (hc : iShl a b = c) (k : WP sh d mi pc' ls (vI c :: st) w Q) : WP sh d mi pc ls (vI b :: vI a :: st) w Q := by
  subst hp
  exact wp_of h rfl rfl rfl (by subst hc; rfl) k
theorem wp_ishr {a b c : Int} (h : rowOf mi pc = some (pc0, .ishr, len, x, pos)) (hp : pc + len = pc') (hc : iShr a b = c) (k : WP sh d mi pc' ls (vI c :: st) w Q) : WP sh d mi pc ls (vI b :: vI a :: st) w Q := by
  subst hp
  exact wp_of h rfl rfl rfl (by subst hc; rfl) k
theorem wp_iushr {a b c : Int} (h : rowOf mi pc = some (pc0, .iushr, len, x, pos)) (hp : pc + len = pc') (hc : iUshr a b = c) (k : WP sh d mi pc' ls (vI c :: st) w Q) : WP sh d mi pc ls (vI b :: vI a :: st) w Q := by
  subst hp
  exact wp_of h rfl rfl rfl (by subst hc; rfl) k
theorem wp_idiv {a b c : Int} (h : rowOf mi pc = some (pc0, .idiv, len, x, pos)) (hp : pc + len = pc') (hn : b ≠ 0) (hc : iDiv a b = c) (k : WP sh d mi pc' ls (vI c :: st) w Q) : WP sh d mi pc ls (vI b :: vI a :: st) w Q := by
  subst hp
  exact wp_of h rfl rfl rfl (by subst hc; simp only [step1, if_neg hn]) k
theorem wp_irem {a b c : Int} (h : rowOf mi pc = some (pc0, .irem, len, x, pos)) (hp : pc + len = pc') (hn : b ≠ 0) (hc : iRem a b = c) (k : WP sh d mi pc' ls (vI c :: st) w Q) : WP sh d mi pc ls (vI b :: vI a :: st) w Q := by
  subst hp
  exact wp_of h rfl rfl rfl (by subst hc; simp only [step1, if_neg hn]) k
theorem wp_ineg {a c : Int} (h : rowOf mi pc = some (pc0, .ineg, len, x, pos)) (hp : pc + len = pc') (hc : w32 (-a) = c) (k : WP sh d mi pc' ls (vI c :: st) w Q) : WP sh d mi pc ls (vI a :: st) w Q := by
  subst hp
  exact wp_of h rfl rfl rfl (by subst hc; rfl) k
theorem wp_i2l {a : Int} (h : rowOf mi pc = some (pc0, .i2l, len, x, pos)) (hp : pc + len = pc') (k : WP sh d mi pc' ls (vL a :: st) w Q) : WP sh d mi pc ls (vI a :: st) w Q := by
  subst hp
  exact wp_of h rfl rfl rfl (rfl) k
theorem wp_l2i {a c : Int} (h : rowOf mi pc = some (pc0, .l2i, len, x, pos)) (hp : pc + len = pc') (hc : w32 a = c) (k : WP sh d mi pc' ls (vI c :: st) w Q) : WP sh d mi pc ls (vL a :: st) w Q := by
  subst hp
  exact wp_of h rfl rfl rfl (by subst hc; rfl) k
theorem wp_i2b {a c : Int} (h : rowOf mi pc = some (pc0, .i2b, len, x, pos)) (hp : pc + len = pc') (hc : iB a = c) (k : WP sh d mi pc' ls (vI c :: st) w Q) : WP sh d mi pc ls (vI a :: st) w Q := by
  subst hp
  exact wp_of h rfl rfl rfl (by subst hc; rfl) k
theorem wp_ladd {a b c : Int} (h : rowOf mi pc = some (pc0, .ladd, len, x, pos)) (hp : pc + len = pc') (hc : w64 (a + b) = c) (k : WP sh d mi pc' ls (vL c :: st) w Q) : WP sh d mi pc ls (vL b :: vL a :: st) w Q := by
  subst hp
  exact wp_of h rfl rfl rfl (by subst hc; rfl) k
theorem wp_lmul {a b c : Int} (h : rowOf mi pc = some (pc0, .lmul, len, x, pos)) (hp : pc + len = pc') (hc : w64 (a * b) = c) (k : WP sh d mi pc' ls (vL c :: st) w Q) : WP sh d mi pc ls (vL b :: vL a :: st) w Q := by
  subst hp
  exact wp_of h rfl rfl rfl (by subst hc; rfl) k
theorem wp_ldiv {a b c : Int} (h : rowOf mi pc = some (pc0, .ldiv, len, x, pos)) (hp : pc + len = pc') (hn : b ≠ 0) (hc : lDiv a b = c) (k : WP sh d mi pc' ls (vL c :: st) w Q) : WP sh d mi pc ls (vL b :: vL a :: st) w Q := by
  subst hp
  exact wp_of h rfl rfl rfl (by subst hc; simp only [step1, if_neg hn]) k
theorem wp_lrem {a b c : Int} (h : rowOf mi pc = some (pc0, .lrem, len, x, pos)) (hp : pc + len = pc') (hn : b ≠ 0) (hc : lRem a b = c) (k : WP sh d mi pc' ls (vL c :: st) w Q) : WP sh d mi pc ls (vL b :: vL a :: st) w Q := by
  subst hp
  exact wp_of h rfl rfl rfl (by subst hc; simp only [step1, if_neg hn]) k
theorem wp_lcmp {a b c : Int} (h : rowOf mi pc = some (pc0, .lcmp, len, x, pos)) (hp : pc + len = pc') (hc : lCmp a b = c) (k : WP sh d mi pc' ls (vI c :: st) w Q) : WP sh d mi pc ls (vL b :: vL a :: st) w Q := by
  subst hp
  exact wp_of h rfl rfl rfl (by subst hc; rfl) k
theorem wp_goto {off : Int} (h : rowOf mi pc = some (pc0, .goto off, len, x, pos)) (hp : x.toNat = pc') (k : WP sh d mi pc' ls st w Q) : WP sh d mi pc ls st w Q := by
  subst hp
  exact wp_of h rfl rfl rfl rfl k
theorem wp_if_eq {a : Int} {off : Int} {pt : Nat} (h : rowOf mi pc = some (pc0, .ifCond .eq off, len, x, pos)) (hp : pc + len = pc') (ht : x.toNat = pt) (kt : a = 0 → WP sh d mi pt ls st w Q) (kf : ¬ (a = 0) → WP sh d mi pc' ls st w Q) : WP sh d mi pc ls (vI a :: st) w Q := by
  subst hp ht
  by_cases hc : a = 0
  · exact wp_of (pc' := x.toNat) h rfl rfl rfl (by simp only [step1, tgt, if_pos hc]) (kt hc)
  · exact wp_of (pc' := pc + len) h rfl rfl rfl (by simp only [step1, tgt, if_neg hc]) (kf hc)
theorem wp_icmp_eq {a b : Int} {off : Int} {pt : Nat} (h : rowOf mi pc = some (pc0, .if_icmp .eq off, len, x, pos)) (hp : pc + len = pc') (ht : x.toNat = pt) (kt : a = b → WP sh d mi pt ls st w Q) (kf : ¬ (a = b) → WP sh d mi pc' ls st w Q) : WP sh d mi pc ls (vI b :: vI a :: st) w Q := by
  subst hp ht
  by_cases hc : a = b
  · exact wp_of (pc' := x.toNat) h rfl rfl rfl (by simp only [step1, tgt, if_pos hc]) (kt hc)
  · exact wp_of (pc' := pc + len) h rfl rfl rfl (by simp only [step1, tgt, if_neg hc]) (kf hc)
theorem wp_if_ne {a : Int} {off : Int} {pt : Nat} (h : rowOf mi pc = some (pc0, .ifCond .ne off, len, x, pos)) (hp : pc + len = pc') (ht : x.toNat = pt) (kt : a ≠ 0 → WP sh d mi pt ls st w Q) (kf : ¬ (a ≠ 0) → WP sh d mi pc' ls st w Q) : WP sh d mi pc ls (vI a :: st) w Q := by
  subst hp ht
  by_cases hc : a ≠ 0
  · exact wp_of (pc' := x.toNat) h rfl rfl rfl (by simp only [step1, tgt, if_pos hc]) (kt hc)
  · exact wp_of (pc' := pc + len) h rfl rfl rfl (by simp only [step1, tgt, if_neg hc]) (kf hc)
theorem wp_icmp_ne {a b : Int} {off : Int} {pt : Nat} (h : rowOf mi pc = some (pc0, .if_icmp .ne off, len, x, pos)) (hp : pc + len = pc') (ht : x.toNat = pt) (kt : a ≠ b → WP sh d mi pt ls st w Q) (kf : ¬ (a ≠ b) → WP sh d mi pc' ls st w Q) : WP sh d mi pc ls (vI b :: vI a :: st) w Q := by
  subst hp ht
  by_cases hc : a ≠ b
  · exact wp_of (pc' := x.toNat) h rfl rfl rfl (by simp only [step1, tgt, if_pos hc]) (kt hc)
  · exact wp_of (pc' := pc + len) h rfl rfl rfl (by simp only [step1, tgt, if_neg hc]) (kf hc)
theorem wp_if_lt {a : Int} {off : Int} {pt : Nat} (h : rowOf mi pc = some (pc0, .ifCond .lt off, len, x, pos)) (hp : pc + len = pc') (ht : x.toNat = pt) (kt : a < 0 → WP sh d mi pt ls st w Q) (kf : ¬ (a < 0) → WP sh d mi pc' ls st w Q) : WP sh d mi pc ls (vI a :: st) w Q := by
  subst hp ht
  by_cases hc : a < 0
  · exact wp_of (pc' := x.toNat) h rfl rfl rfl (by simp only [step1, tgt, if_pos hc]) (kt hc)
  · exact wp_of (pc' := pc + len) h rfl rfl rfl (by simp only [step1, tgt, if_neg hc]) (kf hc)
theorem wp_icmp_lt {a b : Int} {off : Int} {pt : Nat} (h : rowOf mi pc = some (pc0, .if_icmp .lt off, len, x, pos)) (hp : pc + len = pc') (ht : x.toNat = pt) (kt : a < b → WP sh d mi pt ls st w Q) (kf : ¬ (a < b) → WP sh d mi pc' ls st w Q) : WP sh d mi pc ls (vI b :: vI a :: st) w Q := by
  subst hp ht
  by_cases hc : a < b
  · exact wp_of (pc' := x.toNat) h rfl rfl rfl (by simp only [step1, tgt, if_pos hc]) (kt hc)
  · exact wp_of (pc' := pc + len) h rfl rfl rfl (by simp only [step1, tgt, if_neg hc]) (kf hc)
theorem wp_if_ge {a : Int} {off : Int} {pt : Nat} (h : rowOf mi pc = some (pc0, .ifCond .ge off, len, x, pos)) (hp : pc + len = pc') (ht : x.toNat = pt) (kt : 0 ≤ a → WP sh d mi pt ls st w Q) (kf : ¬ (0 ≤ a) → WP sh d mi pc' ls st w Q) : WP sh d mi pc ls (vI a :: st) w Q := by
  subst hp ht
  by_cases hc : 0 ≤ a
  · exact wp_of (pc' := x.toNat) h rfl rfl rfl (by simp only [step1, tgt, if_pos hc]) (kt hc)
  · exact wp_of (pc' := pc + len) h rfl rfl rfl (by simp only [step1, tgt, if_neg hc]) (kf hc)
theorem wp_icmp_ge {a b : Int} {off : Int} {pt : Nat} (h : rowOf mi pc = some (pc0, .if_icmp .ge off, len, x, pos)) (hp : pc + len = pc') (ht : x.toNat = pt) (kt : b ≤ a → WP sh d mi pt ls st w Q) (kf : ¬ (b ≤ a) → WP sh d mi pc' ls st w Q) : WP sh d mi pc ls (vI b :: vI a :: st) w Q := by
  subst hp ht
  by_cases hc : b ≤ a
  · exact wp_of (pc' := x.toNat) h rfl rfl rfl (by simp only [step1, tgt, if_pos hc]) (kt hc)
  · exact wp_of (pc' := pc + len) h rfl rfl rfl (by simp only [step1, tgt, if_neg hc]) (kf hc)
theorem wp_if_gt {a : Int} {off : Int} {pt : Nat} (h : rowOf mi pc = some (pc0, .ifCond .gt off, len, x, pos)) (hp : pc + len = pc') (ht : x.toNat = pt) (kt : 0 < a → WP sh d mi pt ls st w Q) (kf : ¬ (0 < a) → WP sh d mi pc' ls st w Q) : WP sh d mi pc ls (vI a :: st) w Q := by
  subst hp ht
  by_cases hc : 0 < a
  · exact wp_of (pc' := x.toNat) h rfl rfl rfl (by simp only [step1, tgt, if_pos hc]) (kt hc)
  · exact wp_of (pc' := pc + len) h rfl rfl rfl (by simp only [step1, tgt, if_neg hc]) (kf hc)
theorem wp_icmp_gt {a b : Int} {off : Int} {pt : Nat} (h : rowOf mi pc = some (pc0, .if_icmp .gt off, len, x, pos)) (hp : pc + len = pc') (ht : x.toNat = pt) (kt : b < a → WP sh d mi pt ls st w Q) (kf : ¬ (b < a) → WP sh d mi pc' ls st w Q) : WP sh d mi pc ls (vI b :: vI a :: st) w Q := by
  subst hp ht
  by_cases hc : b < a
  · exact wp_of (pc' := x.toNat) h rfl rfl rfl (by simp only [step1, tgt, if_pos hc]) (kt hc)
  · exact wp_of (pc' := pc + len) h rfl rfl rfl (by simp only [step1, tgt, if_neg hc]) (kf hc)
theorem wp_if_le {a : Int} {off : Int} {pt : Nat} (h : rowOf mi pc = some (pc0, .ifCond .le off, len, x, pos)) (hp : pc + len = pc') (ht : x.toNat = pt) (kt : a ≤ 0 → WP sh d mi pt ls st w Q) (kf : ¬ (a ≤ 0) → WP sh d mi pc' ls st w Q) : WP sh d mi pc ls (vI a :: st) w Q := by
  subst hp ht
  by_cases hc : a ≤ 0
  · exact wp_of (pc' := x.toNat) h rfl rfl rfl (by simp only [step1, tgt, if_pos hc]) (kt hc)
  · exact wp_of (pc' := pc + len) h rfl rfl rfl (by simp only [step1, tgt, if_neg hc]) (kf hc)
theorem wp_icmp_le {a b : Int} {off : Int} {pt : Nat} (h : rowOf mi pc = some (pc0, .if_icmp .le off, len, x, pos)) (hp : pc + len = pc') (ht : x.toNat = pt) (kt : a ≤ b → WP sh d mi pt ls st w Q) (kf : ¬ (a ≤ b) → WP sh d mi pc' ls st w Q) : WP sh d mi pc ls (vI b :: vI a :: st) w Q := by
  subst hp ht
  by_cases hc : a ≤ b
  · exact wp_of (pc' := x.toNat) h rfl rfl rfl (by simp only [step1, tgt, if_pos hc]) (kt hc)
  · exact wp_of (pc' := pc + len) h rfl rfl rfl (by simp only [step1, tgt, if_neg hc]) (kf hc)
theorem wp_ifnull {a : Int} {off : Int} (h : rowOf mi pc = some (pc0, .ifnull off, len, x, pos)) (hp : pc + len = pc') (hn : a ≠ -1) (k : WP sh d mi pc' ls (st) w Q) : WP sh d mi pc ls (vR a :: st) w Q := by
  subst hp
  exact wp_of h rfl rfl rfl (by simp only [step1, if_neg hn]) k
theorem wp_swOut {a dflt lo hi : Int} {offs : Array Int} (h : rowOf mi pc = some (pc0, .tableswitch dflt lo hi offs, len, x, pos)) (ha : a < lo ∨ hi < a) (hp : ((pc : Int) + dflt).toNat = pc') (k : WP sh d mi pc' ls st w Q) : WP sh d mi pc ls (vI a :: st) w Q := by
  subst hp
  exact wp_of h rfl rfl rfl (by simp only [step1, if_pos ha]) k
theorem wp_swIn {a dflt lo hi o : Int} {offs : Array Int} (h : rowOf mi pc = some (pc0, .tableswitch dflt lo hi offs, len, x, pos)) (ha : ¬ (a < lo ∨ hi < a)) (ho : offs[(a - lo).toNat]? = some o) (hp : ((pc : Int) + o).toNat = pc') (k : WP sh d mi pc' ls st w Q) : WP sh d mi pc ls (vI a :: st) w Q := by
  subst hp
  exact wp_of h rfl rfl rfl (by simp only [step1, if_neg ha, ho]) k
theorem wp_getI {r k0 : Int} {i ci : Nat} (h : rowOf mi pc = some (pc0, .getfield i, len, x, pos)) (hp : pc + len = pc') (hx : (x / 100).toNat = ci ∧ x % 100 = k0 ∧ (fk ci k0.toNat = 0 ∨ fk ci k0.toNat = 3)) (hs : shAt sh r = some (0, ci)) (k : WP sh d mi pc' ls (vI (w r k0) :: st) w Q) : WP sh d mi pc ls (vR r :: st) w Q := by
  subst hp
  obtain ⟨rfl, rfl, h4⟩ := hx
  refine wp_of h rfl rfl rfl ?_ k
  simp only [step1, if_pos hs]
  rcases h4 with h4 | h4 <;> rw [h4] <;> rfl
theorem wp_getL {r k0 : Int} {i ci : Nat} (h : rowOf mi pc = some (pc0, .getfield i, len, x, pos)) (hp : pc + len = pc') (hx : (x / 100).toNat = ci ∧ x % 100 = k0 ∧ fk ci k0.toNat = 1) (hs : shAt sh r = some (0, ci)) (k : WP sh d mi pc' ls (vL (w r k0) :: st) w Q) : WP sh d mi pc ls (vR r :: st) w Q := by
  subst hp
  obtain ⟨rfl, rfl, h4⟩ := hx
  refine wp_of h rfl rfl rfl ?_ k
  simp only [step1, if_pos hs]
  rw [h4]
  rfl
theorem wp_getR {r r' k0 : Int} {i ci : Nat} (h : rowOf mi pc = some (pc0, .getfield i, len, x, pos)) (hp : pc + len = pc') (hx : (x / 100).toNat = ci ∧ x % 100 = k0 ∧ fk ci k0.toNat = 2) (hs : shAt sh r = some (0, ci)) (hr : w r k0 = r') (k : WP sh d mi pc' ls (vR r' :: st) w Q) : WP sh d mi pc ls (vR r :: st) w Q := by
  subst hp hr
  obtain ⟨rfl, rfl, h4⟩ := hx
  refine wp_of h rfl rfl rfl ?_ k
  simp only [step1, if_pos hs]
  rw [h4]
  rfl
theorem wp_putI {r a k0 : Int} {i ci : Nat} (h : rowOf mi pc = some (pc0, .putfield i, len, x, pos)) (hp : pc + len = pc') (hx : (x / 100).toNat = ci ∧ x % 100 = k0 ∧ fk ci k0.toNat = 0) (hs : shAt sh r = some (0, ci)) (k : WP sh d mi pc' ls st (up w r k0 a) Q) : WP sh d mi pc ls (vI a :: vR r :: st) w Q := by
  subst hp
  obtain ⟨rfl, rfl, h4⟩ := hx
  refine wp_of h rfl rfl rfl ?_ k
  simp only [step1, if_pos hs, h4]
  rfl
theorem wp_putZ {r a k0 : Int} {i ci : Nat} (h : rowOf mi pc = some (pc0, .putfield i, len, x, pos)) (hp : pc + len = pc') (hx : (x / 100).toNat = ci ∧ x % 100 = k0 ∧ fk ci k0.toNat = 3) (hz : a = 0 ∨ a = 1) (hs : shAt sh r = some (0, ci)) (k : WP sh d mi pc' ls st (up w r k0 a) Q) : WP sh d mi pc ls (vI a :: vR r :: st) w Q := by
  subst hp
  obtain ⟨rfl, rfl, h4⟩ := hx
  refine wp_of h rfl rfl rfl ?_ k
  simp only [step1, if_pos hs, h4, untag, if_pos hz]
theorem wp_putL {r a k0 : Int} {i ci : Nat} (h : rowOf mi pc = some (pc0, .putfield i, len, x, pos)) (hp : pc + len = pc') (hx : (x / 100).toNat = ci ∧ x % 100 = k0 ∧ fk ci k0.toNat = 1) (hs : shAt sh r = some (0, ci)) (k : WP sh d mi pc' ls st (up w r k0 a) Q) : WP sh d mi pc ls (vL a :: vR r :: st) w Q := by
  subst hp
  obtain ⟨rfl, rfl, h4⟩ := hx
  refine wp_of h rfl rfl rfl ?_ k
  simp only [step1, if_pos hs, h4]
  rfl
theorem wp_putR {r a k0 : Int} {i ci : Nat} (h : rowOf mi pc = some (pc0, .putfield i, len, x, pos)) (hp : pc + len = pc') (hx : (x / 100).toNat = ci ∧ x % 100 = k0 ∧ fk ci k0.toNat = 2) (hs : shAt sh r = some (0, ci)) (k : WP sh d mi pc' ls st (up w r k0 a) Q) : WP sh d mi pc ls (vR a :: vR r :: st) w Q := by
  subst hp
  obtain ⟨rfl, rfl, h4⟩ := hx
  refine wp_of h rfl rfl rfl ?_ k
  simp only [step1, if_pos hs, h4]
  rfl
theorem wp_getstatic {i : Nat} (h : rowOf mi pc = some (pc0, .getstatic i, len, x, pos)) (hp : pc + len = pc') (k : WP sh d mi pc' ls (vR x :: st) w Q) : WP sh d mi pc ls st w Q := by
  subst hp
  exact wp_of h rfl rfl rfl rfl k
theorem ld_in {ks : List Nat} {rs : List Int} {r i : Int} {k0 n : Nat} (hs : shAt sh r = some (k0, n)) (hk : ks.contains k0 = true) (hi : 0 ≤ i ∧ i < n) : ldArr sh ks rs r i w = some (w r i) := by
  unfold shAt at hs
  unfold ldArr
  split at hs
  · rename_i h0
    rw [if_pos h0]
    simp only [hs]
    rw [if_pos ⟨hk, hi⟩]
  · cases hs
theorem ld_ro {ks : List Nat} {rs : List Int} {r i : Int} (h0 : r < 0) (hk : rs.contains r = true) (hi : 0 ≤ i ∧ i < w r (-1)) : ldArr sh ks rs r i w = some (w r i) := by
  unfold ldArr
  rw [if_neg (by omega), if_pos ⟨hk, hi⟩]
theorem st_in {ks : List Nat} {r i : Int} {k0 n : Nat} (hs : shAt sh r = some (k0, n)) (hk : ks.contains k0 = true) (hi : 0 ≤ i ∧ i < n) : stArr sh ks r i = true := by
  unfold stArr
  simp only [hs, hk, Bool.true_and, decide_eq_true_eq]
  exact hi
theorem wp_iaload {r i : Int} {n : Nat} (h : rowOf mi pc = some (pc0, .iaload, len, x, pos)) (hp : pc + len = pc') (hs : shAt sh r = some (1, n)) (hi : 0 ≤ i ∧ i < n) (k : WP sh d mi pc' ls (vI (w r i) :: st) w Q) : WP sh d mi pc ls (vI i :: vR r :: st) w Q := by
  subst hp
  exact wp_of h rfl rfl rfl (by simp only [step1, ld_in (ks := [1]) (rs := [-2, -4, -5]) hs rfl hi]) k
theorem wp_laload {r i : Int} {n : Nat} (h : rowOf mi pc = some (pc0, .laload, len, x, pos)) (hp : pc + len = pc') (hs : shAt sh r = some (2, n)) (hi : 0 ≤ i ∧ i < n) (k : WP sh d mi pc' ls (vL (w r i) :: st) w Q) : WP sh d mi pc ls (vI i :: vR r :: st) w Q := by
  subst hp
  exact wp_of h rfl rfl rfl (by simp only [step1, ld_in (ks := [2]) (rs := []) hs rfl hi]) k
theorem wp_baload {r i : Int} {k0 n : Nat} (h : rowOf mi pc = some (pc0, .baload, len, x, pos)) (hp : pc + len = pc') (hs : shAt sh r = some (k0, n)) (hk : [3, 4].contains k0 = true) (hi : 0 ≤ i ∧ i < n) (k : WP sh d mi pc' ls (vI (w r i) :: st) w Q) : WP sh d mi pc ls (vI i :: vR r :: st) w Q := by
  subst hp
  exact wp_of h rfl rfl rfl (by simp only [step1, ld_in hs hk hi]) k
theorem wp_aaload {r r' i : Int} {k0 n : Nat} (h : rowOf mi pc = some (pc0, .aaload, len, x, pos)) (hp : pc + len = pc') (hs : shAt sh r = some (k0, n)) (hk : [5, 6, 7].contains k0 = true) (hi : 0 ≤ i ∧ i < n) (hr : w r i = r') (k : WP sh d mi pc' ls (vR r' :: st) w Q) : WP sh d mi pc ls (vI i :: vR r :: st) w Q := by
  subst hp hr
  exact wp_of h rfl rfl rfl (by simp only [step1, ld_in hs hk hi]) k
theorem wp_ialoadO {r i : Int} (h : rowOf mi pc = some (pc0, .iaload, len, x, pos)) (hp : pc + len = pc') (h0 : r < 0) (hk : [-2, -4, -5].contains r = true) (hi : 0 ≤ i ∧ i < w r (-1)) (k : WP sh d mi pc' ls (vI (w r i) :: st) w Q) : WP sh d mi pc ls (vI i :: vR r :: st) w Q := by
  subst hp
  exact wp_of h rfl rfl rfl (by simp only [step1, ld_ro (ks := [1]) h0 hk hi]) k
theorem wp_caloadO {i : Int} (h : rowOf mi pc = some (pc0, .caload, len, x, pos)) (hp : pc + len = pc') (hi : 0 ≤ i ∧ i < w (-3) (-1)) (k : WP sh d mi pc' ls (vI (w (-3) i) :: st) w Q) : WP sh d mi pc ls (vI i :: vR (-3) :: st) w Q := by
  subst hp
  exact wp_of h rfl rfl rfl (by simp only [step1, ld_ro (ks := []) (rs := [-3]) (r := -3) (by decide) rfl hi]) k
theorem wp_iastore {r i a : Int} {n : Nat} (h : rowOf mi pc = some (pc0, .iastore, len, x, pos)) (hp : pc + len = pc') (hs : shAt sh r = some (1, n)) (hi : 0 ≤ i ∧ i < n) (k : WP sh d mi pc' ls st (up w r i a) Q) : WP sh d mi pc ls (vI a :: vI i :: vR r :: st) w Q := by
  subst hp
  exact wp_of h rfl rfl rfl (by simp only [step1]; rw [if_pos (st_in hs rfl hi)]) k
theorem wp_lastore {r i a : Int} {n : Nat} (h : rowOf mi pc = some (pc0, .lastore, len, x, pos)) (hp : pc + len = pc') (hs : shAt sh r = some (2, n)) (hi : 0 ≤ i ∧ i < n) (k : WP sh d mi pc' ls st (up w r i a) Q) : WP sh d mi pc ls (vL a :: vI i :: vR r :: st) w Q := by
  subst hp
  exact wp_of h rfl rfl rfl (by simp only [step1]; rw [if_pos (st_in hs rfl hi)]) k
theorem wp_bastoreB {r i a : Int} {n : Nat} (h : rowOf mi pc = some (pc0, .bastore, len, x, pos)) (hp : pc + len = pc') (hs : shAt sh r = some (3, n)) (hi : 0 ≤ i ∧ i < n) (k : WP sh d mi pc' ls st (up w r i (iB a)) Q) : WP sh d mi pc ls (vI a :: vI i :: vR r :: st) w Q := by
  subst hp
  exact wp_of h rfl rfl rfl (by simp only [step1]; rw [if_pos (st_in hs rfl hi)]) k
theorem wp_bastoreZ {r i a : Int} {n : Nat} (h : rowOf mi pc = some (pc0, .bastore, len, x, pos)) (hp : pc + len = pc') (hs : shAt sh r = some (4, n)) (hi : 0 ≤ i ∧ i < n) (hz : a = 0 ∨ a = 1) (k : WP sh d mi pc' ls st (up w r i a) Q) : WP sh d mi pc ls (vI a :: vI i :: vR r :: st) w Q := by
  subst hp
  exact wp_of h rfl rfl rfl (by simp only [step1]; rw [if_neg (by unfold stArr; simp [hs]), if_pos ⟨st_in hs rfl hi, hz⟩]) k
theorem wp_alen {r : Int} {k0 n : Nat} (h : rowOf mi pc = some (pc0, .arraylength, len, x, pos)) (hp : pc + len = pc') (hs : shAt sh r = some (k0 + 1, n)) (hn : n < 2147483648) (k : WP sh d mi pc' ls (vI n :: st) w Q) : WP sh d mi pc ls (vR r :: st) w Q := by
  subst hp
  refine wp_of h rfl rfl rfl ?_ k
  unfold shAt at hs
  split at hs
  · rename_i h0
    simp only [step1, if_pos h0, hs, if_pos hn]
  · cases hs
theorem wp_alenO {r : Int} (h : rowOf mi pc = some (pc0, .arraylength, len, x, pos)) (hp : pc + len = pc') (hr : (r = -2 ∨ r = -3 ∨ r = -4 ∨ r = -5) ∧ 0 ≤ w r (-1)) (k : WP sh d mi pc' ls (vI (w r (-1)) :: st) w Q) : WP sh d mi pc ls (vR r :: st) w Q := by
  subst hp
  refine wp_of h rfl rfl rfl ?_ k
  simp only [step1]
  rw [if_neg (by omega), if_pos hr]
theorem wp_max {a b c : Int} {i : Nat} (h : rowOf mi pc = some (pc0, .invokestatic i, len, -3, pos)) (hp : pc + len = pc') (hl : st.length ≤ 4) (hc : (if a < b then b else a) = c) (k : WP sh d mi pc' ls (vI c :: st) w Q) : WP sh d mi pc ls (vI b :: vI a :: st) w Q := by
  subst hp hc
  exact wp_of h (by simp [callOf]) rfl rfl (by simp only [step1]; rw [if_neg (by decide), if_pos trivial, if_pos hl]) k
theorem wp_min {a b c : Int} {i : Nat} (h : rowOf mi pc = some (pc0, .invokestatic i, len, -4, pos)) (hp : pc + len = pc') (hl : st.length ≤ 4) (hc : (if b < a then b else a) = c) (k : WP sh d mi pc' ls (vI c :: st) w Q) : WP sh d mi pc ls (vI b :: vI a :: st) w Q := by
  subst hp hc
  exact wp_of h (by simp [callOf]) rfl rfl (by simp only [step1]; rw [if_neg (by decide), if_neg (by decide), if_pos trivial, if_pos hl]) k
theorem wp_abs {a c : Int} {i : Nat} (h : rowOf mi pc = some (pc0, .invokestatic i, len, -5, pos)) (hp : pc + len = pc') (hl : st.length ≤ 4) (hc : (if 0 ≤ a then a else w32 (0 - a)) = c) (k : WP sh d mi pc' ls (vI c :: st) w Q) : WP sh d mi pc ls (vI a :: st) w Q := by
  subst hp hc
  exact wp_of h (by simp [callOf]) rfl rfl (by simp only [step1]; rw [if_neg (by decide), if_neg (by decide), if_neg (by decide), if_pos trivial, if_pos hl]) k
theorem wp_copy {sr d0 n sp dp : Int} {n0 n1 i : Nat} (h : rowOf mi pc = some (pc0, .invokestatic i, len, -2, pos)) (hp : pc + len = pc') (hs : shAt sh sr = some (1, n0)) (hd : shAt sh d0 = some (1, n1)) (hc : 0 ≤ n ∧ 0 ≤ sp ∧ 0 ≤ dp ∧ sp + n ≤ n0 ∧ dp + n ≤ n1 ∧ st.length ≤ 4) (k : WP sh d mi pc' ls st (fun a j => if a = d0 ∧ dp ≤ j ∧ j < dp + n then w sr (sp + (j - dp)) else w a j) Q) : WP sh d mi pc ls (vI n :: vI dp :: vR d0 :: vI sp :: vR sr :: st) w Q := by
  subst hp
  exact wp_of h (by simp [callOf]) rfl rfl (by simp only [step1]; rw [if_pos trivial]; simp only [hs, hd]; rw [if_pos hc]) k
end WPR
end
section
/-! the cells after both constructors: shapes, what each reference holds; arithmetic that does not wrap -/
def SH : Shp := [(0, 9), (5, 6), (5, 4), (0, 3), (1, 6), (1, 6), (1, 6), (1, 40), (1, 40), (1, 40), (1, 40), (1, 40), (0, 3), (1, 6), (1, 6), (1, 6), (1, 40), (1, 40), (1, 40), (1, 40), (1, 40), (6, 3), (0, 6), (0, 0), (1, 6), (1, 5), (0, 8), (1, 125), (0, 5), (1, 25), (7, 6), (1, 125), (1, 125), (1, 125), (1, 125), (1, 125), (1, 125), (7, 7), (1, 25), (1, 25), (1, 25), (1, 25), (1, 25), (1, 25), (1, 25), (0, 2), (1, 31), (0, 4), (1, 25), (1, 25), (0, 1), (2, 5), (1, 6), (0, 7), (1, 40), (0, 7), (1, 40), (0, 7), (1, 40), (0, 7), (1, 40), (0, 7), (1, 40), (0, 7), (1, 40), (0, 7), (1, 60), (0, 7), (1, 60), (0, 7), (1, 60), (0, 7), (1, 60), (0, 3), (1, 6), (1, 6), (1, 6), (1, 40), (1, 40), (1, 40), (1, 40), (1, 40), (0, 3), (1, 6), (1, 6), (1, 6), (1, 40), (1, 40), (1, 40), (1, 40), (1, 40), (0, 3), (1, 6), (1, 6), (1, 6), (1, 40), (1, 40), (1, 40), (1, 40), (1, 40), (0, 10), (1, 6), (1, 6), (1, 240), (1, 40), (1, 4), (3, 240), (1, 6), (1, 6), (1, 9), (1, 9), (1, 4), (1, 24), (1, 5), (1, 360), (4, 3), (1, 3), (1, 27), (1, 1080), (1, 125), (1, 5), (1, 25), (1, 25), (1, 25)]
def refTab : List (Int × Int × Int) := [(0, 0, 1), (0, 1, 2), (0, 2, 3), (0, 3, 12), (0, 4, 21), (0, 5, 22), (0, 6, 23), (0, 7, 26), (0, 8, 28), (0, 9, 45), (0, 10, 47), (0, 11, 50), (0, 12, 52), (1, 0, 53), (1, 1, 55), (1, 2, 57), (1, 3, 59), (1, 4, 61), (1, 5, 63), (2, 0, 65), (2, 1, 67), (2, 2, 69), (2, 3, 71), (3, 7, 4), (3, 8, 5), (3, 9, 6), (3, 10, 7), (3, 11, 8), (3, 12, 9), (3, 13, 10), (3, 14, 11), (12, 7, 13), (12, 8, 14), (12, 9, 15), (12, 10, 16), (12, 11, 17), (12, 12, 18), (12, 13, 19), (12, 14, 20), (21, 0, 73), (21, 1, 82), (21, 2, 91), (23, 0, 24), (23, 1, 25), (26, 3, 27), (28, 0, 29), (28, 1, 30), (28, 2, 37), (30, 0, 31), (30, 1, 32), (30, 2, 33), (30, 3, 34), (30, 4, 35), (30, 5, 36), (37, 0, 38), (37, 1, 39), (37, 2, 40), (37, 3, 41), (37, 4, 42), (37, 5, 43), (37, 6, 44), (45, 1, 46), (47, 0, 48), (47, 1, 49), (50, 2, 51), (53, 0, 54), (55, 0, 56), (57, 0, 58), (59, 0, 60), (61, 0, 62), (63, 0, 64), (65, 0, 66), (67, 0, 68), (69, 0, 70), (71, 0, 72), (73, 7, 74), (73, 8, 75), (73, 9, 76), (73, 10, 77), (73, 11, 78), (73, 12, 79), (73, 13, 80), (73, 14, 81), (82, 7, 83), (82, 8, 84), (82, 9, 85), (82, 10, 86), (82, 11, 87), (82, 12, 88), (82, 13, 89), (82, 14, 90), (91, 7, 92), (91, 8, 93), (91, 9, 94), (91, 10, 95), (91, 11, 96), (91, 12, 97), (91, 13, 98), (91, 14, 99), (100, 1, 101), (100, 5, 102), (100, 6, 103), (100, 7, 104), (100, 8, 105), (100, 9, 106), (100, 13, 107), (100, 14, 108), (100, 15, 109), (100, 16, 110), (100, 20, 111), (100, 21, 112), (100, 22, 113), (100, 24, 114), (100, 25, 115), (100, 26, 116), (100, 27, 117), (100, 28, 118), (100, 29, 119), (100, 30, 120), (100, 31, 121), (100, 32, 122), (100, 33, 123)]
/-- the references that never change (all but Reader.source) -/
def Stc (w : Hp) : Prop := ∀ q ∈ refTab, w q.1 q.2.1 = q.2.2
theorem Stc.get {w : Hp} (h : Stc w) (i : Nat) {r k v : Int} (hi : refTab[i]? = some (r, k, v)) : w r k = v := h (r, k, v) (List.mem_of_getElem? hi)
theorem Stc.putA {w : Hp} (h : Stc w) {r i x : Int} (hr : refTab.all (fun q => decide (q.1 ≠ r)) = true) : Stc (up w r i x) := by
  intro q hq
  have h1 := of_decide_eq_true (List.all_eq_true.mp hr q hq)
  unfold up
  rw [if_neg (fun z => h1 z.1)]
  exact h q hq
theorem Stc.putF {w : Hp} (h : Stc w) {r i x : Int} (hr : refTab.all (fun q => decide (q.1 ≠ r ∨ q.2.1 ≠ i)) = true) : Stc (up w r i x) := by
  intro q hq
  have h1 := of_decide_eq_true (List.all_eq_true.mp hr q hq)
  unfold up
  rw [if_neg (fun z => h1.elim (fun y => y z.1) (fun y => y z.2))]
  exact h q hq
theorem w32_id {z : Int} (h1 : -2147483648 ≤ z) (h2 : z < 2147483648) : w32 z = z := by
  unfold w32
  rw [Int.bmod_eq_of_le] <;> omega
theorem w64_id {z : Int} (h1 : -9223372036854775808 ≤ z) (h2 : z < 9223372036854775808) : w64 z = z := by
  unfold w64
  rw [Int.bmod_eq_of_le] <;> omega
theorem div_lt {a b : Int} (h0 : 0 ≤ a) (hb : 0 < b) : 0 ≤ a / b ∧ a / b ≤ a := ⟨Int.ediv_nonneg h0 (Int.le_of_lt hb), Int.ediv_le_self b h0⟩
theorem iDiv_pos {a b : Int} (h0 : 0 ≤ a) (h1 : a < 2147483648) (hb : 0 < b) : iDiv a b = a / b := by
  unfold iDiv
  rw [Int.tdiv_eq_ediv_of_nonneg h0]
  have := div_lt h0 hb
  exact w32_id (by omega) (by omega)
theorem mod_eq {a b : Int} : a - a / b * b = a % b := by
  have h := Int.emod_add_mul_ediv a b
  rw [Int.mul_comm] at h
  omega
theorem iRem_pos {a b : Int} (h0 : 0 ≤ a) (h1 : a < 2147483648) (hb : 0 < b) : iRem a b = a % b := by
  unfold iRem
  rw [iDiv_pos h0 h1 hb]
  have h2 := Int.emod_nonneg a (by omega : b ≠ 0)
  have h3 := @mod_eq a b
  have h4 := div_lt h0 hb
  have h5 : 0 ≤ a / b * b := Int.mul_nonneg h4.1 (Int.le_of_lt hb)
  rw [w32_id (z := a / b * b) (by omega) (by omega), w32_id (by omega) (by omega)]
  exact h3
theorem lDiv_pos {a b : Int} (h0 : 0 ≤ a) (h1 : a < 9223372036854775808) (hb : 0 < b) : lDiv a b = a / b := by
  unfold lDiv
  rw [Int.tdiv_eq_ediv_of_nonneg h0]
  have := div_lt h0 hb
  exact w64_id (by omega) (by omega)
theorem lRem_pos {a b : Int} (h0 : 0 ≤ a) (h1 : a < 9223372036854775808) (hb : 0 < b) : lRem a b = a % b := by
  unfold lRem
  rw [lDiv_pos h0 h1 hb]
  have h2 := Int.emod_nonneg a (by omega : b ≠ 0)
  have h3 := @mod_eq a b
  have h4 := div_lt h0 hb
  have h5 : 0 ≤ a / b * b := Int.mul_nonneg h4.1 (Int.le_of_lt hb)
  rw [w64_id (z := a / b * b) (by omega) (by omega), w64_id (by omega) (by omega)]
  exact h3
theorem wp_swE {sh : Shp} {d mi pc pt pc0 len pos : Nat} {x : Int} {ls : PL} {st : List PV} {w : Hp} {Q : Option PV → Hp → Prop} {a dflt lo hi o : Int} {offs : Array Int} (k0 : Int) (h : rowOf mi pc = some (pc0, .tableswitch dflt lo hi offs, len, x, pos)) (hk : ¬ (k0 < lo ∨ hi < k0)) (ho : offs[(k0 - lo).toNat]? = some o) (hp : ((pc : Int) + o).toNat = pt) (kin : a = k0 → WP sh d mi pt ls st w Q) (kel : a ≠ k0 → WP sh d mi pc ls (vI a :: st) w Q) : WP sh d mi pc ls (vI a :: st) w Q := by
  by_cases hc : a = k0
  · have k1 := kin hc
    subst hc
    exact wp_swIn h hk ho hp k1
  · exact kel hc
end
section
/-! Land: the geometry, gains -/
theorem inc_id {a n : Int} (h1 : -2147483648 ≤ a + n) (h2 : a + n < 2147483648) (hn : w32 n = n := by decide) : w32 (a + w32 n) = a + n := by
  rw [hn]
  exact w32_id h1 h2
def sBeside (c l cell way : Int) : Int := if way = 0 then cell else if way = 1 then (if 0 < cell / c then cell - c else -1) else if way = 2 then (if cell % c < c - 1 then cell + 1 else -1) else if way = 3 then (if cell / c < l - 1 then cell + c else -1) else if way = 4 then (if 0 < cell % c then cell - 1 else -1) else -1
def sAbs (x : Int) : Int := if 0 ≤ x then x else -x
theorem abs_id {a : Int} (h : -2147483648 < a) (h2 : a < 2147483648) : (if 0 ≤ a then a else w32 (0 - a)) = sAbs a := by
  unfold sAbs
  split
  · rfl
  · rw [w32_id (by omega) (by omega)]; omega
def sFar (c a b : Int) : Int := sAbs (a % c - b % c) + sAbs (a / c - b / c)
def sGainOf (k away b : Int) : Int := if k = 1 then (if b ≠ 0 then away + 3 else away) else if k = 2 then 9 - away else if k = 3 then 0 else if k = 4 then (if away = 0 then 0 else 2 * (9 - away)) else if k = 5 then (if away = 1 then 5 else 0) else away
def sNorth (c h cell : Int) : Int := if cell / c < h / c then 1 else 0
/-- what one of a kind with a house gains by a cell -/
def sG (c k h cell : Int) : Int := sGainOf k (sFar c cell h) (sNorth c h cell)
/-- a land of c columns, l lines -/
def CL (c l : Int) : Prop := 3 ≤ c ∧ c ≤ 5 ∧ 3 ≤ l ∧ l ≤ 5
def Cel (c l x : Int) : Prop := 0 ≤ x ∧ x < c * l
theorem Cel.dm {c l x : Int} (h : CL c l) (hx : Cel c l x) : 0 ≤ x / c ∧ x / c < l ∧ 0 ≤ x % c ∧ x % c < c ∧ 0 ≤ x ∧ x < 25 := by
  obtain ⟨h1, h2, h3, h4⟩ := h
  obtain ⟨h5, h6⟩ := hx
  have a1 := Int.ediv_nonneg h5 (by omega : 0 ≤ c)
  have a2 : x / c < l := Int.ediv_lt_of_lt_mul (by omega) (by rw [Int.mul_comm]; exact h6)
  have a3 := Int.emod_nonneg x (by omega : c ≠ 0)
  have a4 := Int.emod_lt_of_pos x (by omega : 0 < c)
  have a5 : c * l ≤ 5 * 5 := Int.mul_le_mul h2 h4 (by omega) (by omega)
  exact ⟨a1, a2, a3, a4, h5, by omega⟩
theorem CL.mul {c l : Int} (h : CL c l) : 9 ≤ c * l ∧ c * l ≤ 25 := by
  obtain ⟨h1, h2, h3, h4⟩ := h
  have a5 : c * l ≤ 5 * 5 := Int.mul_le_mul h2 h4 (by omega) (by omega)
  have a6 : 3 * 3 ≤ c * l := Int.mul_le_mul h1 h3 (by omega) (by omega)
  omega
theorem sFar_in {c l a b : Int} (h : CL c l) (ha : Cel c l a) (hb : Cel c l b) : 0 ≤ sFar c a b ∧ sFar c a b ≤ 8 := by
  have h1 := ha.dm h
  have h2 := hb.dm h
  obtain ⟨c1, c2, c3, c4⟩ := h
  unfold sFar sAbs
  constructor <;> (repeat' split) <;> omega
theorem sFar_comm (c a b : Int) : sFar c a b = sFar c b a := by
  unfold sFar sAbs
  (repeat' split) <;> omega
theorem sG_in {c l k h cell : Int} (hc : CL c l) (h1 : Cel c l h) (h2 : Cel c l cell) : 0 ≤ sG c k h cell ∧ sG c k h cell ≤ 18 := by
  have h3 := sFar_in hc h2 h1
  unfold sG sGainOf
  constructor <;> (repeat' split) <;> omega
set_option maxRecDepth 20000 in
set_option maxHeartbeats 4000000 in
theorem c_Land_beside {w : Hp} {d : Nat} {cell way : Int} (hc : CL (w 3 0) (w 3 1)) (hx : Cel (w 3 0) (w 3 1) cell) : WP SH (d + 0) 31 0 [some (vR 3), some (vI cell), some (vI way), none, none] [] w (fun v w' => v = some (vI (sBeside (w 3 0) (w 3 1) cell way)) ∧ w' = w) := by
  have hdm := hx.dm hc
  obtain ⟨hc1, hc2, hc3, hc4⟩ := hc
  refine wp_aload_n (pc' := 1) rfl rfl rfl (by decide) ?_
  refine wp_getI (ci := 3) (k0 := 0) (pc' := 4) rfl rfl (by decide) (by first | assumption | rfl) ?_
  refine wp_iconst (a := 1) (pc' := 5) rfl rfl rfl ?_
  refine wp_icmp_ge (pc' := 8) (pt := 10) rfl rfl rfl (fun q_1 => ?_) (fun q_1 => ?_)
  · skip
    refine wp_iload_n (pc' := 11) rfl rfl rfl ?_
    refine wp_aload_n (pc' := 12) rfl rfl rfl (by decide) ?_
    refine wp_getI (ci := 3) (k0 := 0) (pc' := 15) rfl rfl (by decide) (by first | assumption | rfl) ?_
    refine wp_idiv (pc' := 16) rfl rfl (by omega) (by first | exact iDiv_pos (by omega) (by omega) (by omega) | rfl) ?_
    refine wp_istore_n (pc' := 17) rfl rfl (Nat.le_of_ble_eq_true rfl) rfl ?_
    dsimp only [lset, lset2, List.set, List.getElem?_cons_zero, List.getElem?_cons_succ]
    refine wp_iload_n (pc' := 18) rfl rfl rfl ?_
    refine wp_aload_n (pc' := 19) rfl rfl rfl (by decide) ?_
    refine wp_getI (ci := 3) (k0 := 0) (pc' := 22) rfl rfl (by decide) (by first | assumption | rfl) ?_
    refine wp_irem (pc' := 23) rfl rfl (by omega) (by first | exact iRem_pos (by omega) (by omega) (by omega) | rfl) ?_
    refine wp_istore (pc' := 25) rfl rfl (Nat.le_of_ble_eq_true rfl) rfl ?_
    dsimp only [lset, lset2, List.set, List.getElem?_cons_zero, List.getElem?_cons_succ]
    refine wp_iload_n (pc' := 26) rfl rfl rfl ?_
    refine wp_swE (0) (pt := 60) rfl (by decide) rfl rfl (fun q_2 => ?_) (fun q_2 => ?_)
    · skip
      refine wp_iload_n (pc' := 61) rfl rfl rfl ?_
      refine wp_ret rfl rfl rfl ?_
      refine ⟨congrArg (fun z => some (vI z)) ?_, rfl⟩
      unfold sBeside
      (repeat' split) <;> omega
    refine wp_swE (1) (pt := 62) rfl (by decide) rfl rfl (fun q_3 => ?_) (fun q_3 => ?_)
    · skip
      refine wp_iload_n (pc' := 63) rfl rfl rfl ?_
      refine wp_if_le (pc' := 66) (pt := 75) rfl rfl rfl (fun q_4 => ?_) (fun q_4 => ?_)
      · skip
        refine wp_iconst (a := -1) (pc' := 76) rfl rfl rfl ?_
        refine wp_ret rfl rfl rfl ?_
        refine ⟨congrArg (fun z => some (vI z)) ?_, rfl⟩
        unfold sBeside
        (repeat' split) <;> omega
      · skip
        refine wp_iload_n (pc' := 67) rfl rfl rfl ?_
        refine wp_aload_n (pc' := 68) rfl rfl rfl (by decide) ?_
        refine wp_getI (ci := 3) (k0 := 0) (pc' := 71) rfl rfl (by decide) (by first | assumption | rfl) ?_
        refine wp_isub (pc' := 72) rfl rfl (by first | exact w32_id (by omega) (by omega) | rfl) ?_
        refine wp_goto (pc' := 76) rfl rfl ?_
        refine wp_ret rfl rfl rfl ?_
        refine ⟨congrArg (fun z => some (vI z)) ?_, rfl⟩
        unfold sBeside
        (repeat' split) <;> omega
    refine wp_swE (2) (pt := 77) rfl (by decide) rfl rfl (fun q_5 => ?_) (fun q_5 => ?_)
    · skip
      refine wp_iload (pc' := 79) rfl rfl rfl ?_
      refine wp_aload_n (pc' := 80) rfl rfl rfl (by decide) ?_
      refine wp_getI (ci := 3) (k0 := 0) (pc' := 83) rfl rfl (by decide) (by first | assumption | rfl) ?_
      refine wp_iconst (a := 1) (pc' := 84) rfl rfl rfl ?_
      refine wp_isub (pc' := 85) rfl rfl (by first | exact w32_id (by omega) (by omega) | rfl) ?_
      refine wp_icmp_ge (pc' := 88) (pt := 94) rfl rfl rfl (fun q_6 => ?_) (fun q_6 => ?_)
      · skip
        refine wp_iconst (a := -1) (pc' := 95) rfl rfl rfl ?_
        refine wp_ret rfl rfl rfl ?_
        refine ⟨congrArg (fun z => some (vI z)) ?_, rfl⟩
        unfold sBeside
        (repeat' split) <;> omega
      · skip
        refine wp_iload_n (pc' := 89) rfl rfl rfl ?_
        refine wp_iconst (a := 1) (pc' := 90) rfl rfl rfl ?_
        refine wp_iadd (pc' := 91) rfl rfl (by first | exact w32_id (by omega) (by omega) | rfl) ?_
        refine wp_goto (pc' := 95) rfl rfl ?_
        refine wp_ret rfl rfl rfl ?_
        refine ⟨congrArg (fun z => some (vI z)) ?_, rfl⟩
        unfold sBeside
        (repeat' split) <;> omega
    refine wp_swE (3) (pt := 96) rfl (by decide) rfl rfl (fun q_7 => ?_) (fun q_7 => ?_)
    · skip
      refine wp_iload_n (pc' := 97) rfl rfl rfl ?_
      refine wp_aload_n (pc' := 98) rfl rfl rfl (by decide) ?_
      refine wp_getI (ci := 3) (k0 := 1) (pc' := 101) rfl rfl (by decide) (by first | assumption | rfl) ?_
      refine wp_iconst (a := 1) (pc' := 102) rfl rfl rfl ?_
      refine wp_isub (pc' := 103) rfl rfl (by first | exact w32_id (by omega) (by omega) | rfl) ?_
      refine wp_icmp_ge (pc' := 106) (pt := 115) rfl rfl rfl (fun q_8 => ?_) (fun q_8 => ?_)
      · skip
        refine wp_iconst (a := -1) (pc' := 116) rfl rfl rfl ?_
        refine wp_ret rfl rfl rfl ?_
        refine ⟨congrArg (fun z => some (vI z)) ?_, rfl⟩
        unfold sBeside
        (repeat' split) <;> omega
      · skip
        refine wp_iload_n (pc' := 107) rfl rfl rfl ?_
        refine wp_aload_n (pc' := 108) rfl rfl rfl (by decide) ?_
        refine wp_getI (ci := 3) (k0 := 0) (pc' := 111) rfl rfl (by decide) (by first | assumption | rfl) ?_
        refine wp_iadd (pc' := 112) rfl rfl (by first | exact w32_id (by omega) (by omega) | rfl) ?_
        refine wp_goto (pc' := 116) rfl rfl ?_
        refine wp_ret rfl rfl rfl ?_
        refine ⟨congrArg (fun z => some (vI z)) ?_, rfl⟩
        unfold sBeside
        (repeat' split) <;> omega
    refine wp_swE (4) (pt := 117) rfl (by decide) rfl rfl (fun q_9 => ?_) (fun q_9 => ?_)
    · skip
      refine wp_iload (pc' := 119) rfl rfl rfl ?_
      refine wp_if_le (pc' := 122) (pt := 128) rfl rfl rfl (fun q_10 => ?_) (fun q_10 => ?_)
      · skip
        refine wp_iconst (a := -1) (pc' := 129) rfl rfl rfl ?_
        refine wp_ret rfl rfl rfl ?_
        refine ⟨congrArg (fun z => some (vI z)) ?_, rfl⟩
        unfold sBeside
        (repeat' split) <;> omega
      · skip
        refine wp_iload_n (pc' := 123) rfl rfl rfl ?_
        refine wp_iconst (a := 1) (pc' := 124) rfl rfl rfl ?_
        refine wp_isub (pc' := 125) rfl rfl (by first | exact w32_id (by omega) (by omega) | rfl) ?_
        refine wp_goto (pc' := 129) rfl rfl ?_
        refine wp_ret rfl rfl rfl ?_
        refine ⟨congrArg (fun z => some (vI z)) ?_, rfl⟩
        unfold sBeside
        (repeat' split) <;> omega
    refine wp_swOut (pc' := 130) rfl (by omega) rfl ?_
    refine wp_iconst (a := -1) (pc' := 131) rfl rfl rfl ?_
    refine wp_ret rfl rfl rfl ?_
    refine ⟨congrArg (fun z => some (vI z)) ?_, rfl⟩
    unfold sBeside
    (repeat' split) <;> omega
  · skip
    refine wp_iconst (a := -1) (pc' := 9) rfl rfl rfl ?_
    refine wp_ret rfl rfl rfl ?_
    refine ⟨congrArg (fun z => some (vI z)) ?_, rfl⟩
    unfold sBeside
    (repeat' split) <;> omega
set_option maxRecDepth 20000 in
set_option maxHeartbeats 4000000 in
theorem c_Land_far {w : Hp} {d : Nat} {a b : Int} (hc : CL (w 3 0) (w 3 1)) (ha : Cel (w 3 0) (w 3 1) a) (hb : Cel (w 3 0) (w 3 1) b) : WP SH (d + 0) 30 0 [some (vR 3), some (vI a), some (vI b)] [] w (fun v w' => v = some (vI (sFar (w 3 0) a b)) ∧ w' = w) := by
  have hda := ha.dm hc
  have hdb := hb.dm hc
  have hab : 0 ≤ sAbs (a % w 3 0 - b % w 3 0) ∧ sAbs (a % w 3 0 - b % w 3 0) ≤ 8 ∧ 0 ≤ sAbs (a / w 3 0 - b / w 3 0) ∧ sAbs (a / w 3 0 - b / w 3 0) ≤ 8 := by
    obtain ⟨c1, c2, c3, c4⟩ := hc
    unfold sAbs
    refine ⟨?_, ?_, ?_, ?_⟩ <;> split <;> omega
  obtain ⟨hc1, hc2, hc3, hc4⟩ := hc
  refine wp_aload_n (pc' := 1) rfl rfl rfl (by decide) ?_
  refine wp_getI (ci := 3) (k0 := 0) (pc' := 4) rfl rfl (by decide) (by first | assumption | rfl) ?_
  refine wp_iconst (a := 1) (pc' := 5) rfl rfl rfl ?_
  refine wp_icmp_ge (pc' := 8) (pt := 10) rfl rfl rfl (fun q_1 => ?_) (fun q_1 => ?_)
  · skip
    refine wp_iload_n (pc' := 11) rfl rfl rfl ?_
    refine wp_aload_n (pc' := 12) rfl rfl rfl (by decide) ?_
    refine wp_getI (ci := 3) (k0 := 0) (pc' := 15) rfl rfl (by decide) (by first | assumption | rfl) ?_
    refine wp_irem (pc' := 16) rfl rfl (by omega) (by first | exact iRem_pos (by omega) (by omega) (by omega) | rfl) ?_
    refine wp_iload_n (pc' := 17) rfl rfl rfl ?_
    refine wp_aload_n (pc' := 18) rfl rfl rfl (by decide) ?_
    refine wp_getI (ci := 3) (k0 := 0) (pc' := 21) rfl rfl (by decide) (by first | assumption | rfl) ?_
    refine wp_irem (pc' := 22) rfl rfl (by omega) (by first | exact iRem_pos (by omega) (by omega) (by omega) | rfl) ?_
    refine wp_isub (pc' := 23) rfl rfl (by first | exact w32_id (by omega) (by omega) | rfl) ?_
    refine wp_abs (pc' := 26) rfl rfl (Nat.le_of_ble_eq_true rfl) (by first | exact abs_id (by omega) (by omega) | rfl) ?_
    refine wp_iload_n (pc' := 27) rfl rfl rfl ?_
    refine wp_aload_n (pc' := 28) rfl rfl rfl (by decide) ?_
    refine wp_getI (ci := 3) (k0 := 0) (pc' := 31) rfl rfl (by decide) (by first | assumption | rfl) ?_
    refine wp_idiv (pc' := 32) rfl rfl (by omega) (by first | exact iDiv_pos (by omega) (by omega) (by omega) | rfl) ?_
    refine wp_iload_n (pc' := 33) rfl rfl rfl ?_
    refine wp_aload_n (pc' := 34) rfl rfl rfl (by decide) ?_
    refine wp_getI (ci := 3) (k0 := 0) (pc' := 37) rfl rfl (by decide) (by first | assumption | rfl) ?_
    refine wp_idiv (pc' := 38) rfl rfl (by omega) (by first | exact iDiv_pos (by omega) (by omega) (by omega) | rfl) ?_
    refine wp_isub (pc' := 39) rfl rfl (by first | exact w32_id (by omega) (by omega) | rfl) ?_
    refine wp_abs (pc' := 42) rfl rfl (Nat.le_of_ble_eq_true rfl) (by first | exact abs_id (by omega) (by omega) | rfl) ?_
    refine wp_iadd (pc' := 43) rfl rfl (by first | exact w32_id (by omega) (by omega) | rfl) ?_
    refine wp_ret rfl rfl rfl ?_
    first | exact ⟨rfl, rfl⟩ | (exfalso; omega)
  · skip
    refine wp_iconst (a := 0) (pc' := 9) rfl rfl rfl ?_
    refine wp_ret rfl rfl rfl ?_
    first | exact ⟨rfl, rfl⟩ | (exfalso; omega)
set_option maxRecDepth 20000 in
set_option maxHeartbeats 4000000 in
theorem c_Land_liesNorth {w : Hp} {d : Nat} {i cell : Int} (hc : CL (w 3 0) (w 3 1)) (hi : 0 ≤ i ∧ i < 6) (hT : Stc w) (hx : Cel (w 3 0) (w 3 1) cell) (hh : Cel (w 3 0) (w 3 1) (w 5 i)) : WP SH (d + 0) 35 0 [some (vR 3), some (vI i), some (vI cell)] [] w (fun v w' => v = some (vI (sNorth (w 3 0) (w 5 i) cell)) ∧ w' = w) := by
  have hda := hx.dm hc
  have hdb := hh.dm hc
  obtain ⟨hc1, hc2, hc3, hc4⟩ := hc
  refine wp_aload_n (pc' := 1) rfl rfl rfl (by decide) ?_
  refine wp_getI (ci := 3) (k0 := 0) (pc' := 4) rfl rfl (by decide) (by first | assumption | rfl) ?_
  refine wp_if_le (pc' := 7) (pt := 31) rfl rfl rfl (fun q_1 => ?_) (fun q_1 => ?_)
  · skip
    refine wp_iconst (a := 0) (pc' := 32) rfl rfl rfl ?_
    refine wp_ret rfl rfl rfl ?_
    refine ⟨congrArg (fun z => some (vI z)) ?_, rfl⟩
    unfold sNorth
    (repeat' split) <;> omega
  · skip
    refine wp_iload_n (pc' := 8) rfl rfl rfl ?_
    refine wp_aload_n (pc' := 9) rfl rfl rfl (by decide) ?_
    refine wp_getI (ci := 3) (k0 := 0) (pc' := 12) rfl rfl (by decide) (by first | assumption | rfl) ?_
    refine wp_idiv (pc' := 13) rfl rfl (by omega) (by first | exact iDiv_pos (by omega) (by omega) (by omega) | rfl) ?_
    refine wp_aload_n (pc' := 14) rfl rfl rfl (by decide) ?_
    refine wp_getR (r' := 5) (ci := 3) (k0 := 8) (pc' := 17) rfl rfl (by decide) (by first | assumption | rfl) (hT.get 24 rfl) ?_
    refine wp_iload_n (pc' := 18) rfl rfl rfl ?_
    refine wp_iaload (pc' := 19) rfl rfl (by first | assumption | rfl) (by omega) ?_
    refine wp_aload_n (pc' := 20) rfl rfl rfl (by decide) ?_
    refine wp_getI (ci := 3) (k0 := 0) (pc' := 23) rfl rfl (by decide) (by first | assumption | rfl) ?_
    refine wp_idiv (pc' := 24) rfl rfl (by omega) (by first | exact iDiv_pos (by omega) (by omega) (by omega) | rfl) ?_
    refine wp_icmp_ge (pc' := 27) (pt := 31) rfl rfl rfl (fun q_2 => ?_) (fun q_2 => ?_)
    · skip
      refine wp_iconst (a := 0) (pc' := 32) rfl rfl rfl ?_
      refine wp_ret rfl rfl rfl ?_
      refine ⟨congrArg (fun z => some (vI z)) ?_, rfl⟩
      unfold sNorth
      (repeat' split) <;> omega
    · skip
      refine wp_iconst (a := 1) (pc' := 28) rfl rfl rfl ?_
      refine wp_goto (pc' := 32) rfl rfl ?_
      refine wp_ret rfl rfl rfl ?_
      refine ⟨congrArg (fun z => some (vI z)) ?_, rfl⟩
      unfold sNorth
      (repeat' split) <;> omega
set_option maxRecDepth 20000 in
set_option maxHeartbeats 4000000 in
theorem c_Land_gainOf {w : Hp} {d : Nat} {k a b : Int} (ha : 0 ≤ a ∧ a ≤ 8) : WP SH (d + 0) 38 0 [some (vI k), some (vI a), some (vI b)] [] w (fun v w' => v = some (vI (sGainOf k a b)) ∧ w' = w) := by
  refine wp_iload_n (pc' := 1) rfl rfl rfl ?_
  refine wp_swE (1) (pt := 36) rfl (by decide) rfl rfl (fun q_1 => ?_) (fun q_1 => ?_)
  · skip
    refine wp_iload_n (pc' := 37) rfl rfl rfl ?_
    refine wp_if_eq (pc' := 40) (pt := 46) rfl rfl rfl (fun q_2 => ?_) (fun q_2 => ?_)
    · skip
      refine wp_iload_n (pc' := 47) rfl rfl rfl ?_
      refine wp_ret rfl rfl rfl ?_
      refine ⟨congrArg (fun z => some (vI z)) ?_, rfl⟩
      unfold sGainOf
      (repeat' split) <;> omega
    · skip
      refine wp_iload_n (pc' := 41) rfl rfl rfl ?_
      refine wp_iconst (a := 3) (pc' := 42) rfl rfl rfl ?_
      refine wp_iadd (pc' := 43) rfl rfl (by first | exact w32_id (by omega) (by omega) | rfl) ?_
      refine wp_goto (pc' := 47) rfl rfl ?_
      refine wp_ret rfl rfl rfl ?_
      refine ⟨congrArg (fun z => some (vI z)) ?_, rfl⟩
      unfold sGainOf
      (repeat' split) <;> omega
  refine wp_swE (2) (pt := 48) rfl (by decide) rfl rfl (fun q_3 => ?_) (fun q_3 => ?_)
  · skip
    refine wp_bipush (a := 9) (pc' := 50) rfl rfl rfl ?_
    refine wp_iload_n (pc' := 51) rfl rfl rfl ?_
    refine wp_isub (pc' := 52) rfl rfl (by first | exact w32_id (by omega) (by omega) | rfl) ?_
    refine wp_ret rfl rfl rfl ?_
    refine ⟨congrArg (fun z => some (vI z)) ?_, rfl⟩
    unfold sGainOf
    (repeat' split) <;> omega
  refine wp_swE (3) (pt := 53) rfl (by decide) rfl rfl (fun q_4 => ?_) (fun q_4 => ?_)
  · skip
    refine wp_iconst (a := 0) (pc' := 54) rfl rfl rfl ?_
    refine wp_ret rfl rfl rfl ?_
    refine ⟨congrArg (fun z => some (vI z)) ?_, rfl⟩
    unfold sGainOf
    (repeat' split) <;> omega
  refine wp_swE (4) (pt := 55) rfl (by decide) rfl rfl (fun q_5 => ?_) (fun q_5 => ?_)
  · skip
    refine wp_iload_n (pc' := 56) rfl rfl rfl ?_
    refine wp_if_ne (pc' := 59) (pt := 63) rfl rfl rfl (fun q_6 => ?_) (fun q_6 => ?_)
    · skip
      refine wp_iconst (a := 2) (pc' := 64) rfl rfl rfl ?_
      refine wp_bipush (a := 9) (pc' := 66) rfl rfl rfl ?_
      refine wp_iload_n (pc' := 67) rfl rfl rfl ?_
      refine wp_isub (pc' := 68) rfl rfl (by first | exact w32_id (by omega) (by omega) | rfl) ?_
      refine wp_imul (pc' := 69) rfl rfl (by first | exact w32_id (by omega) (by omega) | rfl) ?_
      refine wp_ret rfl rfl rfl ?_
      refine ⟨congrArg (fun z => some (vI z)) ?_, rfl⟩
      unfold sGainOf
      (repeat' split) <;> omega
    · skip
      refine wp_iconst (a := 0) (pc' := 60) rfl rfl rfl ?_
      refine wp_goto (pc' := 69) rfl rfl ?_
      refine wp_ret rfl rfl rfl ?_
      refine ⟨congrArg (fun z => some (vI z)) ?_, rfl⟩
      unfold sGainOf
      (repeat' split) <;> omega
  refine wp_swE (5) (pt := 70) rfl (by decide) rfl rfl (fun q_7 => ?_) (fun q_7 => ?_)
  · skip
    refine wp_iload_n (pc' := 71) rfl rfl rfl ?_
    refine wp_iconst (a := 1) (pc' := 72) rfl rfl rfl ?_
    refine wp_icmp_ne (pc' := 75) (pt := 79) rfl rfl rfl (fun q_8 => ?_) (fun q_8 => ?_)
    · skip
      refine wp_iconst (a := 0) (pc' := 80) rfl rfl rfl ?_
      refine wp_ret rfl rfl rfl ?_
      refine ⟨congrArg (fun z => some (vI z)) ?_, rfl⟩
      unfold sGainOf
      (repeat' split) <;> omega
    · skip
      refine wp_iconst (a := 5) (pc' := 76) rfl rfl rfl ?_
      refine wp_goto (pc' := 80) rfl rfl ?_
      refine wp_ret rfl rfl rfl ?_
      refine ⟨congrArg (fun z => some (vI z)) ?_, rfl⟩
      unfold sGainOf
      (repeat' split) <;> omega
  refine wp_swOut (pc' := 81) rfl (by omega) rfl ?_
  refine wp_iload_n (pc' := 82) rfl rfl rfl ?_
  refine wp_ret rfl rfl rfl ?_
  refine ⟨congrArg (fun z => some (vI z)) ?_, rfl⟩
  unfold sGainOf
  (repeat' split) <;> omega
set_option maxRecDepth 20000 in
set_option maxHeartbeats 4000000 in
theorem c_Land_gains {w : Hp} {d : Nat} {i cell : Int} (hc : CL (w 3 0) (w 3 1)) (hi : 0 ≤ i ∧ i < 6) (hT : Stc w) (hx : Cel (w 3 0) (w 3 1) cell) (hh : Cel (w 3 0) (w 3 1) (w 5 i)) : WP SH (d + 1) 36 0 [some (vR 3), some (vI i), some (vI cell)] [] w (fun v w' => v = some (vI (sG (w 3 0) (w 4 i) (w 5 i) cell)) ∧ w' = w) := by
  refine wp_aload_n (pc' := 1) rfl rfl rfl (by decide) ?_
  refine wp_getR (r' := 4) (ci := 3) (k0 := 7) (pc' := 4) rfl rfl (by decide) (by first | assumption | rfl) (hT.get 23 rfl) ?_
  refine wp_iload_n (pc' := 5) rfl rfl rfl ?_
  refine wp_iaload (pc' := 6) rfl rfl (by first | assumption | rfl) (by omega) ?_
  refine wp_aload_n (pc' := 7) rfl rfl rfl (by decide) ?_
  refine wp_iload_n (pc' := 8) rfl rfl rfl ?_
  refine wp_aload_n (pc' := 9) rfl rfl rfl (by decide) ?_
  refine wp_getR (r' := 5) (ci := 3) (k0 := 8) (pc' := 12) rfl rfl (by decide) (by first | assumption | rfl) (hT.get 24 rfl) ?_
  refine wp_iload_n (pc' := 13) rfl rfl rfl ?_
  refine wp_iaload (pc' := 14) rfl rfl (by first | assumption | rfl) (by omega) ?_
  refine wp_call (pc' := 17) rfl rfl rfl rfl rfl ⟨Nat.le_of_ble_eq_true rfl, Nat.le_of_ble_eq_true rfl, Nat.le_of_ble_eq_true rfl, Nat.le_of_ble_eq_true rfl, Nat.le_of_ble_eq_true rfl⟩ rfl (c_Land_far hc hx hh) ?_
  intro v1 w1 hq1
  rw [hq1.1, hq1.2]
  clear hq1 v1 w1
  dsimp only [Option.toList, List.cons_append, List.nil_append, List.append_nil]
  refine wp_aload_n (pc' := 18) rfl rfl rfl (by decide) ?_
  refine wp_iload_n (pc' := 19) rfl rfl rfl ?_
  refine wp_iload_n (pc' := 20) rfl rfl rfl ?_
  refine wp_call (pc' := 23) rfl rfl rfl rfl rfl ⟨Nat.le_of_ble_eq_true rfl, Nat.le_of_ble_eq_true rfl, Nat.le_of_ble_eq_true rfl, Nat.le_of_ble_eq_true rfl, Nat.le_of_ble_eq_true rfl⟩ rfl (c_Land_liesNorth hc hi hT hx hh) ?_
  intro v1 w1 hq1
  rw [hq1.1, hq1.2]
  clear hq1 v1 w1
  dsimp only [Option.toList, List.cons_append, List.nil_append, List.append_nil]
  refine wp_call (pc' := 26) rfl rfl rfl rfl rfl ⟨Nat.le_of_ble_eq_true rfl, Nat.le_of_ble_eq_true rfl, Nat.le_of_ble_eq_true rfl, Nat.le_of_ble_eq_true rfl, Nat.le_of_ble_eq_true rfl⟩ rfl (c_Land_gainOf (sFar_in hc hx hh)) ?_
  intro v1 w1 hq1
  rw [hq1.1, hq1.2]
  clear hq1 v1 w1
  dsimp only [Option.toList, List.cons_append, List.nil_append, List.append_nil]
  refine wp_ret rfl rfl rfl ?_
  exact ⟨rfl, rfl⟩
set_option maxRecDepth 20000 in
set_option maxHeartbeats 4000000 in
theorem c_Land_gainsAs {w : Hp} {d : Nat} {k i cell : Int} (hc : CL (w 3 0) (w 3 1)) (hi : 0 ≤ i ∧ i < 6) (hT : Stc w) (hx : Cel (w 3 0) (w 3 1) cell) (hh : Cel (w 3 0) (w 3 1) (w 5 i)) : WP SH (d + 1) 37 0 [some (vR 3), some (vI k), some (vI i), some (vI cell)] [] w (fun v w' => v = some (vI (sG (w 3 0) k (w 5 i) cell)) ∧ w' = w) := by
  refine wp_iload_n (pc' := 1) rfl rfl rfl ?_
  refine wp_aload_n (pc' := 2) rfl rfl rfl (by decide) ?_
  refine wp_iload_n (pc' := 3) rfl rfl rfl ?_
  refine wp_aload_n (pc' := 4) rfl rfl rfl (by decide) ?_
  refine wp_getR (r' := 5) (ci := 3) (k0 := 8) (pc' := 7) rfl rfl (by decide) (by first | assumption | rfl) (hT.get 24 rfl) ?_
  refine wp_iload_n (pc' := 8) rfl rfl rfl ?_
  refine wp_iaload (pc' := 9) rfl rfl (by first | assumption | rfl) (by omega) ?_
  refine wp_call (pc' := 12) rfl rfl rfl rfl rfl ⟨Nat.le_of_ble_eq_true rfl, Nat.le_of_ble_eq_true rfl, Nat.le_of_ble_eq_true rfl, Nat.le_of_ble_eq_true rfl, Nat.le_of_ble_eq_true rfl⟩ rfl (c_Land_far hc hx hh) ?_
  intro v1 w1 hq1
  rw [hq1.1, hq1.2]
  clear hq1 v1 w1
  dsimp only [Option.toList, List.cons_append, List.nil_append, List.append_nil]
  refine wp_aload_n (pc' := 13) rfl rfl rfl (by decide) ?_
  refine wp_iload_n (pc' := 14) rfl rfl rfl ?_
  refine wp_iload_n (pc' := 15) rfl rfl rfl ?_
  refine wp_call (pc' := 18) rfl rfl rfl rfl rfl ⟨Nat.le_of_ble_eq_true rfl, Nat.le_of_ble_eq_true rfl, Nat.le_of_ble_eq_true rfl, Nat.le_of_ble_eq_true rfl, Nat.le_of_ble_eq_true rfl⟩ rfl (c_Land_liesNorth hc hi hT hx hh) ?_
  intro v1 w1 hq1
  rw [hq1.1, hq1.2]
  clear hq1 v1 w1
  dsimp only [Option.toList, List.cons_append, List.nil_append, List.append_nil]
  refine wp_call (pc' := 21) rfl rfl rfl rfl rfl ⟨Nat.le_of_ble_eq_true rfl, Nat.le_of_ble_eq_true rfl, Nat.le_of_ble_eq_true rfl, Nat.le_of_ble_eq_true rfl, Nat.le_of_ble_eq_true rfl⟩ rfl (c_Land_gainOf (sFar_in hc hx hh)) ?_
  intro v1 w1 hq1
  rw [hq1.1, hq1.2]
  clear hq1 v1 w1
  dsimp only [Option.toList, List.cons_append, List.nil_append, List.append_nil]
  refine wp_ret rfl rfl rfl ?_
  exact ⟨rfl, rfl⟩
set_option maxRecDepth 20000 in
set_option maxHeartbeats 4000000 in
theorem c_Mod_apart {w : Hp} {d : Nat} {a b : Int} (ha : 0 ≤ a ∧ a < 100) (hb : 0 ≤ b ∧ b < 100) : WP SH (d + 0) 169 0 [some (vI a), some (vI b)] [] w (fun v w' => v = some (vI (sAbs (a - b))) ∧ w' = w) := by
  refine wp_iload_n (pc' := 1) rfl rfl rfl ?_
  refine wp_iload_n (pc' := 2) rfl rfl rfl ?_
  refine wp_icmp_ge (pc' := 5) (pt := 11) rfl rfl rfl (fun q_1 => ?_) (fun q_1 => ?_)
  · skip
    refine wp_iload_n (pc' := 12) rfl rfl rfl ?_
    refine wp_iload_n (pc' := 13) rfl rfl rfl ?_
    refine wp_isub (pc' := 14) rfl rfl (by first | exact w32_id (by omega) (by omega) | rfl) ?_
    refine wp_ret rfl rfl rfl ?_
    refine ⟨congrArg (fun z => some (vI z)) ?_, rfl⟩
    unfold sAbs
    (repeat' split) <;> omega
  · skip
    refine wp_iload_n (pc' := 6) rfl rfl rfl ?_
    refine wp_iload_n (pc' := 7) rfl rfl rfl ?_
    refine wp_isub (pc' := 8) rfl rfl (by first | exact w32_id (by omega) (by omega) | rfl) ?_
    refine wp_goto (pc' := 14) rfl rfl ?_
    refine wp_ret rfl rfl rfl ?_
    refine ⟨congrArg (fun z => some (vI z)) ?_, rfl⟩
    unfold sAbs
    (repeat' split) <;> omega
set_option maxRecDepth 20000 in
set_option maxHeartbeats 4000000 in
theorem c_Mod_far {w : Hp} {d : Nat} {a b : Int} (hc : CL (w 100 11) (w 100 12)) (ha : Cel (w 100 11) (w 100 12) a) (hb : Cel (w 100 11) (w 100 12) b) : WP SH (d + 1) 170 0 [some (vR 100), some (vI a), some (vI b)] [] w (fun v w' => v = some (vI (sFar (w 100 11) a b)) ∧ w' = w) := by
  have hda := ha.dm hc
  have hdb := hb.dm hc
  have hff := sFar_in hc ha hb
  unfold sFar at hff
  have hab : 0 ≤ sAbs (a % w 100 11 - b % w 100 11) ∧ sAbs (a % w 100 11 - b % w 100 11) ≤ 8 ∧ 0 ≤ sAbs (a / w 100 11 - b / w 100 11) ∧ sAbs (a / w 100 11 - b / w 100 11) ≤ 8 := by
    obtain ⟨c1, c2, c3, c4⟩ := hc
    unfold sAbs
    refine ⟨?_, ?_, ?_, ?_⟩ <;> split <;> omega
  obtain ⟨hc1, hc2, hc3, hc4⟩ := hc
  refine wp_iload_n (pc' := 1) rfl rfl rfl ?_
  refine wp_aload_n (pc' := 2) rfl rfl rfl (by decide) ?_
  refine wp_getI (ci := 10) (k0 := 11) (pc' := 5) rfl rfl (by decide) (by first | assumption | rfl) ?_
  refine wp_irem (pc' := 6) rfl rfl (by omega) (by first | exact iRem_pos (by omega) (by omega) (by omega) | rfl) ?_
  refine wp_iload_n (pc' := 7) rfl rfl rfl ?_
  refine wp_aload_n (pc' := 8) rfl rfl rfl (by decide) ?_
  refine wp_getI (ci := 10) (k0 := 11) (pc' := 11) rfl rfl (by decide) (by first | assumption | rfl) ?_
  refine wp_irem (pc' := 12) rfl rfl (by omega) (by first | exact iRem_pos (by omega) (by omega) (by omega) | rfl) ?_
  refine wp_call (pc' := 15) rfl rfl rfl rfl rfl ⟨Nat.le_of_ble_eq_true rfl, Nat.le_of_ble_eq_true rfl, Nat.le_of_ble_eq_true rfl, Nat.le_of_ble_eq_true rfl, Nat.le_of_ble_eq_true rfl⟩ rfl (c_Mod_apart (by omega) (by omega)) ?_
  intro v1 w1 hq1
  rw [hq1.1, hq1.2]
  clear hq1 v1 w1
  dsimp only [Option.toList, List.cons_append, List.nil_append, List.append_nil]
  refine wp_iload_n (pc' := 16) rfl rfl rfl ?_
  refine wp_aload_n (pc' := 17) rfl rfl rfl (by decide) ?_
  refine wp_getI (ci := 10) (k0 := 11) (pc' := 20) rfl rfl (by decide) (by first | assumption | rfl) ?_
  refine wp_idiv (pc' := 21) rfl rfl (by omega) (by first | exact iDiv_pos (by omega) (by omega) (by omega) | rfl) ?_
  refine wp_iload_n (pc' := 22) rfl rfl rfl ?_
  refine wp_aload_n (pc' := 23) rfl rfl rfl (by decide) ?_
  refine wp_getI (ci := 10) (k0 := 11) (pc' := 26) rfl rfl (by decide) (by first | assumption | rfl) ?_
  refine wp_idiv (pc' := 27) rfl rfl (by omega) (by first | exact iDiv_pos (by omega) (by omega) (by omega) | rfl) ?_
  refine wp_call (pc' := 30) rfl rfl rfl rfl rfl ⟨Nat.le_of_ble_eq_true rfl, Nat.le_of_ble_eq_true rfl, Nat.le_of_ble_eq_true rfl, Nat.le_of_ble_eq_true rfl, Nat.le_of_ble_eq_true rfl⟩ rfl (c_Mod_apart (by omega) (by omega)) ?_
  intro v1 w1 hq1
  rw [hq1.1, hq1.2]
  clear hq1 v1 w1
  dsimp only [Option.toList, List.cons_append, List.nil_append, List.append_nil]
  refine wp_iadd (pc' := 31) rfl rfl (by first | exact w32_id (by omega) (by omega) | rfl) ?_
  refine wp_ret rfl rfl rfl ?_
  exact ⟨rfl, rfl⟩
set_option maxRecDepth 20000 in
set_option maxHeartbeats 4000000 in
theorem c_Mod_beside {w : Hp} {d : Nat} {cell way : Int} (hc : CL (w 100 11) (w 100 12)) (hw : 0 ≤ way ∧ way ≤ 4) (hx : Cel (w 100 11) (w 100 12) cell) : WP SH (d + 0) 171 0 [some (vR 100), some (vI cell), some (vI way)] [] w (fun v w' => v = some (vI (sBeside (w 100 11) (w 100 12) cell way)) ∧ w' = w) := by
  have hdm := hx.dm hc
  have hmd := Int.emod_add_mul_ediv cell (w 100 11)
  obtain ⟨hc1, hc2, hc3, hc4⟩ := hc
  have hge : 1 ≤ cell / w 100 11 ↔ 1 * w 100 11 ≤ cell := Int.le_ediv_iff_mul_le (by omega)
  refine wp_iload_n (pc' := 1) rfl rfl rfl ?_
  refine wp_swE (0) (pt := 32) rfl (by decide) rfl rfl (fun q_1 => ?_) (fun q_1 => ?_)
  · skip
    refine wp_iload_n (pc' := 33) rfl rfl rfl ?_
    refine wp_ret rfl rfl rfl ?_
    refine ⟨congrArg (fun z => some (vI z)) ?_, rfl⟩
    unfold sBeside
    (repeat' split) <;> omega
  refine wp_swE (1) (pt := 34) rfl (by decide) rfl rfl (fun q_2 => ?_) (fun q_2 => ?_)
  · skip
    refine wp_iload_n (pc' := 35) rfl rfl rfl ?_
    refine wp_aload_n (pc' := 36) rfl rfl rfl (by decide) ?_
    refine wp_getI (ci := 10) (k0 := 11) (pc' := 39) rfl rfl (by decide) (by first | assumption | rfl) ?_
    refine wp_icmp_lt (pc' := 42) (pt := 51) rfl rfl rfl (fun q_3 => ?_) (fun q_3 => ?_)
    · skip
      refine wp_iconst (a := -1) (pc' := 52) rfl rfl rfl ?_
      refine wp_ret rfl rfl rfl ?_
      refine ⟨congrArg (fun z => some (vI z)) ?_, rfl⟩
      unfold sBeside
      (repeat' split) <;> omega
    · skip
      refine wp_iload_n (pc' := 43) rfl rfl rfl ?_
      refine wp_aload_n (pc' := 44) rfl rfl rfl (by decide) ?_
      refine wp_getI (ci := 10) (k0 := 11) (pc' := 47) rfl rfl (by decide) (by first | assumption | rfl) ?_
      refine wp_isub (pc' := 48) rfl rfl (by first | exact w32_id (by omega) (by omega) | rfl) ?_
      refine wp_goto (pc' := 52) rfl rfl ?_
      refine wp_ret rfl rfl rfl ?_
      refine ⟨congrArg (fun z => some (vI z)) ?_, rfl⟩
      unfold sBeside
      (repeat' split) <;> omega
  refine wp_swE (2) (pt := 53) rfl (by decide) rfl rfl (fun q_4 => ?_) (fun q_4 => ?_)
  · skip
    refine wp_iload_n (pc' := 54) rfl rfl rfl ?_
    refine wp_aload_n (pc' := 55) rfl rfl rfl (by decide) ?_
    refine wp_getI (ci := 10) (k0 := 11) (pc' := 58) rfl rfl (by decide) (by first | assumption | rfl) ?_
    refine wp_irem (pc' := 59) rfl rfl (by omega) (by first | exact iRem_pos (by omega) (by omega) (by omega) | rfl) ?_
    refine wp_aload_n (pc' := 60) rfl rfl rfl (by decide) ?_
    refine wp_getI (ci := 10) (k0 := 11) (pc' := 63) rfl rfl (by decide) (by first | assumption | rfl) ?_
    refine wp_iconst (a := 1) (pc' := 64) rfl rfl rfl ?_
    refine wp_isub (pc' := 65) rfl rfl (by first | exact w32_id (by omega) (by omega) | rfl) ?_
    refine wp_icmp_ge (pc' := 68) (pt := 74) rfl rfl rfl (fun q_5 => ?_) (fun q_5 => ?_)
    · skip
      refine wp_iconst (a := -1) (pc' := 75) rfl rfl rfl ?_
      refine wp_ret rfl rfl rfl ?_
      refine ⟨congrArg (fun z => some (vI z)) ?_, rfl⟩
      unfold sBeside
      (repeat' split) <;> omega
    · skip
      refine wp_iload_n (pc' := 69) rfl rfl rfl ?_
      refine wp_iconst (a := 1) (pc' := 70) rfl rfl rfl ?_
      refine wp_iadd (pc' := 71) rfl rfl (by first | exact w32_id (by omega) (by omega) | rfl) ?_
      refine wp_goto (pc' := 75) rfl rfl ?_
      refine wp_ret rfl rfl rfl ?_
      refine ⟨congrArg (fun z => some (vI z)) ?_, rfl⟩
      unfold sBeside
      (repeat' split) <;> omega
  refine wp_swE (3) (pt := 76) rfl (by decide) rfl rfl (fun q_6 => ?_) (fun q_6 => ?_)
  · skip
    refine wp_iload_n (pc' := 77) rfl rfl rfl ?_
    refine wp_aload_n (pc' := 78) rfl rfl rfl (by decide) ?_
    refine wp_getI (ci := 10) (k0 := 11) (pc' := 81) rfl rfl (by decide) (by first | assumption | rfl) ?_
    refine wp_idiv (pc' := 82) rfl rfl (by omega) (by first | exact iDiv_pos (by omega) (by omega) (by omega) | rfl) ?_
    refine wp_aload_n (pc' := 83) rfl rfl rfl (by decide) ?_
    refine wp_getI (ci := 10) (k0 := 12) (pc' := 86) rfl rfl (by decide) (by first | assumption | rfl) ?_
    refine wp_iconst (a := 1) (pc' := 87) rfl rfl rfl ?_
    refine wp_isub (pc' := 88) rfl rfl (by first | exact w32_id (by omega) (by omega) | rfl) ?_
    refine wp_icmp_ge (pc' := 91) (pt := 100) rfl rfl rfl (fun q_7 => ?_) (fun q_7 => ?_)
    · skip
      refine wp_iconst (a := -1) (pc' := 101) rfl rfl rfl ?_
      refine wp_ret rfl rfl rfl ?_
      refine ⟨congrArg (fun z => some (vI z)) ?_, rfl⟩
      unfold sBeside
      (repeat' split) <;> omega
    · skip
      refine wp_iload_n (pc' := 92) rfl rfl rfl ?_
      refine wp_aload_n (pc' := 93) rfl rfl rfl (by decide) ?_
      refine wp_getI (ci := 10) (k0 := 11) (pc' := 96) rfl rfl (by decide) (by first | assumption | rfl) ?_
      refine wp_iadd (pc' := 97) rfl rfl (by first | exact w32_id (by omega) (by omega) | rfl) ?_
      refine wp_goto (pc' := 101) rfl rfl ?_
      refine wp_ret rfl rfl rfl ?_
      refine ⟨congrArg (fun z => some (vI z)) ?_, rfl⟩
      unfold sBeside
      (repeat' split) <;> omega
  refine wp_swOut (pc' := 102) rfl (by omega) rfl ?_
  refine wp_iload_n (pc' := 103) rfl rfl rfl ?_
  refine wp_aload_n (pc' := 104) rfl rfl rfl (by decide) ?_
  refine wp_getI (ci := 10) (k0 := 11) (pc' := 107) rfl rfl (by decide) (by first | assumption | rfl) ?_
  refine wp_irem (pc' := 108) rfl rfl (by omega) (by first | exact iRem_pos (by omega) (by omega) (by omega) | rfl) ?_
  refine wp_if_le (pc' := 111) (pt := 117) rfl rfl rfl (fun q_8 => ?_) (fun q_8 => ?_)
  · skip
    refine wp_iconst (a := -1) (pc' := 118) rfl rfl rfl ?_
    refine wp_ret rfl rfl rfl ?_
    refine ⟨congrArg (fun z => some (vI z)) ?_, rfl⟩
    unfold sBeside
    (repeat' split) <;> omega
  · skip
    refine wp_iload_n (pc' := 112) rfl rfl rfl ?_
    refine wp_iconst (a := 1) (pc' := 113) rfl rfl rfl ?_
    refine wp_isub (pc' := 114) rfl rfl (by first | exact w32_id (by omega) (by omega) | rfl) ?_
    refine wp_goto (pc' := 118) rfl rfl ?_
    refine wp_ret rfl rfl rfl ?_
    refine ⟨congrArg (fun z => some (vI z)) ?_, rfl⟩
    unfold sBeside
    (repeat' split) <;> omega
set_option maxRecDepth 20000 in
set_option maxHeartbeats 4000000 in
theorem c_Mod_gainBy {w : Hp} {d : Nat} {k h cell : Int} (hc : CL (w 100 11) (w 100 12)) (hx : Cel (w 100 11) (w 100 12) cell) (hh : Cel (w 100 11) (w 100 12) h) : WP SH (d + 2) 173 0 [some (vR 100), some (vI k), some (vI h), some (vI cell), none] [] w (fun v w' => v = some (vI (sG (w 100 11) k h cell)) ∧ w' = w) := by
  have hda := hx.dm hc
  have hdb := hh.dm hc
  have hff := sFar_in hc hx hh
  refine wp_aload_n (pc' := 1) rfl rfl rfl (by decide) ?_
  refine wp_iload_n (pc' := 2) rfl rfl rfl ?_
  refine wp_iload_n (pc' := 3) rfl rfl rfl ?_
  refine wp_call (pc' := 6) rfl rfl rfl rfl rfl ⟨Nat.le_of_ble_eq_true rfl, Nat.le_of_ble_eq_true rfl, Nat.le_of_ble_eq_true rfl, Nat.le_of_ble_eq_true rfl, Nat.le_of_ble_eq_true rfl⟩ rfl (c_Mod_far hc hh hx) ?_
  intro v1 w1 hq1
  rw [hq1.1, hq1.2]
  clear hq1 v1 w1
  rw [sFar_comm (w 100 11) h cell]
  obtain ⟨hc1, hc2, hc3, hc4⟩ := hc
  dsimp only [Option.toList, List.cons_append, List.nil_append, List.append_nil]
  refine wp_istore (pc' := 8) rfl rfl (Nat.le_of_ble_eq_true rfl) rfl ?_
  dsimp only [lset, lset2, List.set, List.getElem?_cons_zero, List.getElem?_cons_succ]
  refine wp_iload_n (pc' := 9) rfl rfl rfl ?_
  refine wp_swE (1) (pt := 44) rfl (by decide) rfl rfl (fun q_1 => ?_) (fun q_1 => ?_)
  · skip
    refine wp_iload (pc' := 46) rfl rfl rfl ?_
    refine wp_iload_n (pc' := 47) rfl rfl rfl ?_
    refine wp_aload_n (pc' := 48) rfl rfl rfl (by decide) ?_
    refine wp_getI (ci := 10) (k0 := 11) (pc' := 51) rfl rfl (by decide) (by first | assumption | rfl) ?_
    refine wp_idiv (pc' := 52) rfl rfl (by omega) (by first | exact iDiv_pos (by omega) (by omega) (by omega) | rfl) ?_
    refine wp_iload_n (pc' := 53) rfl rfl rfl ?_
    refine wp_aload_n (pc' := 54) rfl rfl rfl (by decide) ?_
    refine wp_getI (ci := 10) (k0 := 11) (pc' := 57) rfl rfl (by decide) (by first | assumption | rfl) ?_
    refine wp_idiv (pc' := 58) rfl rfl (by omega) (by first | exact iDiv_pos (by omega) (by omega) (by omega) | rfl) ?_
    refine wp_icmp_ge (pc' := 61) (pt := 65) rfl rfl rfl (fun q_2 => ?_) (fun q_2 => ?_)
    · skip
      refine wp_iconst (a := 0) (pc' := 66) rfl rfl rfl ?_
      refine wp_iadd (pc' := 67) rfl rfl (by first | exact w32_id (by omega) (by omega) | rfl) ?_
      refine wp_ret rfl rfl rfl ?_
      refine ⟨congrArg (fun z => some (vI z)) ?_, rfl⟩
      unfold sG sGainOf sNorth
      (repeat' split) <;> omega
    · skip
      refine wp_iconst (a := 3) (pc' := 62) rfl rfl rfl ?_
      refine wp_goto (pc' := 66) rfl rfl ?_
      refine wp_iadd (pc' := 67) rfl rfl (by first | exact w32_id (by omega) (by omega) | rfl) ?_
      refine wp_ret rfl rfl rfl ?_
      refine ⟨congrArg (fun z => some (vI z)) ?_, rfl⟩
      unfold sG sGainOf sNorth
      (repeat' split) <;> omega
  refine wp_swE (2) (pt := 68) rfl (by decide) rfl rfl (fun q_3 => ?_) (fun q_3 => ?_)
  · skip
    refine wp_bipush (a := 9) (pc' := 70) rfl rfl rfl ?_
    refine wp_iload (pc' := 72) rfl rfl rfl ?_
    refine wp_isub (pc' := 73) rfl rfl (by first | exact w32_id (by omega) (by omega) | rfl) ?_
    refine wp_ret rfl rfl rfl ?_
    refine ⟨congrArg (fun z => some (vI z)) ?_, rfl⟩
    unfold sG sGainOf sNorth
    (repeat' split) <;> omega
  refine wp_swE (3) (pt := 74) rfl (by decide) rfl rfl (fun q_4 => ?_) (fun q_4 => ?_)
  · skip
    refine wp_iconst (a := 0) (pc' := 75) rfl rfl rfl ?_
    refine wp_ret rfl rfl rfl ?_
    refine ⟨congrArg (fun z => some (vI z)) ?_, rfl⟩
    unfold sG sGainOf sNorth
    (repeat' split) <;> omega
  refine wp_swE (4) (pt := 76) rfl (by decide) rfl rfl (fun q_5 => ?_) (fun q_5 => ?_)
  · skip
    refine wp_iload (pc' := 78) rfl rfl rfl ?_
    refine wp_if_ne (pc' := 81) (pt := 85) rfl rfl rfl (fun q_6 => ?_) (fun q_6 => ?_)
    · skip
      refine wp_iconst (a := 2) (pc' := 86) rfl rfl rfl ?_
      refine wp_bipush (a := 9) (pc' := 88) rfl rfl rfl ?_
      refine wp_iload (pc' := 90) rfl rfl rfl ?_
      refine wp_isub (pc' := 91) rfl rfl (by first | exact w32_id (by omega) (by omega) | rfl) ?_
      refine wp_imul (pc' := 92) rfl rfl (by first | exact w32_id (by omega) (by omega) | rfl) ?_
      refine wp_ret rfl rfl rfl ?_
      refine ⟨congrArg (fun z => some (vI z)) ?_, rfl⟩
      unfold sG sGainOf sNorth
      (repeat' split) <;> omega
    · skip
      refine wp_iconst (a := 0) (pc' := 82) rfl rfl rfl ?_
      refine wp_goto (pc' := 92) rfl rfl ?_
      refine wp_ret rfl rfl rfl ?_
      refine ⟨congrArg (fun z => some (vI z)) ?_, rfl⟩
      unfold sG sGainOf sNorth
      (repeat' split) <;> omega
  refine wp_swE (5) (pt := 93) rfl (by decide) rfl rfl (fun q_7 => ?_) (fun q_7 => ?_)
  · skip
    refine wp_iload (pc' := 95) rfl rfl rfl ?_
    refine wp_iconst (a := 1) (pc' := 96) rfl rfl rfl ?_
    refine wp_icmp_ne (pc' := 99) (pt := 103) rfl rfl rfl (fun q_8 => ?_) (fun q_8 => ?_)
    · skip
      refine wp_iconst (a := 0) (pc' := 104) rfl rfl rfl ?_
      refine wp_ret rfl rfl rfl ?_
      refine ⟨congrArg (fun z => some (vI z)) ?_, rfl⟩
      unfold sG sGainOf sNorth
      (repeat' split) <;> omega
    · skip
      refine wp_iconst (a := 5) (pc' := 100) rfl rfl rfl ?_
      refine wp_goto (pc' := 104) rfl rfl ?_
      refine wp_ret rfl rfl rfl ?_
      refine ⟨congrArg (fun z => some (vI z)) ?_, rfl⟩
      unfold sG sGainOf sNorth
      (repeat' split) <;> omega
  refine wp_swOut (pc' := 105) rfl (by omega) rfl ?_
  refine wp_iload (pc' := 107) rfl rfl rfl ?_
  refine wp_ret rfl rfl rfl ?_
  refine ⟨congrArg (fun z => some (vI z)) ?_, rfl⟩
  unfold sG sGainOf sNorth
  (repeat' split) <;> omega
set_option maxRecDepth 20000 in
set_option maxHeartbeats 4000000 in
theorem c_Mod_gainOn {w : Hp} {d : Nat} {i cell : Int} (hc : CL (w 100 11) (w 100 12)) (hi : 0 ≤ i ∧ i < 6) (hT : Stc w) (hx : Cel (w 100 11) (w 100 12) cell) (hh : Cel (w 100 11) (w 100 12) (w 109 (3 + i))) : WP SH (d + 3) 174 0 [some (vR 100), some (vI i), some (vI cell)] [] w (fun v w' => v = some (vI (sG (w 100 11) (w 107 i) (w 109 (3 + i)) cell)) ∧ w' = w) := by
  refine wp_aload_n (pc' := 1) rfl rfl rfl (by decide) ?_
  refine wp_aload_n (pc' := 2) rfl rfl rfl (by decide) ?_
  refine wp_getR (r' := 107) (ci := 10) (k0 := 13) (pc' := 5) rfl rfl (by decide) (by first | assumption | rfl) (hT.get 105 rfl) ?_
  refine wp_iload_n (pc' := 6) rfl rfl rfl ?_
  refine wp_iaload (pc' := 7) rfl rfl (by first | assumption | rfl) (by omega) ?_
  refine wp_aload_n (pc' := 8) rfl rfl rfl (by decide) ?_
  refine wp_getR (r' := 109) (ci := 10) (k0 := 15) (pc' := 11) rfl rfl (by decide) (by first | assumption | rfl) (hT.get 107 rfl) ?_
  refine wp_iconst (a := 3) (pc' := 12) rfl rfl rfl ?_
  refine wp_iload_n (pc' := 13) rfl rfl rfl ?_
  refine wp_iadd (pc' := 14) rfl rfl (by first | exact w32_id (by omega) (by omega) | rfl) ?_
  refine wp_iaload (pc' := 15) rfl rfl (by first | assumption | rfl) (by omega) ?_
  refine wp_iload_n (pc' := 16) rfl rfl rfl ?_
  refine wp_call (pc' := 19) rfl rfl rfl rfl rfl ⟨Nat.le_of_ble_eq_true rfl, Nat.le_of_ble_eq_true rfl, Nat.le_of_ble_eq_true rfl, Nat.le_of_ble_eq_true rfl, Nat.le_of_ble_eq_true rfl⟩ rfl (c_Mod_gainBy hc hx hh) ?_
  intro v1 w1 hq1
  rw [hq1.1, hq1.2]
  clear hq1 v1 w1
  dsimp only [Option.toList, List.cons_append, List.nil_append, List.append_nil]
  refine wp_ret rfl rfl rfl ?_
  exact ⟨rfl, rfl⟩
end
section
/-! who can go where, what one votes for -/
/-- the static arrays -/
def ROw (w : Hp) : Prop := (w (-3) (-1) = 6 ∧ w (-3) 0 = 102 ∧ w (-3) 1 = 118 ∧ w (-3) 2 = 119 ∧ w (-3) 3 = 103 ∧ w (-3) 4 = 109 ∧ w (-3) 5 = 104) ∧ (w (-4) (-1) = 6 ∧ w (-4) 0 = 0 ∧ w (-4) 1 = 0 ∧ w (-4) 2 = 0 ∧ w (-4) 3 = 0 ∧ w (-4) 4 = 2 ∧ w (-4) 5 = 3) ∧ (w (-5) (-1) = 5 ∧ w (-5) 0 = 0 ∧ w (-5) 1 = 3 ∧ w (-5) 2 = 4 ∧ w (-5) 3 = 1 ∧ w (-5) 4 = 2)
def sAgainst (way : Int) : Int := if way = 0 then 0 else if 2 < way then way - 2 else way + 2
theorem ro5 {w : Hp} (h : ROw w) {i : Int} (hi : 0 ≤ i ∧ i ≤ 4) : w (-5) i = sAgainst i := by
  obtain ⟨-, -, h0, h1, h2, h3, h4, h5⟩ := h
  have : i = 0 ∨ i = 1 ∨ i = 2 ∨ i = 3 ∨ i = 4 := by omega
  rcases this with rfl | rfl | rfl | rfl | rfl <;> assumption
def sWider (k : Int) : Int := if k = 4 then 2 else if k = 5 then 3 else 0
theorem ro4 {w : Hp} (h : ROw w) {i : Int} (hi : 0 ≤ i ∧ i ≤ 5) : w (-4) i = sWider i := by
  obtain ⟨-, ⟨h0, h1, h2, h3, h4, h5, h6⟩, -⟩ := h
  have : i = 0 ∨ i = 1 ∨ i = 2 ∨ i = 3 ∨ i = 4 ∨ i = 5 := by omega
  rcases this with rfl | rfl | rfl | rfl | rfl | rfl <;> assumption
theorem beside_cel {c l cell way : Int} (hc : CL c l) (hx : Cel c l cell) (h : sBeside c l cell way ≠ -1) : Cel c l (sBeside c l cell way) := by
  obtain ⟨c1, c2, c3, c4⟩ := hc
  obtain ⟨h1, h2⟩ := hx
  have : c = 3 ∨ c = 4 ∨ c = 5 := by omega
  unfold sBeside at h ⊢
  unfold Cel
  rcases this with rfl | rfl | rfl <;> constructor <;> (repeat' split at h) <;> (repeat' split) <;> omega
theorem beside_ge {c l cell way : Int} (hc : CL c l) (hx : Cel c l cell) : -1 ≤ sBeside c l cell way ∧ sBeside c l cell way < 25 := by
  by_cases h : sBeside c l cell way = -1
  · omega
  · have := (beside_cel hc hx h).dm hc
    omega
/-- a way that can be voted for -/
def sCan (c l cell back way : Int) : Prop := way = 0 ∨ (way ≠ back ∧ sBeside c l cell way ≠ -1)
/-- behind ways 1 .. m: the best one, whether all gain alike -/
def vSt (c l k h cell back : Int) : Nat → Int × Int
  | 0 => (0, 1)
  | m + 1 => if ((m : Int) + 1 ≠ back ∧ sBeside c l cell ((m : Int) + 1) ≠ -1) then
      (if sG c k h (sBeside c l cell (vSt c l k h cell back m).1) < sG c k h (sBeside c l cell ((m : Int) + 1)) then (m : Int) + 1 else (vSt c l k h cell back m).1,
        if (vSt c l k h cell back m).2 = 1 ∧ sG c k h (sBeside c l cell ((m : Int) + 1)) = sG c k h cell then 1 else 0) else vSt c l k h cell back m
def sVote (c l k h cell back : Int) : Int := if (vSt c l k h cell back 4).2 = 1 ∧ (k = 3 ∨ k = 5) then -9 else (vSt c l k h cell back 4).1
theorem beside0 (c l cell : Int) : sBeside c l cell 0 = cell := by unfold sBeside; rw [if_pos rfl]
theorem vSt_ok {c l k h cell back : Int} (hc : CL c l) (hx : Cel c l cell) : ∀ m : Nat, 0 ≤ (vSt c l k h cell back m).1 ∧ (vSt c l k h cell back m).1 ≤ m ∧ sBeside c l cell (vSt c l k h cell back m).1 ≠ -1 ∧ ((vSt c l k h cell back m).2 = 0 ∨ (vSt c l k h cell back m).2 = 1) := by
  intro m
  induction m with
  | zero =>
    refine ⟨by simp [vSt], by simp [vSt], ?_, by simp [vSt]⟩
    show sBeside c l cell 0 ≠ -1
    rw [beside0]
    have := hx.1
    omega
  | succ m ih =>
    obtain ⟨i1, i2, i3, i4⟩ := ih
    unfold vSt
    split
    · rename_i hcan
      refine ⟨?_, ?_, ?_, ?_⟩
      · dsimp only; split <;> omega
      · dsimp only; split <;> omega
      · dsimp only; split
        · exact hcan.2
        · exact i3
      · dsimp only; split <;> omega
    · exact ⟨i1, by omega, i3, i4⟩
theorem sVote_in {c l k h cell back : Int} (hc : CL c l) (hx : Cel c l cell) : sVote c l k h cell back = -9 ∨ (0 ≤ sVote c l k h cell back ∧ sVote c l k h cell back ≤ 4 ∧ sBeside c l cell (sVote c l k h cell back) ≠ -1) := by
  have h4 := vSt_ok (k := k) (h := h) (back := back) hc hx 4
  unfold sVote
  split
  · exact Or.inl rfl
  · exact Or.inr ⟨h4.1, h4.2.1, h4.2.2.1⟩
set_option maxRecDepth 20000 in
set_option maxHeartbeats 4000000 in
theorem c_Land_canGo {w : Hp} {d : Nat} {cell back way : Int} (hc : CL (w 3 0) (w 3 1)) (hx : Cel (w 3 0) (w 3 1) cell) : WP SH (d + 1) 32 0 [some (vR 3), some (vI cell), some (vI back), some (vI way)] [] w (fun v w' => w' = w ∧ ((v = some (vI 1) ∧ (way = 0 ∨ (way ≠ back ∧ sBeside (w 3 0) (w 3 1) cell way ≠ -1))) ∨ (v = some (vI 0) ∧ ¬ (way = 0 ∨ (way ≠ back ∧ sBeside (w 3 0) (w 3 1) cell way ≠ -1))))) := by
  refine wp_iload_n (pc' := 1) rfl rfl rfl ?_
  refine wp_if_eq (pc' := 4) (pt := 19) rfl rfl rfl (fun q_1 => ?_) (fun q_1 => ?_)
  · skip
    refine wp_iconst (a := 1) (pc' := 20) rfl rfl rfl ?_
    refine wp_goto (pc' := 24) rfl rfl ?_
    refine wp_ret rfl rfl rfl ?_
    first | exact ⟨rfl, Or.inl ⟨rfl, by omega⟩⟩ | exact ⟨rfl, Or.inr ⟨rfl, by omega⟩⟩ | (exfalso; omega)
  · skip
    refine wp_iload_n (pc' := 5) rfl rfl rfl ?_
    refine wp_iload_n (pc' := 6) rfl rfl rfl ?_
    refine wp_icmp_eq (pc' := 9) (pt := 23) rfl rfl rfl (fun q_2 => ?_) (fun q_2 => ?_)
    · skip
      refine wp_iconst (a := 0) (pc' := 24) rfl rfl rfl ?_
      refine wp_ret rfl rfl rfl ?_
      first | exact ⟨rfl, Or.inl ⟨rfl, by omega⟩⟩ | exact ⟨rfl, Or.inr ⟨rfl, by omega⟩⟩ | (exfalso; omega)
    · skip
      refine wp_aload_n (pc' := 10) rfl rfl rfl (by decide) ?_
      refine wp_iload_n (pc' := 11) rfl rfl rfl ?_
      refine wp_iload_n (pc' := 12) rfl rfl rfl ?_
      refine wp_call (pc' := 15) rfl rfl rfl rfl rfl ⟨Nat.le_of_ble_eq_true rfl, Nat.le_of_ble_eq_true rfl, Nat.le_of_ble_eq_true rfl, Nat.le_of_ble_eq_true rfl, Nat.le_of_ble_eq_true rfl⟩ rfl (c_Land_beside hc hx) ?_
      intro v1 w1 hq1
      rw [hq1.1, hq1.2]
      clear hq1 v1 w1
      dsimp only [Option.toList, List.cons_append, List.nil_append, List.append_nil]
      refine wp_iconst (a := -1) (pc' := 16) rfl rfl rfl ?_
      refine wp_icmp_eq (pc' := 19) (pt := 23) rfl rfl rfl (fun q_3 => ?_) (fun q_3 => ?_)
      · skip
        refine wp_iconst (a := 0) (pc' := 24) rfl rfl rfl ?_
        refine wp_ret rfl rfl rfl ?_
        first | exact ⟨rfl, Or.inl ⟨rfl, by omega⟩⟩ | exact ⟨rfl, Or.inr ⟨rfl, by omega⟩⟩ | (exfalso; omega)
      · skip
        refine wp_iconst (a := 1) (pc' := 20) rfl rfl rfl ?_
        refine wp_goto (pc' := 24) rfl rfl ?_
        refine wp_ret rfl rfl rfl ?_
        first | exact ⟨rfl, Or.inl ⟨rfl, by omega⟩⟩ | exact ⟨rfl, Or.inr ⟨rfl, by omega⟩⟩ | (exfalso; omega)
set_option maxRecDepth 20000 in
set_option maxHeartbeats 4000000 in
theorem c_Land_against {w : Hp} {d : Nat} {way : Int} (hr : ROw w) (hw : 0 ≤ way ∧ way ≤ 4) : WP SH (d + 0) 33 0 [some (vI way)] [] w (fun v w' => v = some (vI (sAgainst way)) ∧ w' = w) := by
  have h5 := hr.2.2.1
  refine wp_iload_n (pc' := 1) rfl rfl rfl ?_
  refine wp_if_lt (pc' := 4) (pt := 9) rfl rfl rfl (fun q_1 => ?_) (fun q_1 => ?_)
  · skip
    refine wp_iconst (a := 0) (pc' := 10) rfl rfl rfl ?_
    refine wp_goto (pc' := 18) rfl rfl ?_
    refine wp_ret rfl rfl rfl ?_
    first | exact ⟨by rw [ro5 hr hw], rfl⟩ | (exfalso; omega)
  · skip
    refine wp_iload_n (pc' := 5) rfl rfl rfl ?_
    refine wp_iconst (a := 5) (pc' := 6) rfl rfl rfl ?_
    refine wp_icmp_lt (pc' := 9) (pt := 13) rfl rfl rfl (fun q_2 => ?_) (fun q_2 => ?_)
    · skip
      refine wp_getstatic (pc' := 16) rfl rfl ?_
      refine wp_iload_n (pc' := 17) rfl rfl rfl ?_
      refine wp_ialoadO (pc' := 18) rfl rfl (by decide) rfl (by omega) ?_
      refine wp_ret rfl rfl rfl ?_
      first | exact ⟨by rw [ro5 hr hw], rfl⟩ | (exfalso; omega)
    · skip
      refine wp_iconst (a := 0) (pc' := 10) rfl rfl rfl ?_
      refine wp_goto (pc' := 18) rfl rfl ?_
      refine wp_ret rfl rfl rfl ?_
      first | exact ⟨by rw [ro5 hr hw], rfl⟩ | (exfalso; omega)
set_option maxRecDepth 20000 in
set_option maxHeartbeats 4000000 in
theorem c_Land_isOf {w : Hp} {d : Nat} {i wanted : Int} (hr : ROw w) (hT : Stc w) (hi : 0 ≤ i ∧ i < 6) (hk : 0 ≤ w 4 i ∧ w 4 i ≤ 5) : WP SH (d + 0) 34 0 [some (vR 3), some (vI i), some (vI wanted)] [] w (fun v w' => w' = w ∧ ((v = some (vI 1) ∧ (w 4 i = wanted ∨ sWider (w 4 i) = wanted)) ∨ (v = some (vI 0) ∧ ¬ (w 4 i = wanted ∨ sWider (w 4 i) = wanted)))) := by
  have h5 := hr.2.1.1
  have h6 := ro4 hr hk
  refine wp_aload_n (pc' := 1) rfl rfl rfl (by decide) ?_
  refine wp_getR (r' := 4) (ci := 3) (k0 := 7) (pc' := 4) rfl rfl (by decide) (by first | assumption | rfl) (hT.get 23 rfl) ?_
  refine wp_iload_n (pc' := 5) rfl rfl rfl ?_
  refine wp_iaload (pc' := 6) rfl rfl (by first | assumption | rfl) (by omega) ?_
  refine wp_iload_n (pc' := 7) rfl rfl rfl ?_
  refine wp_icmp_eq (pc' := 10) (pt := 24) rfl rfl rfl (fun q_1 => ?_) (fun q_1 => ?_)
  · skip
    refine wp_iconst (a := 1) (pc' := 25) rfl rfl rfl ?_
    refine wp_goto (pc' := 29) rfl rfl ?_
    refine wp_ret rfl rfl rfl ?_
    first | exact ⟨rfl, Or.inl ⟨rfl, by omega⟩⟩ | exact ⟨rfl, Or.inr ⟨rfl, by omega⟩⟩ | (exfalso; omega)
  · skip
    refine wp_getstatic (pc' := 13) rfl rfl ?_
    refine wp_aload_n (pc' := 14) rfl rfl rfl (by decide) ?_
    refine wp_getR (r' := 4) (ci := 3) (k0 := 7) (pc' := 17) rfl rfl (by decide) (by first | assumption | rfl) (hT.get 23 rfl) ?_
    refine wp_iload_n (pc' := 18) rfl rfl rfl ?_
    refine wp_iaload (pc' := 19) rfl rfl (by first | assumption | rfl) (by omega) ?_
    refine wp_ialoadO (pc' := 20) rfl rfl (by decide) rfl (by omega) ?_
    refine wp_iload_n (pc' := 21) rfl rfl rfl ?_
    refine wp_icmp_ne (pc' := 24) (pt := 28) rfl rfl rfl (fun q_2 => ?_) (fun q_2 => ?_)
    · skip
      refine wp_iconst (a := 0) (pc' := 29) rfl rfl rfl ?_
      refine wp_ret rfl rfl rfl ?_
      first | exact ⟨rfl, Or.inl ⟨rfl, by omega⟩⟩ | exact ⟨rfl, Or.inr ⟨rfl, by omega⟩⟩ | (exfalso; omega)
    · skip
      refine wp_iconst (a := 1) (pc' := 25) rfl rfl rfl ?_
      refine wp_goto (pc' := 29) rfl rfl ?_
      refine wp_ret rfl rfl rfl ?_
      first | exact ⟨rfl, Or.inl ⟨rfl, by omega⟩⟩ | exact ⟨rfl, Or.inr ⟨rfl, by omega⟩⟩ | (exfalso; omega)
set_option maxRecDepth 20000 in
set_option maxHeartbeats 4000000 in
theorem c_Mod_against {w : Hp} {d : Nat} {way : Int} (hw : 0 ≤ way ∧ way ≤ 4) : WP SH (d + 0) 172 0 [some (vI way)] [] w (fun v w' => v = some (vI (sAgainst way)) ∧ w' = w) := by
  refine wp_iload_n (pc' := 1) rfl rfl rfl ?_
  refine wp_if_ne (pc' := 4) (pt := 8) rfl rfl rfl (fun q_1 => ?_) (fun q_1 => ?_)
  · skip
    refine wp_iload_n (pc' := 9) rfl rfl rfl ?_
    refine wp_iconst (a := 2) (pc' := 10) rfl rfl rfl ?_
    refine wp_icmp_le (pc' := 13) (pt := 19) rfl rfl rfl (fun q_2 => ?_) (fun q_2 => ?_)
    · skip
      refine wp_iload_n (pc' := 20) rfl rfl rfl ?_
      refine wp_iconst (a := 2) (pc' := 21) rfl rfl rfl ?_
      refine wp_iadd (pc' := 22) rfl rfl (by first | exact w32_id (by omega) (by omega) | rfl) ?_
      refine wp_ret rfl rfl rfl ?_
      refine ⟨congrArg (fun z => some (vI z)) ?_, rfl⟩
      unfold sAgainst
      (repeat' split) <;> omega
    · skip
      refine wp_iload_n (pc' := 14) rfl rfl rfl ?_
      refine wp_iconst (a := 2) (pc' := 15) rfl rfl rfl ?_
      refine wp_isub (pc' := 16) rfl rfl (by first | exact w32_id (by omega) (by omega) | rfl) ?_
      refine wp_goto (pc' := 22) rfl rfl ?_
      refine wp_ret rfl rfl rfl ?_
      refine ⟨congrArg (fun z => some (vI z)) ?_, rfl⟩
      unfold sAgainst
      (repeat' split) <;> omega
  · skip
    refine wp_iconst (a := 0) (pc' := 5) rfl rfl rfl ?_
    refine wp_goto (pc' := 22) rfl rfl ?_
    refine wp_ret rfl rfl rfl ?_
    refine ⟨congrArg (fun z => some (vI z)) ?_, rfl⟩
    unfold sAgainst
    (repeat' split) <;> omega
set_option maxRecDepth 20000 in
set_option maxHeartbeats 4000000 in
theorem c_Mod_canBe {w : Hp} {d : Nat} {cell back way : Int} (hc : CL (w 100 11) (w 100 12)) (hw : 0 ≤ way ∧ way ≤ 4) (hx : Cel (w 100 11) (w 100 12) cell) : WP SH (d + 1) 176 0 [some (vR 100), some (vI cell), some (vI back), some (vI way)] [] w (fun v w' => w' = w ∧ ((v = some (vI 1) ∧ (way = 0 ∨ (way ≠ back ∧ sBeside (w 100 11) (w 100 12) cell way ≠ -1))) ∨ (v = some (vI 0) ∧ ¬ (way = 0 ∨ (way ≠ back ∧ sBeside (w 100 11) (w 100 12) cell way ≠ -1))))) := by
  have hge := @beside_ge _ _ cell way hc hx
  have hb0 := beside0 (w 100 11) (w 100 12) cell
  have hx0 := hx.1
  have hb1 : way = 0 → sBeside (w 100 11) (w 100 12) cell way = cell := fun z => by rw [z]; exact hb0
  refine wp_aload_n (pc' := 1) rfl rfl rfl (by decide) ?_
  refine wp_iload_n (pc' := 2) rfl rfl rfl ?_
  refine wp_iload_n (pc' := 3) rfl rfl rfl ?_
  refine wp_call (pc' := 6) rfl rfl rfl rfl rfl ⟨Nat.le_of_ble_eq_true rfl, Nat.le_of_ble_eq_true rfl, Nat.le_of_ble_eq_true rfl, Nat.le_of_ble_eq_true rfl, Nat.le_of_ble_eq_true rfl⟩ rfl (c_Mod_beside hc hw hx) ?_
  intro v1 w1 hq1
  rw [hq1.1, hq1.2]
  clear hq1 v1 w1
  dsimp only [Option.toList, List.cons_append, List.nil_append, List.append_nil]
  refine wp_if_lt (pc' := 9) (pt := 22) rfl rfl rfl (fun q_1 => ?_) (fun q_1 => ?_)
  · skip
    refine wp_iconst (a := 0) (pc' := 23) rfl rfl rfl ?_
    refine wp_ret rfl rfl rfl ?_
    first | exact ⟨rfl, Or.inl ⟨rfl, by omega⟩⟩ | exact ⟨rfl, Or.inr ⟨rfl, by omega⟩⟩ | (exfalso; omega)
  · skip
    refine wp_iload_n (pc' := 10) rfl rfl rfl ?_
    refine wp_if_eq (pc' := 13) (pt := 18) rfl rfl rfl (fun q_2 => ?_) (fun q_2 => ?_)
    · skip
      refine wp_iconst (a := 1) (pc' := 19) rfl rfl rfl ?_
      refine wp_goto (pc' := 23) rfl rfl ?_
      refine wp_ret rfl rfl rfl ?_
      first | exact ⟨rfl, Or.inl ⟨rfl, by omega⟩⟩ | exact ⟨rfl, Or.inr ⟨rfl, by omega⟩⟩ | (exfalso; omega)
    · skip
      refine wp_iload_n (pc' := 14) rfl rfl rfl ?_
      refine wp_iload_n (pc' := 15) rfl rfl rfl ?_
      refine wp_icmp_eq (pc' := 18) (pt := 22) rfl rfl rfl (fun q_3 => ?_) (fun q_3 => ?_)
      · skip
        refine wp_iconst (a := 0) (pc' := 23) rfl rfl rfl ?_
        refine wp_ret rfl rfl rfl ?_
        first | exact ⟨rfl, Or.inl ⟨rfl, by omega⟩⟩ | exact ⟨rfl, Or.inr ⟨rfl, by omega⟩⟩ | (exfalso; omega)
      · skip
        refine wp_iconst (a := 1) (pc' := 19) rfl rfl rfl ?_
        refine wp_goto (pc' := 23) rfl rfl ?_
        refine wp_ret rfl rfl rfl ?_
        first | exact ⟨rfl, Or.inl ⟨rfl, by omega⟩⟩ | exact ⟨rfl, Or.inr ⟨rfl, by omega⟩⟩ | (exfalso; omega)
end
section
/-! votes -/
theorem vSt_can {c l k h cell back : Int} {m : Nat} {b a : Int} (hba : (b, a) = vSt c l k h cell back m) (hcan : (m : Int) + 1 ≠ back ∧ sBeside c l cell ((m : Int) + 1) ≠ -1) : vSt c l k h cell back (m + 1) = (if sG c k h (sBeside c l cell b) < sG c k h (sBeside c l cell ((m : Int) + 1)) then (m : Int) + 1 else b, if a = 1 ∧ sG c k h (sBeside c l cell ((m : Int) + 1)) = sG c k h cell then 1 else 0) := by
  rw [vSt, if_pos hcan, ← hba]
theorem vSt_not {c l k h cell back : Int} {m : Nat} {b a : Int} (hba : (b, a) = vSt c l k h cell back m) (hcan : ¬ ((m : Int) + 1 ≠ back ∧ sBeside c l cell ((m : Int) + 1) ≠ -1)) : vSt c l k h cell back (m + 1) = (b, a) := by
  rw [vSt, if_neg hcan, ← hba]
set_option maxRecDepth 20000 in
set_option maxHeartbeats 4000000 in
theorem l_choiceOf {w : Hp} {d : Nat} {i cell back : Int} (hc : CL (w 3 0) (w 3 1)) (hr : ROw w) (hT : Stc w) (hi : 0 ≤ i ∧ i < 6) (hk : 0 ≤ w 4 i ∧ w 4 i ≤ 5) (hx : Cel (w 3 0) (w 3 1) cell) (hh : Cel (w 3 0) (w 3 1) (w 5 i)) : ∀ (k m : Nat) (b a mo way : Int) (x9 : Option PV), m + k = 4 → (b, a) = vSt (w 3 0) (w 3 1) (w 4 i) (w 5 i) cell back m → mo = sG (w 3 0) (w 4 i) (w 5 i) (sBeside (w 3 0) (w 3 1) cell b) → way = (m : Int) + 1 → WP SH (d + 3) 3 21 [some (vR 3), some (vI i), some (vI cell), some (vI back), some (vI (sG (w 3 0) (w 4 i) (w 5 i) cell)), some (vI mo), some (vI b), some (vI a), some (vI way), x9] [] w (fun v w' => v = some (vI (sVote (w 3 0) (w 3 1) (w 4 i) (w 5 i) cell back)) ∧ w' = w) := by
  intro k
  induction k with
  | zero =>
    intro m b a mo way x9 hmk hba hmo hway
    have hok := @vSt_ok _ _ (w 4 i) (w 5 i) cell back hc hx m
    rw [← hba] at hok
    dsimp only at hok
    have hcd := hx.dm hc
    refine wp_iload (pc' := 23) rfl rfl rfl ?_
    refine wp_iconst (a := 4) (pc' := 24) rfl rfl rfl ?_
    refine wp_icmp_gt (pc' := 27) (pt := 95) rfl rfl rfl (fun q_1 => ?_) (fun q_1 => ?_)
    · skip
      refine wp_iload (pc' := 97) rfl rfl rfl ?_
      refine wp_if_eq (pc' := 100) (pt := 114) rfl rfl rfl (fun q_2 => ?_) (fun q_2 => ?_)
      · skip
        refine wp_iload (pc' := 116) rfl rfl rfl ?_
        refine wp_ret rfl rfl rfl ?_
        refine ⟨congrArg (fun z => some (vI z)) ?_, rfl⟩
        obtain rfl : m = 4 := by omega
        unfold sVote
        rw [← hba]
        dsimp only
        try unfold sWider at *
        (repeat' split at *) <;> (repeat' split) <;> omega
      · skip
        refine wp_aload_n (pc' := 101) rfl rfl rfl (by decide) ?_
        refine wp_iload_n (pc' := 102) rfl rfl rfl ?_
        refine wp_iconst (a := 3) (pc' := 103) rfl rfl rfl ?_
        refine wp_call (pc' := 106) rfl rfl rfl rfl rfl ⟨Nat.le_of_ble_eq_true rfl, Nat.le_of_ble_eq_true rfl, Nat.le_of_ble_eq_true rfl, Nat.le_of_ble_eq_true rfl, Nat.le_of_ble_eq_true rfl⟩ rfl (c_Land_isOf hr hT hi hk) ?_
        rintro v1 w1 ⟨hw1, ⟨hv1, hb1⟩ | ⟨hv1, hb1⟩⟩
        · skip
          rw [hv1, hw1]
          clear hv1 hw1 v1 w1
          dsimp only [Option.toList, List.cons_append, List.nil_append, List.append_nil]
          refine wp_if_eq (pc' := 109) (pt := 114) rfl rfl rfl (fun q_3 => absurd q_3 (by decide)) (fun q_3 => ?_)
          refine wp_bipush (a := -9) (pc' := 111) rfl rfl rfl ?_
          refine wp_goto (pc' := 116) rfl rfl ?_
          refine wp_ret rfl rfl rfl ?_
          refine ⟨congrArg (fun z => some (vI z)) ?_, rfl⟩
          obtain rfl : m = 4 := by omega
          unfold sVote
          rw [← hba]
          dsimp only
          try unfold sWider at *
          (repeat' split at *) <;> (repeat' split) <;> omega
        · skip
          rw [hv1, hw1]
          clear hv1 hw1 v1 w1
          dsimp only [Option.toList, List.cons_append, List.nil_append, List.append_nil]
          refine wp_if_eq (pc' := 109) (pt := 114) rfl rfl rfl (fun q_4 => ?_) (fun q_4 => absurd (by decide) q_4)
          refine wp_iload (pc' := 116) rfl rfl rfl ?_
          refine wp_ret rfl rfl rfl ?_
          refine ⟨congrArg (fun z => some (vI z)) ?_, rfl⟩
          obtain rfl : m = 4 := by omega
          unfold sVote
          rw [← hba]
          dsimp only
          try unfold sWider at *
          (repeat' split at *) <;> (repeat' split) <;> omega
    · skip
      exfalso; omega
  | succ k ih =>
    intro m b a mo way x9 hmk hba hmo hway
    have hok := @vSt_ok _ _ (w 4 i) (w 5 i) cell back hc hx m
    rw [← hba] at hok
    dsimp only at hok
    have hcd := hx.dm hc
    refine wp_iload (pc' := 23) rfl rfl rfl ?_
    refine wp_iconst (a := 4) (pc' := 24) rfl rfl rfl ?_
    refine wp_icmp_gt (pc' := 27) (pt := 95) rfl rfl rfl (fun q_1 => ?_) (fun q_1 => ?_)
    · skip
      exfalso; omega
    · skip
      refine wp_aload_n (pc' := 28) rfl rfl rfl (by decide) ?_
      refine wp_iload_n (pc' := 29) rfl rfl rfl ?_
      refine wp_iload_n (pc' := 30) rfl rfl rfl ?_
      refine wp_iload (pc' := 32) rfl rfl rfl ?_
      refine wp_call (pc' := 35) rfl rfl rfl rfl rfl ⟨Nat.le_of_ble_eq_true rfl, Nat.le_of_ble_eq_true rfl, Nat.le_of_ble_eq_true rfl, Nat.le_of_ble_eq_true rfl, Nat.le_of_ble_eq_true rfl⟩ rfl (c_Land_canGo hc hx) ?_
      rintro v1 w1 ⟨hw1, ⟨hv1, hb1⟩ | ⟨hv1, hb1⟩⟩
      · skip
        rw [hv1, hw1]
        clear hv1 hw1 v1 w1
        dsimp only [Option.toList, List.cons_append, List.nil_append, List.append_nil]
        refine wp_if_ne (pc' := 38) (pt := 41) rfl rfl rfl (fun q_2 => ?_) (fun q_2 => absurd (by decide) q_2)
        refine wp_aload_n (pc' := 42) rfl rfl rfl (by decide) ?_
        refine wp_iload_n (pc' := 43) rfl rfl rfl ?_
        refine wp_aload_n (pc' := 44) rfl rfl rfl (by decide) ?_
        refine wp_iload_n (pc' := 45) rfl rfl rfl ?_
        refine wp_iload (pc' := 47) rfl rfl rfl ?_
        refine wp_call (pc' := 50) rfl rfl rfl rfl rfl ⟨Nat.le_of_ble_eq_true rfl, Nat.le_of_ble_eq_true rfl, Nat.le_of_ble_eq_true rfl, Nat.le_of_ble_eq_true rfl, Nat.le_of_ble_eq_true rfl⟩ rfl (c_Land_beside hc hx) ?_
        intro v1 w1 hq1
        rw [hq1.1, hq1.2]
        clear hq1 v1 w1
        dsimp only [Option.toList, List.cons_append, List.nil_append, List.append_nil]
        refine wp_call (pc' := 53) rfl rfl rfl rfl rfl ⟨Nat.le_of_ble_eq_true rfl, Nat.le_of_ble_eq_true rfl, Nat.le_of_ble_eq_true rfl, Nat.le_of_ble_eq_true rfl, Nat.le_of_ble_eq_true rfl⟩ rfl (c_Land_gains hc hi hT (by first | exact hx | exact beside_cel hc hx (by omega)) hh) ?_
        intro v1 w1 hq1
        rw [hq1.1, hq1.2]
        clear hq1 v1 w1
        dsimp only [Option.toList, List.cons_append, List.nil_append, List.append_nil]
        refine wp_istore (pc' := 55) rfl rfl (Nat.le_of_ble_eq_true rfl) rfl ?_
        dsimp only [lset, lset2, List.set, List.getElem?_cons_zero, List.getElem?_cons_succ]
        refine wp_iload (pc' := 57) rfl rfl rfl ?_
        refine wp_if_eq (pc' := 60) (pt := 71) rfl rfl rfl (fun q_3 => ?_) (fun q_3 => ?_)
        · skip
          refine wp_iconst (a := 0) (pc' := 72) rfl rfl rfl ?_
          refine wp_istore (pc' := 74) rfl rfl (Nat.le_of_ble_eq_true rfl) rfl ?_
          dsimp only [lset, lset2, List.set, List.getElem?_cons_zero, List.getElem?_cons_succ]
          refine wp_iload (pc' := 76) rfl rfl rfl ?_
          refine wp_iload (pc' := 78) rfl rfl rfl ?_
          refine wp_icmp_le (pc' := 81) (pt := 89) rfl rfl rfl (fun q_4 => ?_) (fun q_4 => ?_)
          · skip
            refine wp_iinc (pc' := 92) rfl rfl rfl (inc_id (by omega) (by omega)) rfl ?_
            dsimp only [lset, lset2, List.set, List.getElem?_cons_zero, List.getElem?_cons_succ]
            refine wp_goto (pc' := 21) rfl rfl ?_
            exact ih (m + 1) _ _ _ _ _ (by omega) (by subst hway; first | (rw [vSt_can hba (by omega)]; congr 1 <;> split <;> omega) | rw [vSt_not hba (by omega)]) (by first | assumption | (subst hway; rfl)) (by omega)
          · skip
            refine wp_iload (pc' := 83) rfl rfl rfl ?_
            refine wp_istore (pc' := 85) rfl rfl (Nat.le_of_ble_eq_true rfl) rfl ?_
            dsimp only [lset, lset2, List.set, List.getElem?_cons_zero, List.getElem?_cons_succ]
            refine wp_iload (pc' := 87) rfl rfl rfl ?_
            refine wp_istore (pc' := 89) rfl rfl (Nat.le_of_ble_eq_true rfl) rfl ?_
            dsimp only [lset, lset2, List.set, List.getElem?_cons_zero, List.getElem?_cons_succ]
            refine wp_iinc (pc' := 92) rfl rfl rfl (inc_id (by omega) (by omega)) rfl ?_
            dsimp only [lset, lset2, List.set, List.getElem?_cons_zero, List.getElem?_cons_succ]
            refine wp_goto (pc' := 21) rfl rfl ?_
            exact ih (m + 1) _ _ _ _ _ (by omega) (by subst hway; first | (rw [vSt_can hba (by omega)]; congr 1 <;> split <;> omega) | rw [vSt_not hba (by omega)]) (by first | assumption | (subst hway; rfl)) (by omega)
        · skip
          refine wp_iload (pc' := 62) rfl rfl rfl ?_
          refine wp_iload (pc' := 64) rfl rfl rfl ?_
          refine wp_icmp_ne (pc' := 67) (pt := 71) rfl rfl rfl (fun q_5 => ?_) (fun q_5 => ?_)
          · skip
            refine wp_iconst (a := 0) (pc' := 72) rfl rfl rfl ?_
            refine wp_istore (pc' := 74) rfl rfl (Nat.le_of_ble_eq_true rfl) rfl ?_
            dsimp only [lset, lset2, List.set, List.getElem?_cons_zero, List.getElem?_cons_succ]
            refine wp_iload (pc' := 76) rfl rfl rfl ?_
            refine wp_iload (pc' := 78) rfl rfl rfl ?_
            refine wp_icmp_le (pc' := 81) (pt := 89) rfl rfl rfl (fun q_6 => ?_) (fun q_6 => ?_)
            · skip
              refine wp_iinc (pc' := 92) rfl rfl rfl (inc_id (by omega) (by omega)) rfl ?_
              dsimp only [lset, lset2, List.set, List.getElem?_cons_zero, List.getElem?_cons_succ]
              refine wp_goto (pc' := 21) rfl rfl ?_
              exact ih (m + 1) _ _ _ _ _ (by omega) (by subst hway; first | (rw [vSt_can hba (by omega)]; congr 1 <;> split <;> omega) | rw [vSt_not hba (by omega)]) (by first | assumption | (subst hway; rfl)) (by omega)
            · skip
              refine wp_iload (pc' := 83) rfl rfl rfl ?_
              refine wp_istore (pc' := 85) rfl rfl (Nat.le_of_ble_eq_true rfl) rfl ?_
              dsimp only [lset, lset2, List.set, List.getElem?_cons_zero, List.getElem?_cons_succ]
              refine wp_iload (pc' := 87) rfl rfl rfl ?_
              refine wp_istore (pc' := 89) rfl rfl (Nat.le_of_ble_eq_true rfl) rfl ?_
              dsimp only [lset, lset2, List.set, List.getElem?_cons_zero, List.getElem?_cons_succ]
              refine wp_iinc (pc' := 92) rfl rfl rfl (inc_id (by omega) (by omega)) rfl ?_
              dsimp only [lset, lset2, List.set, List.getElem?_cons_zero, List.getElem?_cons_succ]
              refine wp_goto (pc' := 21) rfl rfl ?_
              exact ih (m + 1) _ _ _ _ _ (by omega) (by subst hway; first | (rw [vSt_can hba (by omega)]; congr 1 <;> split <;> omega) | rw [vSt_not hba (by omega)]) (by first | assumption | (subst hway; rfl)) (by omega)
          · skip
            refine wp_iconst (a := 1) (pc' := 68) rfl rfl rfl ?_
            refine wp_goto (pc' := 72) rfl rfl ?_
            refine wp_istore (pc' := 74) rfl rfl (Nat.le_of_ble_eq_true rfl) rfl ?_
            dsimp only [lset, lset2, List.set, List.getElem?_cons_zero, List.getElem?_cons_succ]
            refine wp_iload (pc' := 76) rfl rfl rfl ?_
            refine wp_iload (pc' := 78) rfl rfl rfl ?_
            refine wp_icmp_le (pc' := 81) (pt := 89) rfl rfl rfl (fun q_7 => ?_) (fun q_7 => ?_)
            · skip
              refine wp_iinc (pc' := 92) rfl rfl rfl (inc_id (by omega) (by omega)) rfl ?_
              dsimp only [lset, lset2, List.set, List.getElem?_cons_zero, List.getElem?_cons_succ]
              refine wp_goto (pc' := 21) rfl rfl ?_
              exact ih (m + 1) _ _ _ _ _ (by omega) (by subst hway; first | (rw [vSt_can hba (by omega)]; congr 1 <;> split <;> omega) | rw [vSt_not hba (by omega)]) (by first | assumption | (subst hway; rfl)) (by omega)
            · skip
              refine wp_iload (pc' := 83) rfl rfl rfl ?_
              refine wp_istore (pc' := 85) rfl rfl (Nat.le_of_ble_eq_true rfl) rfl ?_
              dsimp only [lset, lset2, List.set, List.getElem?_cons_zero, List.getElem?_cons_succ]
              refine wp_iload (pc' := 87) rfl rfl rfl ?_
              refine wp_istore (pc' := 89) rfl rfl (Nat.le_of_ble_eq_true rfl) rfl ?_
              dsimp only [lset, lset2, List.set, List.getElem?_cons_zero, List.getElem?_cons_succ]
              refine wp_iinc (pc' := 92) rfl rfl rfl (inc_id (by omega) (by omega)) rfl ?_
              dsimp only [lset, lset2, List.set, List.getElem?_cons_zero, List.getElem?_cons_succ]
              refine wp_goto (pc' := 21) rfl rfl ?_
              exact ih (m + 1) _ _ _ _ _ (by omega) (by subst hway; first | (rw [vSt_can hba (by omega)]; congr 1 <;> split <;> omega) | rw [vSt_not hba (by omega)]) (by first | assumption | (subst hway; rfl)) (by omega)
      · skip
        rw [hv1, hw1]
        clear hv1 hw1 v1 w1
        dsimp only [Option.toList, List.cons_append, List.nil_append, List.append_nil]
        refine wp_if_ne (pc' := 38) (pt := 41) rfl rfl rfl (fun q_8 => absurd q_8 (by decide)) (fun q_8 => ?_)
        refine wp_goto (pc' := 89) rfl rfl ?_
        refine wp_iinc (pc' := 92) rfl rfl rfl (inc_id (by omega) (by omega)) rfl ?_
        dsimp only [lset, lset2, List.set, List.getElem?_cons_zero, List.getElem?_cons_succ]
        refine wp_goto (pc' := 21) rfl rfl ?_
        exact ih (m + 1) _ _ _ _ _ (by omega) (by subst hway; first | (rw [vSt_can hba (by omega)]; congr 1 <;> split <;> omega) | rw [vSt_not hba (by omega)]) (by first | assumption | (subst hway; rfl)) (by omega)
set_option maxRecDepth 20000 in
set_option maxHeartbeats 4000000 in
theorem c_Ballot_choiceOf {w : Hp} {d : Nat} {i cell back : Int} (hc : CL (w 3 0) (w 3 1)) (hr : ROw w) (hT : Stc w) (hi : 0 ≤ i ∧ i < 6) (hk : 0 ≤ w 4 i ∧ w 4 i ≤ 5) (hx : Cel (w 3 0) (w 3 1) cell) (hh : Cel (w 3 0) (w 3 1) (w 5 i)) : WP SH (d + 3) 3 0 [some (vR 3), some (vI i), some (vI cell), some (vI back), none, none, none, none, none, none] [] w (fun v w' => v = some (vI (sVote (w 3 0) (w 3 1) (w 4 i) (w 5 i) cell back)) ∧ w' = w) := by
  refine wp_aload_n (pc' := 1) rfl rfl rfl (by decide) ?_
  refine wp_iload_n (pc' := 2) rfl rfl rfl ?_
  refine wp_iload_n (pc' := 3) rfl rfl rfl ?_
  refine wp_call (pc' := 6) rfl rfl rfl rfl rfl ⟨Nat.le_of_ble_eq_true rfl, Nat.le_of_ble_eq_true rfl, Nat.le_of_ble_eq_true rfl, Nat.le_of_ble_eq_true rfl, Nat.le_of_ble_eq_true rfl⟩ rfl (c_Land_gains hc hi hT (by first | exact hx | exact beside_cel hc hx (by omega)) hh) ?_
  intro v1 w1 hq1
  rw [hq1.1, hq1.2]
  clear hq1 v1 w1
  dsimp only [Option.toList, List.cons_append, List.nil_append, List.append_nil]
  refine wp_istore (pc' := 8) rfl rfl (Nat.le_of_ble_eq_true rfl) rfl ?_
  dsimp only [lset, lset2, List.set, List.getElem?_cons_zero, List.getElem?_cons_succ]
  refine wp_iload (pc' := 10) rfl rfl rfl ?_
  refine wp_istore (pc' := 12) rfl rfl (Nat.le_of_ble_eq_true rfl) rfl ?_
  dsimp only [lset, lset2, List.set, List.getElem?_cons_zero, List.getElem?_cons_succ]
  refine wp_iconst (a := 0) (pc' := 13) rfl rfl rfl ?_
  refine wp_istore (pc' := 15) rfl rfl (Nat.le_of_ble_eq_true rfl) rfl ?_
  dsimp only [lset, lset2, List.set, List.getElem?_cons_zero, List.getElem?_cons_succ]
  refine wp_iconst (a := 1) (pc' := 16) rfl rfl rfl ?_
  refine wp_istore (pc' := 18) rfl rfl (Nat.le_of_ble_eq_true rfl) rfl ?_
  dsimp only [lset, lset2, List.set, List.getElem?_cons_zero, List.getElem?_cons_succ]
  refine wp_iconst (a := 1) (pc' := 19) rfl rfl rfl ?_
  refine wp_istore (pc' := 21) rfl rfl (Nat.le_of_ble_eq_true rfl) rfl ?_
  dsimp only [lset, lset2, List.set, List.getElem?_cons_zero, List.getElem?_cons_succ]
  exact l_choiceOf hc hr hT hi hk hx hh 4 0 _ _ _ _ _ rfl rfl (by rw [beside0]) rfl
set_option maxRecDepth 20000 in
set_option maxHeartbeats 4000000 in
theorem l_voteOn {w : Hp} {d : Nat} {i cell back : Int} (hc : CL (w 100 11) (w 100 12)) (hT : Stc w) (hi : 0 ≤ i ∧ i < 6) (hx : Cel (w 100 11) (w 100 12) cell) (hh : Cel (w 100 11) (w 100 12) (w 109 (3 + i))) : ∀ (k m : Nat) (b a way : Int) (x7 : Option PV), m + k = 4 → (b, a) = vSt (w 100 11) (w 100 12) (w 107 i) (w 109 (3 + i)) cell back m → way = (m : Int) + 1 → WP SH (d + 4) 177 9 [some (vR 100), some (vI i), some (vI cell), some (vI back), some (vI b), some (vI a), some (vI way), x7] [] w (fun v w' => v = some (vI (sVote (w 100 11) (w 100 12) (w 107 i) (w 109 (3 + i)) cell back)) ∧ w' = w) := by
  intro k
  induction k with
  | zero =>
    intro m b a way x7 hmk hba hway
    have hok := @vSt_ok _ _ (w 107 i) (w 109 (3 + i)) cell back hc hx m
    rw [← hba] at hok
    dsimp only at hok
    have hcd := hx.dm hc
    refine wp_iload (pc' := 11) rfl rfl rfl ?_
    refine wp_iconst (a := 4) (pc' := 12) rfl rfl rfl ?_
    refine wp_icmp_gt (pc' := 15) (pt := 95) rfl rfl rfl (fun q_1 => ?_) (fun q_1 => ?_)
    · skip
      refine wp_iload (pc' := 97) rfl rfl rfl ?_
      refine wp_if_eq (pc' := 100) (pt := 125) rfl rfl rfl (fun q_2 => ?_) (fun q_2 => ?_)
      · skip
        refine wp_iload (pc' := 127) rfl rfl rfl ?_
        refine wp_ret rfl rfl rfl ?_
        refine ⟨congrArg (fun z => some (vI z)) ?_, rfl⟩
        obtain rfl : m = 4 := by omega
        unfold sVote
        rw [← hba]
        dsimp only
        try unfold sWider at *
        (repeat' split at *) <;> (repeat' split) <;> omega
      · skip
        refine wp_aload_n (pc' := 101) rfl rfl rfl (by decide) ?_
        refine wp_getR (r' := 107) (ci := 10) (k0 := 13) (pc' := 104) rfl rfl (by decide) (by first | assumption | rfl) (hT.get 105 rfl) ?_
        refine wp_iload_n (pc' := 105) rfl rfl rfl ?_
        refine wp_iaload (pc' := 106) rfl rfl (by first | assumption | rfl) (by omega) ?_
        refine wp_iconst (a := 3) (pc' := 107) rfl rfl rfl ?_
        refine wp_icmp_eq (pc' := 110) (pt := 120) rfl rfl rfl (fun q_3 => ?_) (fun q_3 => ?_)
        · skip
          refine wp_bipush (a := -9) (pc' := 122) rfl rfl rfl ?_
          refine wp_goto (pc' := 127) rfl rfl ?_
          refine wp_ret rfl rfl rfl ?_
          refine ⟨congrArg (fun z => some (vI z)) ?_, rfl⟩
          obtain rfl : m = 4 := by omega
          unfold sVote
          rw [← hba]
          dsimp only
          try unfold sWider at *
          (repeat' split at *) <;> (repeat' split) <;> omega
        · skip
          refine wp_aload_n (pc' := 111) rfl rfl rfl (by decide) ?_
          refine wp_getR (r' := 107) (ci := 10) (k0 := 13) (pc' := 114) rfl rfl (by decide) (by first | assumption | rfl) (hT.get 105 rfl) ?_
          refine wp_iload_n (pc' := 115) rfl rfl rfl ?_
          refine wp_iaload (pc' := 116) rfl rfl (by first | assumption | rfl) (by omega) ?_
          refine wp_iconst (a := 5) (pc' := 117) rfl rfl rfl ?_
          refine wp_icmp_ne (pc' := 120) (pt := 125) rfl rfl rfl (fun q_4 => ?_) (fun q_4 => ?_)
          · skip
            refine wp_iload (pc' := 127) rfl rfl rfl ?_
            refine wp_ret rfl rfl rfl ?_
            refine ⟨congrArg (fun z => some (vI z)) ?_, rfl⟩
            obtain rfl : m = 4 := by omega
            unfold sVote
            rw [← hba]
            dsimp only
            try unfold sWider at *
            (repeat' split at *) <;> (repeat' split) <;> omega
          · skip
            refine wp_bipush (a := -9) (pc' := 122) rfl rfl rfl ?_
            refine wp_goto (pc' := 127) rfl rfl ?_
            refine wp_ret rfl rfl rfl ?_
            refine ⟨congrArg (fun z => some (vI z)) ?_, rfl⟩
            obtain rfl : m = 4 := by omega
            unfold sVote
            rw [← hba]
            dsimp only
            try unfold sWider at *
            (repeat' split at *) <;> (repeat' split) <;> omega
    · skip
      exfalso; omega
  | succ k ih =>
    intro m b a way x7 hmk hba hway
    have hok := @vSt_ok _ _ (w 107 i) (w 109 (3 + i)) cell back hc hx m
    rw [← hba] at hok
    dsimp only at hok
    have hcd := hx.dm hc
    refine wp_iload (pc' := 11) rfl rfl rfl ?_
    refine wp_iconst (a := 4) (pc' := 12) rfl rfl rfl ?_
    refine wp_icmp_gt (pc' := 15) (pt := 95) rfl rfl rfl (fun q_1 => ?_) (fun q_1 => ?_)
    · skip
      exfalso; omega
    · skip
      refine wp_aload_n (pc' := 16) rfl rfl rfl (by decide) ?_
      refine wp_iload_n (pc' := 17) rfl rfl rfl ?_
      refine wp_iload_n (pc' := 18) rfl rfl rfl ?_
      refine wp_iload (pc' := 20) rfl rfl rfl ?_
      refine wp_call (pc' := 23) rfl rfl rfl rfl rfl ⟨Nat.le_of_ble_eq_true rfl, Nat.le_of_ble_eq_true rfl, Nat.le_of_ble_eq_true rfl, Nat.le_of_ble_eq_true rfl, Nat.le_of_ble_eq_true rfl⟩ rfl (c_Mod_canBe hc (by omega) hx) ?_
      rintro v1 w1 ⟨hw1, ⟨hv1, hb1⟩ | ⟨hv1, hb1⟩⟩
      · skip
        rw [hv1, hw1]
        clear hv1 hw1 v1 w1
        dsimp only [Option.toList, List.cons_append, List.nil_append, List.append_nil]
        refine wp_if_eq (pc' := 26) (pt := 89) rfl rfl rfl (fun q_2 => absurd q_2 (by decide)) (fun q_2 => ?_)
        refine wp_aload_n (pc' := 27) rfl rfl rfl (by decide) ?_
        refine wp_iload_n (pc' := 28) rfl rfl rfl ?_
        refine wp_aload_n (pc' := 29) rfl rfl rfl (by decide) ?_
        refine wp_iload_n (pc' := 30) rfl rfl rfl ?_
        refine wp_iload (pc' := 32) rfl rfl rfl ?_
        refine wp_call (pc' := 35) rfl rfl rfl rfl rfl ⟨Nat.le_of_ble_eq_true rfl, Nat.le_of_ble_eq_true rfl, Nat.le_of_ble_eq_true rfl, Nat.le_of_ble_eq_true rfl, Nat.le_of_ble_eq_true rfl⟩ rfl (c_Mod_beside hc (by omega) hx) ?_
        intro v1 w1 hq1
        rw [hq1.1, hq1.2]
        clear hq1 v1 w1
        dsimp only [Option.toList, List.cons_append, List.nil_append, List.append_nil]
        refine wp_call (pc' := 38) rfl rfl rfl rfl rfl ⟨Nat.le_of_ble_eq_true rfl, Nat.le_of_ble_eq_true rfl, Nat.le_of_ble_eq_true rfl, Nat.le_of_ble_eq_true rfl, Nat.le_of_ble_eq_true rfl⟩ rfl (c_Mod_gainOn hc hi hT (by first | exact hx | exact beside_cel hc hx (by omega)) hh) ?_
        intro v1 w1 hq1
        rw [hq1.1, hq1.2]
        clear hq1 v1 w1
        dsimp only [Option.toList, List.cons_append, List.nil_append, List.append_nil]
        refine wp_istore (pc' := 40) rfl rfl (Nat.le_of_ble_eq_true rfl) rfl ?_
        dsimp only [lset, lset2, List.set, List.getElem?_cons_zero, List.getElem?_cons_succ]
        refine wp_iload (pc' := 42) rfl rfl rfl ?_
        refine wp_if_eq (pc' := 45) (pt := 60) rfl rfl rfl (fun q_3 => ?_) (fun q_3 => ?_)
        · skip
          refine wp_iconst (a := 0) (pc' := 61) rfl rfl rfl ?_
          refine wp_istore (pc' := 63) rfl rfl (Nat.le_of_ble_eq_true rfl) rfl ?_
          dsimp only [lset, lset2, List.set, List.getElem?_cons_zero, List.getElem?_cons_succ]
          refine wp_iload (pc' := 65) rfl rfl rfl ?_
          refine wp_aload_n (pc' := 66) rfl rfl rfl (by decide) ?_
          refine wp_iload_n (pc' := 67) rfl rfl rfl ?_
          refine wp_aload_n (pc' := 68) rfl rfl rfl (by decide) ?_
          refine wp_iload_n (pc' := 69) rfl rfl rfl ?_
          refine wp_iload (pc' := 71) rfl rfl rfl ?_
          refine wp_call (pc' := 74) rfl rfl rfl rfl rfl ⟨Nat.le_of_ble_eq_true rfl, Nat.le_of_ble_eq_true rfl, Nat.le_of_ble_eq_true rfl, Nat.le_of_ble_eq_true rfl, Nat.le_of_ble_eq_true rfl⟩ rfl (c_Mod_beside hc (by omega) hx) ?_
          intro v1 w1 hq1
          rw [hq1.1, hq1.2]
          clear hq1 v1 w1
          dsimp only [Option.toList, List.cons_append, List.nil_append, List.append_nil]
          refine wp_call (pc' := 77) rfl rfl rfl rfl rfl ⟨Nat.le_of_ble_eq_true rfl, Nat.le_of_ble_eq_true rfl, Nat.le_of_ble_eq_true rfl, Nat.le_of_ble_eq_true rfl, Nat.le_of_ble_eq_true rfl⟩ rfl (c_Mod_gainOn hc hi hT (by first | exact hx | exact beside_cel hc hx (by omega)) hh) ?_
          intro v1 w1 hq1
          rw [hq1.1, hq1.2]
          clear hq1 v1 w1
          dsimp only [Option.toList, List.cons_append, List.nil_append, List.append_nil]
          refine wp_icmp_le (pc' := 80) (pt := 85) rfl rfl rfl (fun q_4 => ?_) (fun q_4 => ?_)
          · skip
            refine wp_iload (pc' := 87) rfl rfl rfl ?_
            refine wp_istore (pc' := 89) rfl rfl (Nat.le_of_ble_eq_true rfl) rfl ?_
            dsimp only [lset, lset2, List.set, List.getElem?_cons_zero, List.getElem?_cons_succ]
            refine wp_iinc (pc' := 92) rfl rfl rfl (inc_id (by omega) (by omega)) rfl ?_
            dsimp only [lset, lset2, List.set, List.getElem?_cons_zero, List.getElem?_cons_succ]
            refine wp_goto (pc' := 9) rfl rfl ?_
            exact ih (m + 1) _ _ _ _ (by omega) (by subst hway; first | (rw [vSt_can hba (by omega)]; congr 1 <;> split <;> omega) | rw [vSt_not hba (by omega)]) (by omega)
          · skip
            refine wp_iload (pc' := 82) rfl rfl rfl ?_
            refine wp_goto (pc' := 87) rfl rfl ?_
            refine wp_istore (pc' := 89) rfl rfl (Nat.le_of_ble_eq_true rfl) rfl ?_
            dsimp only [lset, lset2, List.set, List.getElem?_cons_zero, List.getElem?_cons_succ]
            refine wp_iinc (pc' := 92) rfl rfl rfl (inc_id (by omega) (by omega)) rfl ?_
            dsimp only [lset, lset2, List.set, List.getElem?_cons_zero, List.getElem?_cons_succ]
            refine wp_goto (pc' := 9) rfl rfl ?_
            exact ih (m + 1) _ _ _ _ (by omega) (by subst hway; first | (rw [vSt_can hba (by omega)]; congr 1 <;> split <;> omega) | rw [vSt_not hba (by omega)]) (by omega)
        · skip
          refine wp_iload (pc' := 47) rfl rfl rfl ?_
          refine wp_aload_n (pc' := 48) rfl rfl rfl (by decide) ?_
          refine wp_iload_n (pc' := 49) rfl rfl rfl ?_
          refine wp_iload_n (pc' := 50) rfl rfl rfl ?_
          refine wp_call (pc' := 53) rfl rfl rfl rfl rfl ⟨Nat.le_of_ble_eq_true rfl, Nat.le_of_ble_eq_true rfl, Nat.le_of_ble_eq_true rfl, Nat.le_of_ble_eq_true rfl, Nat.le_of_ble_eq_true rfl⟩ rfl (c_Mod_gainOn hc hi hT (by first | exact hx | exact beside_cel hc hx (by omega)) hh) ?_
          intro v1 w1 hq1
          rw [hq1.1, hq1.2]
          clear hq1 v1 w1
          dsimp only [Option.toList, List.cons_append, List.nil_append, List.append_nil]
          refine wp_icmp_ne (pc' := 56) (pt := 60) rfl rfl rfl (fun q_5 => ?_) (fun q_5 => ?_)
          · skip
            refine wp_iconst (a := 0) (pc' := 61) rfl rfl rfl ?_
            refine wp_istore (pc' := 63) rfl rfl (Nat.le_of_ble_eq_true rfl) rfl ?_
            dsimp only [lset, lset2, List.set, List.getElem?_cons_zero, List.getElem?_cons_succ]
            refine wp_iload (pc' := 65) rfl rfl rfl ?_
            refine wp_aload_n (pc' := 66) rfl rfl rfl (by decide) ?_
            refine wp_iload_n (pc' := 67) rfl rfl rfl ?_
            refine wp_aload_n (pc' := 68) rfl rfl rfl (by decide) ?_
            refine wp_iload_n (pc' := 69) rfl rfl rfl ?_
            refine wp_iload (pc' := 71) rfl rfl rfl ?_
            refine wp_call (pc' := 74) rfl rfl rfl rfl rfl ⟨Nat.le_of_ble_eq_true rfl, Nat.le_of_ble_eq_true rfl, Nat.le_of_ble_eq_true rfl, Nat.le_of_ble_eq_true rfl, Nat.le_of_ble_eq_true rfl⟩ rfl (c_Mod_beside hc (by omega) hx) ?_
            intro v1 w1 hq1
            rw [hq1.1, hq1.2]
            clear hq1 v1 w1
            dsimp only [Option.toList, List.cons_append, List.nil_append, List.append_nil]
            refine wp_call (pc' := 77) rfl rfl rfl rfl rfl ⟨Nat.le_of_ble_eq_true rfl, Nat.le_of_ble_eq_true rfl, Nat.le_of_ble_eq_true rfl, Nat.le_of_ble_eq_true rfl, Nat.le_of_ble_eq_true rfl⟩ rfl (c_Mod_gainOn hc hi hT (by first | exact hx | exact beside_cel hc hx (by omega)) hh) ?_
            intro v1 w1 hq1
            rw [hq1.1, hq1.2]
            clear hq1 v1 w1
            dsimp only [Option.toList, List.cons_append, List.nil_append, List.append_nil]
            refine wp_icmp_le (pc' := 80) (pt := 85) rfl rfl rfl (fun q_6 => ?_) (fun q_6 => ?_)
            · skip
              refine wp_iload (pc' := 87) rfl rfl rfl ?_
              refine wp_istore (pc' := 89) rfl rfl (Nat.le_of_ble_eq_true rfl) rfl ?_
              dsimp only [lset, lset2, List.set, List.getElem?_cons_zero, List.getElem?_cons_succ]
              refine wp_iinc (pc' := 92) rfl rfl rfl (inc_id (by omega) (by omega)) rfl ?_
              dsimp only [lset, lset2, List.set, List.getElem?_cons_zero, List.getElem?_cons_succ]
              refine wp_goto (pc' := 9) rfl rfl ?_
              exact ih (m + 1) _ _ _ _ (by omega) (by subst hway; first | (rw [vSt_can hba (by omega)]; congr 1 <;> split <;> omega) | rw [vSt_not hba (by omega)]) (by omega)
            · skip
              refine wp_iload (pc' := 82) rfl rfl rfl ?_
              refine wp_goto (pc' := 87) rfl rfl ?_
              refine wp_istore (pc' := 89) rfl rfl (Nat.le_of_ble_eq_true rfl) rfl ?_
              dsimp only [lset, lset2, List.set, List.getElem?_cons_zero, List.getElem?_cons_succ]
              refine wp_iinc (pc' := 92) rfl rfl rfl (inc_id (by omega) (by omega)) rfl ?_
              dsimp only [lset, lset2, List.set, List.getElem?_cons_zero, List.getElem?_cons_succ]
              refine wp_goto (pc' := 9) rfl rfl ?_
              exact ih (m + 1) _ _ _ _ (by omega) (by subst hway; first | (rw [vSt_can hba (by omega)]; congr 1 <;> split <;> omega) | rw [vSt_not hba (by omega)]) (by omega)
          · skip
            refine wp_iconst (a := 1) (pc' := 57) rfl rfl rfl ?_
            refine wp_goto (pc' := 61) rfl rfl ?_
            refine wp_istore (pc' := 63) rfl rfl (Nat.le_of_ble_eq_true rfl) rfl ?_
            dsimp only [lset, lset2, List.set, List.getElem?_cons_zero, List.getElem?_cons_succ]
            refine wp_iload (pc' := 65) rfl rfl rfl ?_
            refine wp_aload_n (pc' := 66) rfl rfl rfl (by decide) ?_
            refine wp_iload_n (pc' := 67) rfl rfl rfl ?_
            refine wp_aload_n (pc' := 68) rfl rfl rfl (by decide) ?_
            refine wp_iload_n (pc' := 69) rfl rfl rfl ?_
            refine wp_iload (pc' := 71) rfl rfl rfl ?_
            refine wp_call (pc' := 74) rfl rfl rfl rfl rfl ⟨Nat.le_of_ble_eq_true rfl, Nat.le_of_ble_eq_true rfl, Nat.le_of_ble_eq_true rfl, Nat.le_of_ble_eq_true rfl, Nat.le_of_ble_eq_true rfl⟩ rfl (c_Mod_beside hc (by omega) hx) ?_
            intro v1 w1 hq1
            rw [hq1.1, hq1.2]
            clear hq1 v1 w1
            dsimp only [Option.toList, List.cons_append, List.nil_append, List.append_nil]
            refine wp_call (pc' := 77) rfl rfl rfl rfl rfl ⟨Nat.le_of_ble_eq_true rfl, Nat.le_of_ble_eq_true rfl, Nat.le_of_ble_eq_true rfl, Nat.le_of_ble_eq_true rfl, Nat.le_of_ble_eq_true rfl⟩ rfl (c_Mod_gainOn hc hi hT (by first | exact hx | exact beside_cel hc hx (by omega)) hh) ?_
            intro v1 w1 hq1
            rw [hq1.1, hq1.2]
            clear hq1 v1 w1
            dsimp only [Option.toList, List.cons_append, List.nil_append, List.append_nil]
            refine wp_icmp_le (pc' := 80) (pt := 85) rfl rfl rfl (fun q_7 => ?_) (fun q_7 => ?_)
            · skip
              refine wp_iload (pc' := 87) rfl rfl rfl ?_
              refine wp_istore (pc' := 89) rfl rfl (Nat.le_of_ble_eq_true rfl) rfl ?_
              dsimp only [lset, lset2, List.set, List.getElem?_cons_zero, List.getElem?_cons_succ]
              refine wp_iinc (pc' := 92) rfl rfl rfl (inc_id (by omega) (by omega)) rfl ?_
              dsimp only [lset, lset2, List.set, List.getElem?_cons_zero, List.getElem?_cons_succ]
              refine wp_goto (pc' := 9) rfl rfl ?_
              exact ih (m + 1) _ _ _ _ (by omega) (by subst hway; first | (rw [vSt_can hba (by omega)]; congr 1 <;> split <;> omega) | rw [vSt_not hba (by omega)]) (by omega)
            · skip
              refine wp_iload (pc' := 82) rfl rfl rfl ?_
              refine wp_goto (pc' := 87) rfl rfl ?_
              refine wp_istore (pc' := 89) rfl rfl (Nat.le_of_ble_eq_true rfl) rfl ?_
              dsimp only [lset, lset2, List.set, List.getElem?_cons_zero, List.getElem?_cons_succ]
              refine wp_iinc (pc' := 92) rfl rfl rfl (inc_id (by omega) (by omega)) rfl ?_
              dsimp only [lset, lset2, List.set, List.getElem?_cons_zero, List.getElem?_cons_succ]
              refine wp_goto (pc' := 9) rfl rfl ?_
              exact ih (m + 1) _ _ _ _ (by omega) (by subst hway; first | (rw [vSt_can hba (by omega)]; congr 1 <;> split <;> omega) | rw [vSt_not hba (by omega)]) (by omega)
      · skip
        rw [hv1, hw1]
        clear hv1 hw1 v1 w1
        dsimp only [Option.toList, List.cons_append, List.nil_append, List.append_nil]
        refine wp_if_eq (pc' := 26) (pt := 89) rfl rfl rfl (fun q_8 => ?_) (fun q_8 => absurd (by decide) q_8)
        refine wp_iinc (pc' := 92) rfl rfl rfl (inc_id (by omega) (by omega)) rfl ?_
        dsimp only [lset, lset2, List.set, List.getElem?_cons_zero, List.getElem?_cons_succ]
        refine wp_goto (pc' := 9) rfl rfl ?_
        exact ih (m + 1) _ _ _ _ (by omega) (by subst hway; first | (rw [vSt_can hba (by omega)]; congr 1 <;> split <;> omega) | rw [vSt_not hba (by omega)]) (by omega)
set_option maxRecDepth 20000 in
set_option maxHeartbeats 4000000 in
theorem c_Mod_voteOn {w : Hp} {d : Nat} {i cell back : Int} (hc : CL (w 100 11) (w 100 12)) (hT : Stc w) (hi : 0 ≤ i ∧ i < 6) (hx : Cel (w 100 11) (w 100 12) cell) (hh : Cel (w 100 11) (w 100 12) (w 109 (3 + i))) : WP SH (d + 4) 177 0 [some (vR 100), some (vI i), some (vI cell), some (vI back), none, none, none, none] [] w (fun v w' => v = some (vI (sVote (w 100 11) (w 100 12) (w 107 i) (w 109 (3 + i)) cell back)) ∧ w' = w) := by
  refine wp_iconst (a := 0) (pc' := 1) rfl rfl rfl ?_
  refine wp_istore (pc' := 3) rfl rfl (Nat.le_of_ble_eq_true rfl) rfl ?_
  dsimp only [lset, lset2, List.set, List.getElem?_cons_zero, List.getElem?_cons_succ]
  refine wp_iconst (a := 1) (pc' := 4) rfl rfl rfl ?_
  refine wp_istore (pc' := 6) rfl rfl (Nat.le_of_ble_eq_true rfl) rfl ?_
  dsimp only [lset, lset2, List.set, List.getElem?_cons_zero, List.getElem?_cons_succ]
  refine wp_iconst (a := 1) (pc' := 7) rfl rfl rfl ?_
  refine wp_istore (pc' := 9) rfl rfl (Nat.le_of_ble_eq_true rfl) rfl ?_
  dsimp only [lset, lset2, List.set, List.getElem?_cons_zero, List.getElem?_cons_succ]
  exact l_voteOn hc hT hi hx hh 4 0 _ _ _ _ rfl rfl rfl
end
section
/-! sums, bits, which way carries -/
def sumN (f : Int → Int) : Nat → Int
  | 0 => 0
  | m + 1 => sumN f m + f m
def sumI (f : Int → Int) (n : Int) : Int := sumN f n.toNat
theorem sumI_0 (f : Int → Int) : sumI f 0 = 0 := rfl
theorem sumI_s (f : Int → Int) {i : Int} (h : 0 ≤ i) : sumI f (i + 1) = sumI f i + f i := by
  unfold sumI
  rw [show (i + 1).toNat = i.toNat + 1 by omega]
  show sumN f i.toNat + f (i.toNat : Int) = _
  rw [show ((i.toNat : Nat) : Int) = i by omega]
theorem sumN_bd {f : Int → Int} {lo hi : Int} : ∀ {n : Nat}, (∀ j : Int, 0 ≤ j → j < n → lo ≤ f j ∧ f j ≤ hi) → lo * n ≤ sumN f n ∧ sumN f n ≤ hi * n := by
  intro n
  induction n with
  | zero => intro _; simp [sumN]
  | succ n ih =>
    intro h
    have h1 := ih (fun j h0 hj => h j h0 (by omega))
    have h2 := h n (by omega) (by omega)
    unfold sumN
    rw [Int.natCast_add, Int.mul_add, Int.mul_add]
    simp only [Int.natCast_one, Int.mul_one]
    omega
theorem sumI_bd {f : Int → Int} {lo hi n : Int} (h0 : 0 ≤ n) (h : ∀ j : Int, 0 ≤ j → j < n → lo ≤ f j ∧ f j ≤ hi) : lo * n ≤ sumI f n ∧ sumI f n ≤ hi * n := by
  unfold sumI
  have h1 := @sumN_bd f lo hi n.toNat (fun j a b => h j a (by omega))
  rw [show ((n.toNat : Nat) : Int) = n by omega] at h1
  exact h1
theorem sumN_congr {f g : Int → Int} : ∀ {n : Nat}, (∀ j : Int, 0 ≤ j → j < n → f j = g j) → sumN f n = sumN g n := by
  intro n
  induction n with
  | zero => intro _; rfl
  | succ n ih =>
    intro h
    unfold sumN
    rw [ih (fun j a b => h j a (by omega)), h n (by omega) (by omega)]
theorem sumI_congr {f g : Int → Int} {n : Int} (h : ∀ j : Int, 0 ≤ j → j < n → f j = g j) : sumI f n = sumI g n := sumN_congr (fun j a b => h j a (by omega))
theorem mul_bd {a b A B : Int} (h1 : 0 ≤ a) (h2 : a ≤ A) (h3 : 0 ≤ b) (h4 : b ≤ B) : 0 ≤ a * b ∧ a * b ≤ A * B := ⟨Int.mul_nonneg h1 h3, Int.mul_le_mul h2 h4 h3 (Int.le_trans h1 h2)⟩
/-- the land of the class, of the reference: as it must be -/
def LnOK (w : Hp) : Prop := CL (w 3 0) (w 3 1) ∧ (1 ≤ w 3 2 ∧ w 3 2 ≤ 6) ∧ ∀ i : Int, 0 ≤ i → i < w 3 2 → (0 ≤ w 4 i ∧ w 4 i ≤ 5) ∧ Cel (w 3 0) (w 3 1) (w 5 i) ∧ (1 ≤ w 6 i ∧ w 6 i ≤ 9)
def MdOK (w : Hp) : Prop := CL (w 100 11) (w 100 12) ∧ (1 ≤ w 100 10 ∧ w 100 10 ≤ 6) ∧ ∀ i : Int, 0 ≤ i → i < w 100 10 → (0 ≤ w 107 i ∧ w 107 i ≤ 5) ∧ Cel (w 100 11) (w 100 12) (w 109 (3 + i)) ∧ (1 ≤ w 108 i ∧ w 108 i ≤ 9)
/-- what all gain by a cell -/
def fWorth (c : Int) (K H G : Int → Int) (cell : Int) : Int → Int := fun i => G i * sG c (K i) (H i) cell
def bit (s i : Int) : Int := iAnd (iShr s i) 1
theorem bit01 (s i : Int) : bit s i = 0 ∨ bit s i = 1 := by
  unfold bit iAnd
  obtain ⟨j, hj, e⟩ := pk_andE (Int32.ofInt (iShr s i)) (m := Int32.ofInt 1) 1 (by decide)
  rw [e, nI_toInt (by omega)]
  omega
/-- the way of most, and whether it is alone, behind ways 1 .. m -/
def wSt (f : Int → Int) : Nat → Int × Int
  | 0 => (0, 1)
  | m + 1 => if f (wSt f m).1 < f ((m : Int) + 1) then ((m : Int) + 1, 1) else if f ((m : Int) + 1) = f (wSt f m).1 then ((wSt f m).1, 0) else wSt f m
def sWin (f : Int → Int) : Int := if (wSt f 4).2 = 1 then (wSt f 4).1 else 0
theorem wSt_ok (f : Int → Int) : ∀ m : Nat, 0 ≤ (wSt f m).1 ∧ (wSt f m).1 ≤ m ∧ ((wSt f m).2 = 0 ∨ (wSt f m).2 = 1) := by
  intro m
  induction m with
  | zero => exact ⟨by simp [wSt], by simp [wSt], by simp [wSt]⟩
  | succ m ih =>
    unfold wSt
    split
    · dsimp only; omega
    · split
      · dsimp only; omega
      · omega
theorem sWin_in (f : Int → Int) : 0 ≤ sWin f ∧ sWin f ≤ 4 := by
  have h := wSt_ok f 4
  unfold sWin
  split <;> omega
theorem wSt_congr {f g : Int → Int} (h : ∀ j : Int, 0 ≤ j → j ≤ 4 → f j = g j) : ∀ m : Nat, m ≤ 4 → wSt f m = wSt g m := by
  intro m
  induction m with
  | zero => intro _; rfl
  | succ m ih =>
    intro hm
    have h1 := wSt_ok g m
    unfold wSt
    rw [ih (by omega), h _ h1.1 (by omega), h ((m : Int) + 1) (by omega) (by omega)]
theorem sWin_congr {f g : Int → Int} (h : ∀ j : Int, 0 ≤ j → j ≤ 4 → f j = g j) : sWin f = sWin g := by
  unfold sWin
  rw [wSt_congr h 4 (Nat.le_refl 4)]
set_option maxRecDepth 20000 in
set_option maxHeartbeats 4000000 in
theorem l_Land_worth {w : Hp} {d : Nat} {cell : Int} (hp : LnOK w) (hT : Stc w) (hx : Cel (w 3 0) (w 3 1) cell) : ∀ (k : Nat) (i s : Int), 0 ≤ i → i + k = w 3 2 → s = sumI (fWorth (w 3 0) (w 4) (w 5) (w 6) cell) i → WP SH (d + 2) 40 4 [some (vR 3), some (vI cell), some (vI s), some (vI i)] [] w (fun v w' => v = some (vI (sumI (fWorth (w 3 0) (w 4) (w 5) (w 6) cell) (w 3 2))) ∧ w' = w) := by
  intro k
  induction k with
  | zero =>
    intro i s hi0 hik hs
    obtain ⟨hc, hn, hall⟩ := id hp
    have hpb : ∀ j : Int, 0 ≤ j → j < w 3 2 → 0 ≤ (fWorth (w 3 0) (w 4) (w 5) (w 6) cell) j ∧ (fWorth (w 3 0) (w 4) (w 5) (w 6) cell) j ≤ 162 := fun j a b => by
      have h1 := hall j a b
      have h2 := sG_in (k := w 4 j) hc h1.2.1 hx
      exact mul_bd (by omega) h1.2.2.2 h2.1 h2.2
    have hbd := sumI_bd (lo := 0) (hi := 162) (n := i) hi0 (fun j a b => hpb j a (by omega))
    refine wp_iload_n (pc' := 5) rfl rfl rfl ?_
    refine wp_aload_n (pc' := 6) rfl rfl rfl (by decide) ?_
    refine wp_getI (ci := 3) (k0 := 2) (pc' := 9) rfl rfl (by decide) (by first | assumption | rfl) ?_
    refine wp_icmp_ge (pc' := 12) (pt := 34) rfl rfl rfl (fun q_1 => ?_) (fun q_1 => ?_)
    · skip
      refine wp_iload_n (pc' := 35) rfl rfl rfl ?_
      refine wp_ret rfl rfl rfl ?_
      refine ⟨?_, rfl⟩
      rw [hs, show i = w 3 2 by omega]
    · skip
      exfalso; omega
  | succ k ih =>
    intro i s hi0 hik hs
    obtain ⟨hc, hn, hall⟩ := id hp
    have hpb : ∀ j : Int, 0 ≤ j → j < w 3 2 → 0 ≤ (fWorth (w 3 0) (w 4) (w 5) (w 6) cell) j ∧ (fWorth (w 3 0) (w 4) (w 5) (w 6) cell) j ≤ 162 := fun j a b => by
      have h1 := hall j a b
      have h2 := sG_in (k := w 4 j) hc h1.2.1 hx
      exact mul_bd (by omega) h1.2.2.2 h2.1 h2.2
    have hbd := sumI_bd (lo := 0) (hi := 162) (n := i) hi0 (fun j a b => hpb j a (by omega))
    refine wp_iload_n (pc' := 5) rfl rfl rfl ?_
    refine wp_aload_n (pc' := 6) rfl rfl rfl (by decide) ?_
    refine wp_getI (ci := 3) (k0 := 2) (pc' := 9) rfl rfl (by decide) (by first | assumption | rfl) ?_
    refine wp_icmp_ge (pc' := 12) (pt := 34) rfl rfl rfl (fun q_1 => ?_) (fun q_1 => ?_)
    · skip
      exfalso; omega
    · skip
      have hli : i < w 3 2 := by omega
      have hai := hall i hi0 hli
      have hpi := hpb i hi0 hli
      unfold fWorth at hpi
      try dsimp only at hpi
      refine wp_iload_n (pc' := 13) rfl rfl rfl ?_
      refine wp_aload_n (pc' := 14) rfl rfl rfl (by decide) ?_
      refine wp_getR (r' := 6) (ci := 3) (k0 := 9) (pc' := 17) rfl rfl (by decide) (by first | assumption | rfl) (hT.get 25 rfl) ?_
      refine wp_iload_n (pc' := 18) rfl rfl rfl ?_
      refine wp_iaload (pc' := 19) rfl rfl (by first | assumption | rfl) (by omega) ?_
      refine wp_aload_n (pc' := 20) rfl rfl rfl (by decide) ?_
      refine wp_iload_n (pc' := 21) rfl rfl rfl ?_
      refine wp_iload_n (pc' := 22) rfl rfl rfl ?_
      refine wp_call (pc' := 25) rfl rfl rfl rfl rfl ⟨Nat.le_of_ble_eq_true rfl, Nat.le_of_ble_eq_true rfl, Nat.le_of_ble_eq_true rfl, Nat.le_of_ble_eq_true rfl, Nat.le_of_ble_eq_true rfl⟩ rfl (c_Land_gains hc (by omega) hT hx hai.2.1) ?_
      intro v1 w1 hq1
      rw [hq1.1, hq1.2]
      clear hq1 v1 w1
      dsimp only [Option.toList, List.cons_append, List.nil_append, List.append_nil]
      refine wp_imul (pc' := 26) rfl rfl (by first | exact w32_id (by omega) (by omega) | rfl) ?_
      refine wp_iadd (pc' := 27) rfl rfl (by first | exact w32_id (by omega) (by omega) | rfl) ?_
      refine wp_istore_n (pc' := 28) rfl rfl (Nat.le_of_ble_eq_true rfl) rfl ?_
      dsimp only [lset, lset2, List.set, List.getElem?_cons_zero, List.getElem?_cons_succ]
      refine wp_iinc (pc' := 31) rfl rfl rfl (inc_id (by omega) (by omega)) rfl ?_
      dsimp only [lset, lset2, List.set, List.getElem?_cons_zero, List.getElem?_cons_succ]
      refine wp_goto (pc' := 4) rfl rfl ?_
      exact ih _ _ (by omega) (by omega) (by rw [sumI_s _ hi0, hs]; rfl)
set_option maxRecDepth 20000 in
set_option maxHeartbeats 4000000 in
theorem c_Land_worth {w : Hp} {d : Nat} {cell : Int} (hp : LnOK w) (hT : Stc w) (hx : Cel (w 3 0) (w 3 1) cell) : WP SH (d + 2) 40 0 [some (vR 3), some (vI cell), none, none] [] w (fun v w' => v = some (vI (sumI (fWorth (w 3 0) (w 4) (w 5) (w 6) cell) (w 3 2))) ∧ w' = w) := by
  refine wp_iconst (a := 0) (pc' := 1) rfl rfl rfl ?_
  refine wp_istore_n (pc' := 2) rfl rfl (Nat.le_of_ble_eq_true rfl) rfl ?_
  dsimp only [lset, lset2, List.set, List.getElem?_cons_zero, List.getElem?_cons_succ]
  refine wp_iconst (a := 0) (pc' := 3) rfl rfl rfl ?_
  refine wp_istore_n (pc' := 4) rfl rfl (Nat.le_of_ble_eq_true rfl) rfl ?_
  dsimp only [lset, lset2, List.set, List.getElem?_cons_zero, List.getElem?_cons_succ]
  exact l_Land_worth hp hT hx (w 3 2).toNat 0 0 (by omega) (by have := hp.2.1; omega) rfl
set_option maxRecDepth 20000 in
set_option maxHeartbeats 4000000 in
theorem l_Mod_all {w : Hp} {d : Nat} {cell : Int} (hp : MdOK w) (hT : Stc w) (hx : Cel (w 100 11) (w 100 12) cell) : ∀ (k : Nat) (i s : Int), 0 ≤ i → i + k = w 100 10 → s = sumI (fWorth (w 100 11) (w 107) (fun i => w 109 (3 + i)) (w 108) cell) i → WP SH (d + 4) 175 4 [some (vR 100), some (vI cell), some (vI s), some (vI i)] [] w (fun v w' => v = some (vI (sumI (fWorth (w 100 11) (w 107) (fun i => w 109 (3 + i)) (w 108) cell) (w 100 10))) ∧ w' = w) := by
  intro k
  induction k with
  | zero =>
    intro i s hi0 hik hs
    obtain ⟨hc, hn, hall⟩ := id hp
    have hpb : ∀ j : Int, 0 ≤ j → j < w 100 10 → 0 ≤ (fWorth (w 100 11) (w 107) (fun i => w 109 (3 + i)) (w 108) cell) j ∧ (fWorth (w 100 11) (w 107) (fun i => w 109 (3 + i)) (w 108) cell) j ≤ 162 := fun j a b => by
      have h1 := hall j a b
      have h2 := sG_in (k := w 107 j) hc h1.2.1 hx
      exact mul_bd (by omega) h1.2.2.2 h2.1 h2.2
    have hbd := sumI_bd (lo := 0) (hi := 162) (n := i) hi0 (fun j a b => hpb j a (by omega))
    refine wp_iload_n (pc' := 5) rfl rfl rfl ?_
    refine wp_aload_n (pc' := 6) rfl rfl rfl (by decide) ?_
    refine wp_getI (ci := 10) (k0 := 10) (pc' := 9) rfl rfl (by decide) (by first | assumption | rfl) ?_
    refine wp_icmp_ge (pc' := 12) (pt := 34) rfl rfl rfl (fun q_1 => ?_) (fun q_1 => ?_)
    · skip
      refine wp_iload_n (pc' := 35) rfl rfl rfl ?_
      refine wp_ret rfl rfl rfl ?_
      refine ⟨?_, rfl⟩
      rw [hs, show i = w 100 10 by omega]
    · skip
      exfalso; omega
  | succ k ih =>
    intro i s hi0 hik hs
    obtain ⟨hc, hn, hall⟩ := id hp
    have hpb : ∀ j : Int, 0 ≤ j → j < w 100 10 → 0 ≤ (fWorth (w 100 11) (w 107) (fun i => w 109 (3 + i)) (w 108) cell) j ∧ (fWorth (w 100 11) (w 107) (fun i => w 109 (3 + i)) (w 108) cell) j ≤ 162 := fun j a b => by
      have h1 := hall j a b
      have h2 := sG_in (k := w 107 j) hc h1.2.1 hx
      exact mul_bd (by omega) h1.2.2.2 h2.1 h2.2
    have hbd := sumI_bd (lo := 0) (hi := 162) (n := i) hi0 (fun j a b => hpb j a (by omega))
    refine wp_iload_n (pc' := 5) rfl rfl rfl ?_
    refine wp_aload_n (pc' := 6) rfl rfl rfl (by decide) ?_
    refine wp_getI (ci := 10) (k0 := 10) (pc' := 9) rfl rfl (by decide) (by first | assumption | rfl) ?_
    refine wp_icmp_ge (pc' := 12) (pt := 34) rfl rfl rfl (fun q_1 => ?_) (fun q_1 => ?_)
    · skip
      exfalso; omega
    · skip
      have hli : i < w 100 10 := by omega
      have hai := hall i hi0 hli
      have hpi := hpb i hi0 hli
      unfold fWorth at hpi
      try dsimp only at hpi
      refine wp_iload_n (pc' := 13) rfl rfl rfl ?_
      refine wp_aload_n (pc' := 14) rfl rfl rfl (by decide) ?_
      refine wp_getR (r' := 108) (ci := 10) (k0 := 14) (pc' := 17) rfl rfl (by decide) (by first | assumption | rfl) (hT.get 106 rfl) ?_
      refine wp_iload_n (pc' := 18) rfl rfl rfl ?_
      refine wp_iaload (pc' := 19) rfl rfl (by first | assumption | rfl) (by omega) ?_
      refine wp_aload_n (pc' := 20) rfl rfl rfl (by decide) ?_
      refine wp_iload_n (pc' := 21) rfl rfl rfl ?_
      refine wp_iload_n (pc' := 22) rfl rfl rfl ?_
      refine wp_call (pc' := 25) rfl rfl rfl rfl rfl ⟨Nat.le_of_ble_eq_true rfl, Nat.le_of_ble_eq_true rfl, Nat.le_of_ble_eq_true rfl, Nat.le_of_ble_eq_true rfl, Nat.le_of_ble_eq_true rfl⟩ rfl (c_Mod_gainOn hc (by omega) hT hx hai.2.1) ?_
      intro v1 w1 hq1
      rw [hq1.1, hq1.2]
      clear hq1 v1 w1
      dsimp only [Option.toList, List.cons_append, List.nil_append, List.append_nil]
      refine wp_imul (pc' := 26) rfl rfl (by first | exact w32_id (by omega) (by omega) | rfl) ?_
      refine wp_iadd (pc' := 27) rfl rfl (by first | exact w32_id (by omega) (by omega) | rfl) ?_
      refine wp_istore_n (pc' := 28) rfl rfl (Nat.le_of_ble_eq_true rfl) rfl ?_
      dsimp only [lset, lset2, List.set, List.getElem?_cons_zero, List.getElem?_cons_succ]
      refine wp_iinc (pc' := 31) rfl rfl rfl (inc_id (by omega) (by omega)) rfl ?_
      dsimp only [lset, lset2, List.set, List.getElem?_cons_zero, List.getElem?_cons_succ]
      refine wp_goto (pc' := 4) rfl rfl ?_
      exact ih _ _ (by omega) (by omega) (by rw [sumI_s _ hi0, hs]; rfl)
set_option maxRecDepth 20000 in
set_option maxHeartbeats 4000000 in
theorem c_Mod_all {w : Hp} {d : Nat} {cell : Int} (hp : MdOK w) (hT : Stc w) (hx : Cel (w 100 11) (w 100 12) cell) : WP SH (d + 4) 175 0 [some (vR 100), some (vI cell), none, none] [] w (fun v w' => v = some (vI (sumI (fWorth (w 100 11) (w 107) (fun i => w 109 (3 + i)) (w 108) cell) (w 100 10))) ∧ w' = w) := by
  refine wp_iconst (a := 0) (pc' := 1) rfl rfl rfl ?_
  refine wp_istore_n (pc' := 2) rfl rfl (Nat.le_of_ble_eq_true rfl) rfl ?_
  dsimp only [lset, lset2, List.set, List.getElem?_cons_zero, List.getElem?_cons_succ]
  refine wp_iconst (a := 0) (pc' := 3) rfl rfl rfl ?_
  refine wp_istore_n (pc' := 4) rfl rfl (Nat.le_of_ble_eq_true rfl) rfl ?_
  dsimp only [lset, lset2, List.set, List.getElem?_cons_zero, List.getElem?_cons_succ]
  exact l_Mod_all hp hT hx (w 100 10).toNat 0 0 (by omega) (by have := hp.2.1; omega) rfl
set_option maxRecDepth 20000 in
set_option maxHeartbeats 4000000 in
theorem c_Mod_has {w : Hp} {d : Nat} {s i : Int} : WP SH (d + 0) 138 0 [some (vI s), some (vI i)] [] w (fun v w' => w' = w ∧ ((v = some (vI 1) ∧ (bit s i = 1)) ∨ (v = some (vI 0) ∧ ¬ (bit s i = 1)))) := by
  refine wp_iload_n (pc' := 1) rfl rfl rfl ?_
  refine wp_iload_n (pc' := 2) rfl rfl rfl ?_
  refine wp_ishr (pc' := 3) rfl rfl rfl ?_
  refine wp_iconst (a := 1) (pc' := 4) rfl rfl rfl ?_
  refine wp_iand (pc' := 5) rfl rfl rfl ?_
  refine wp_iconst (a := 1) (pc' := 6) rfl rfl rfl ?_
  refine wp_icmp_ne (pc' := 9) (pt := 13) rfl rfl rfl (fun q_1 => ?_) (fun q_1 => ?_)
  · skip
    refine wp_iconst (a := 0) (pc' := 14) rfl rfl rfl ?_
    refine wp_ret rfl rfl rfl ?_
    first | exact ⟨rfl, Or.inl ⟨rfl, by unfold bit; omega⟩⟩ | exact ⟨rfl, Or.inr ⟨rfl, by unfold bit; omega⟩⟩
  · skip
    refine wp_iconst (a := 1) (pc' := 10) rfl rfl rfl ?_
    refine wp_goto (pc' := 14) rfl rfl ?_
    refine wp_ret rfl rfl rfl ?_
    first | exact ⟨rfl, Or.inl ⟨rfl, by unfold bit; omega⟩⟩ | exact ⟨rfl, Or.inr ⟨rfl, by unfold bit; omega⟩⟩
set_option maxRecDepth 20000 in
set_option maxHeartbeats 4000000 in
theorem l_winner {w : Hp} {d : Nat} (hT : Stc w) : ∀ (k m : Nat) (b al way : Int), m + k = 4 → (b, al) = wSt (w 25) m → way = (m : Int) + 1 → WP SH d 5 6 [some (vR 23), some (vI b), some (vI al), some (vI way)] [] w (fun v w' => v = some (vI (sWin (w 25))) ∧ w' = w) := by
  intro k
  induction k with
  | zero =>
    intro m b al way hmk hba hway
    have hok := wSt_ok (w 25) m
    rw [← hba] at hok
    dsimp only at hok
    refine wp_iload_n (pc' := 7) rfl rfl rfl ?_
    refine wp_iconst (a := 4) (pc' := 8) rfl rfl rfl ?_
    refine wp_icmp_gt (pc' := 11) (pt := 56) rfl rfl rfl (fun q_1 => ?_) (fun q_1 => ?_)
    · skip
      refine wp_iload_n (pc' := 57) rfl rfl rfl ?_
      refine wp_if_eq (pc' := 60) (pt := 64) rfl rfl rfl (fun q_2 => ?_) (fun q_2 => ?_)
      · skip
        refine wp_iconst (a := 0) (pc' := 65) rfl rfl rfl ?_
        refine wp_ret rfl rfl rfl ?_
        refine ⟨congrArg (fun z => some (vI z)) ?_, rfl⟩
        obtain rfl : m = 4 := by omega
        unfold sWin
        rw [← hba]
        dsimp only
        split <;> omega
      · skip
        refine wp_iload_n (pc' := 61) rfl rfl rfl ?_
        refine wp_goto (pc' := 65) rfl rfl ?_
        refine wp_ret rfl rfl rfl ?_
        refine ⟨congrArg (fun z => some (vI z)) ?_, rfl⟩
        obtain rfl : m = 4 := by omega
        unfold sWin
        rw [← hba]
        dsimp only
        split <;> omega
    · skip
      exfalso; omega
  | succ k ih =>
    intro m b al way hmk hba hway
    have hok := wSt_ok (w 25) m
    rw [← hba] at hok
    dsimp only at hok
    refine wp_iload_n (pc' := 7) rfl rfl rfl ?_
    refine wp_iconst (a := 4) (pc' := 8) rfl rfl rfl ?_
    refine wp_icmp_gt (pc' := 11) (pt := 56) rfl rfl rfl (fun q_1 => ?_) (fun q_1 => ?_)
    · skip
      exfalso; omega
    · skip
      refine wp_aload_n (pc' := 12) rfl rfl rfl (by decide) ?_
      refine wp_getR (r' := 25) (ci := 0) (k0 := 1) (pc' := 15) rfl rfl (by decide) (by first | assumption | rfl) (hT.get 43 rfl) ?_
      refine wp_iload_n (pc' := 16) rfl rfl rfl ?_
      refine wp_iaload (pc' := 17) rfl rfl (by first | assumption | rfl) (by omega) ?_
      refine wp_aload_n (pc' := 18) rfl rfl rfl (by decide) ?_
      refine wp_getR (r' := 25) (ci := 0) (k0 := 1) (pc' := 21) rfl rfl (by decide) (by first | assumption | rfl) (hT.get 43 rfl) ?_
      refine wp_iload_n (pc' := 22) rfl rfl rfl ?_
      refine wp_iaload (pc' := 23) rfl rfl (by first | assumption | rfl) (by omega) ?_
      refine wp_icmp_le (pc' := 26) (pt := 33) rfl rfl rfl (fun q_2 => ?_) (fun q_2 => ?_)
      · skip
        refine wp_aload_n (pc' := 34) rfl rfl rfl (by decide) ?_
        refine wp_getR (r' := 25) (ci := 0) (k0 := 1) (pc' := 37) rfl rfl (by decide) (by first | assumption | rfl) (hT.get 43 rfl) ?_
        refine wp_iload_n (pc' := 38) rfl rfl rfl ?_
        refine wp_iaload (pc' := 39) rfl rfl (by first | assumption | rfl) (by omega) ?_
        refine wp_aload_n (pc' := 40) rfl rfl rfl (by decide) ?_
        refine wp_getR (r' := 25) (ci := 0) (k0 := 1) (pc' := 43) rfl rfl (by decide) (by first | assumption | rfl) (hT.get 43 rfl) ?_
        refine wp_iload_n (pc' := 44) rfl rfl rfl ?_
        refine wp_iaload (pc' := 45) rfl rfl (by first | assumption | rfl) (by omega) ?_
        refine wp_icmp_ne (pc' := 48) (pt := 50) rfl rfl rfl (fun q_3 => ?_) (fun q_3 => ?_)
        · skip
          refine wp_iinc (pc' := 53) rfl rfl rfl (inc_id (by omega) (by omega)) rfl ?_
          dsimp only [lset, lset2, List.set, List.getElem?_cons_zero, List.getElem?_cons_succ]
          refine wp_goto (pc' := 6) rfl rfl ?_
          exact ih (m + 1) _ _ _ (by omega) (by rw [wSt, ← hba]; dsimp only; subst hway; first | rw [if_pos (by omega)] | (rw [if_neg (by omega), if_pos (by omega)]) | (rw [if_neg (by omega), if_neg (by omega)])) (by omega)
        · skip
          refine wp_iconst (a := 0) (pc' := 49) rfl rfl rfl ?_
          refine wp_istore_n (pc' := 50) rfl rfl (Nat.le_of_ble_eq_true rfl) rfl ?_
          dsimp only [lset, lset2, List.set, List.getElem?_cons_zero, List.getElem?_cons_succ]
          refine wp_iinc (pc' := 53) rfl rfl rfl (inc_id (by omega) (by omega)) rfl ?_
          dsimp only [lset, lset2, List.set, List.getElem?_cons_zero, List.getElem?_cons_succ]
          refine wp_goto (pc' := 6) rfl rfl ?_
          exact ih (m + 1) _ _ _ (by omega) (by rw [wSt, ← hba]; dsimp only; subst hway; first | rw [if_pos (by omega)] | (rw [if_neg (by omega), if_pos (by omega)]) | (rw [if_neg (by omega), if_neg (by omega)])) (by omega)
      · skip
        refine wp_iload_n (pc' := 27) rfl rfl rfl ?_
        refine wp_istore_n (pc' := 28) rfl rfl (Nat.le_of_ble_eq_true rfl) rfl ?_
        dsimp only [lset, lset2, List.set, List.getElem?_cons_zero, List.getElem?_cons_succ]
        refine wp_iconst (a := 1) (pc' := 29) rfl rfl rfl ?_
        refine wp_istore_n (pc' := 30) rfl rfl (Nat.le_of_ble_eq_true rfl) rfl ?_
        dsimp only [lset, lset2, List.set, List.getElem?_cons_zero, List.getElem?_cons_succ]
        refine wp_goto (pc' := 50) rfl rfl ?_
        refine wp_iinc (pc' := 53) rfl rfl rfl (inc_id (by omega) (by omega)) rfl ?_
        dsimp only [lset, lset2, List.set, List.getElem?_cons_zero, List.getElem?_cons_succ]
        refine wp_goto (pc' := 6) rfl rfl ?_
        exact ih (m + 1) _ _ _ (by omega) (by rw [wSt, ← hba]; dsimp only; subst hway; first | rw [if_pos (by omega)] | (rw [if_neg (by omega), if_pos (by omega)]) | (rw [if_neg (by omega), if_neg (by omega)])) (by omega)
set_option maxRecDepth 20000 in
set_option maxHeartbeats 4000000 in
theorem c_Ballot_winner {w : Hp} {d : Nat} (hT : Stc w) : WP SH (d + 0) 5 0 [some (vR 23), none, none, none] [] w (fun v w' => v = some (vI (sWin (w 25))) ∧ w' = w) := by
  refine wp_iconst (a := 0) (pc' := 1) rfl rfl rfl ?_
  refine wp_istore_n (pc' := 2) rfl rfl (Nat.le_of_ble_eq_true rfl) rfl ?_
  dsimp only [lset, lset2, List.set, List.getElem?_cons_zero, List.getElem?_cons_succ]
  refine wp_iconst (a := 1) (pc' := 3) rfl rfl rfl ?_
  refine wp_istore_n (pc' := 4) rfl rfl (Nat.le_of_ble_eq_true rfl) rfl ?_
  dsimp only [lset, lset2, List.set, List.getElem?_cons_zero, List.getElem?_cons_succ]
  refine wp_iconst (a := 1) (pc' := 5) rfl rfl rfl ?_
  refine wp_istore_n (pc' := 6) rfl rfl (Nat.le_of_ble_eq_true rfl) rfl ?_
  dsimp only [lset, lset2, List.set, List.getElem?_cons_zero, List.getElem?_cons_succ]
  exact l_winner hT 4 0 _ _ _ rfl rfl rfl
set_option maxRecDepth 20000 in
set_option maxHeartbeats 4000000 in
theorem l_carried {w : Hp} {d : Nat} (hT : Stc w) : ∀ (k m : Nat) (b mn kk : Int), m + k = 4 → b = (wSt (w 113) m).1 → (1 ≤ mn ∧ mn ≤ m + 1 ∧ (mn = 1 ↔ (wSt (w 113) m).2 = 1)) → kk = (m : Int) + 1 → WP SH d 179 6 [some (vR 100), some (vI b), some (vI mn), some (vI kk)] [] w (fun v w' => v = some (vI (sWin (w 113))) ∧ w' = w) := by
  intro k
  induction k with
  | zero =>
    intro m b mn kk hmk hb hmn hkk
    have hok := wSt_ok (w 113) m
    rw [← hb] at hok
    refine wp_iload_n (pc' := 7) rfl rfl rfl ?_
    refine wp_iconst (a := 4) (pc' := 8) rfl rfl rfl ?_
    refine wp_icmp_gt (pc' := 11) (pt := 80) rfl rfl rfl (fun q_1 => ?_) (fun q_1 => ?_)
    · skip
      refine wp_iload_n (pc' := 81) rfl rfl rfl ?_
      refine wp_iconst (a := 1) (pc' := 82) rfl rfl rfl ?_
      refine wp_icmp_le (pc' := 85) (pt := 89) rfl rfl rfl (fun q_2 => ?_) (fun q_2 => ?_)
      · skip
        refine wp_iload_n (pc' := 90) rfl rfl rfl ?_
        refine wp_ret rfl rfl rfl ?_
        refine ⟨congrArg (fun z => some (vI z)) ?_, rfl⟩
        obtain rfl : m = 4 := by omega
        unfold sWin
        rw [← hb]
        split <;> omega
      · skip
        refine wp_iconst (a := 0) (pc' := 86) rfl rfl rfl ?_
        refine wp_goto (pc' := 90) rfl rfl ?_
        refine wp_ret rfl rfl rfl ?_
        refine ⟨congrArg (fun z => some (vI z)) ?_, rfl⟩
        obtain rfl : m = 4 := by omega
        unfold sWin
        rw [← hb]
        split <;> omega
    · skip
      exfalso; omega
  | succ k ih =>
    intro m b mn kk hmk hb hmn hkk
    have hok := wSt_ok (w 113) m
    rw [← hb] at hok
    refine wp_iload_n (pc' := 7) rfl rfl rfl ?_
    refine wp_iconst (a := 4) (pc' := 8) rfl rfl rfl ?_
    refine wp_icmp_gt (pc' := 11) (pt := 80) rfl rfl rfl (fun q_1 => ?_) (fun q_1 => ?_)
    · skip
      exfalso; omega
    · skip
      refine wp_aload_n (pc' := 12) rfl rfl rfl (by decide) ?_
      refine wp_getR (r' := 113) (ci := 10) (k0 := 22) (pc' := 15) rfl rfl (by decide) (by first | assumption | rfl) (hT.get 111 rfl) ?_
      refine wp_iload_n (pc' := 16) rfl rfl rfl ?_
      refine wp_iaload (pc' := 17) rfl rfl (by first | assumption | rfl) (by omega) ?_
      refine wp_aload_n (pc' := 18) rfl rfl rfl (by decide) ?_
      refine wp_getR (r' := 113) (ci := 10) (k0 := 22) (pc' := 21) rfl rfl (by decide) (by first | assumption | rfl) (hT.get 111 rfl) ?_
      refine wp_iload_n (pc' := 22) rfl rfl rfl ?_
      refine wp_iaload (pc' := 23) rfl rfl (by first | assumption | rfl) (by omega) ?_
      refine wp_icmp_le (pc' := 26) (pt := 30) rfl rfl rfl (fun q_2 => ?_) (fun q_2 => ?_)
      · skip
        refine wp_aload_n (pc' := 31) rfl rfl rfl (by decide) ?_
        refine wp_getR (r' := 113) (ci := 10) (k0 := 22) (pc' := 34) rfl rfl (by decide) (by first | assumption | rfl) (hT.get 111 rfl) ?_
        refine wp_iload_n (pc' := 35) rfl rfl rfl ?_
        refine wp_iaload (pc' := 36) rfl rfl (by first | assumption | rfl) (by omega) ?_
        refine wp_aload_n (pc' := 37) rfl rfl rfl (by decide) ?_
        refine wp_getR (r' := 113) (ci := 10) (k0 := 22) (pc' := 40) rfl rfl (by decide) (by first | assumption | rfl) (hT.get 111 rfl) ?_
        refine wp_iload_n (pc' := 41) rfl rfl rfl ?_
        refine wp_iaload (pc' := 42) rfl rfl (by first | assumption | rfl) (by omega) ?_
        refine wp_icmp_ne (pc' := 45) (pt := 51) rfl rfl rfl (fun q_3 => ?_) (fun q_3 => ?_)
        · skip
          refine wp_iload_n (pc' := 52) rfl rfl rfl ?_
          refine wp_istore_n (pc' := 53) rfl rfl (Nat.le_of_ble_eq_true rfl) rfl ?_
          dsimp only [lset, lset2, List.set, List.getElem?_cons_zero, List.getElem?_cons_succ]
          refine wp_aload_n (pc' := 54) rfl rfl rfl (by decide) ?_
          refine wp_getR (r' := 113) (ci := 10) (k0 := 22) (pc' := 57) rfl rfl (by decide) (by first | assumption | rfl) (hT.get 111 rfl) ?_
          refine wp_iload_n (pc' := 58) rfl rfl rfl ?_
          refine wp_iaload (pc' := 59) rfl rfl (by first | assumption | rfl) (by omega) ?_
          refine wp_aload_n (pc' := 60) rfl rfl rfl (by decide) ?_
          refine wp_getR (r' := 113) (ci := 10) (k0 := 22) (pc' := 63) rfl rfl (by decide) (by first | assumption | rfl) (hT.get 111 rfl) ?_
          refine wp_iload_n (pc' := 64) rfl rfl rfl ?_
          refine wp_iaload (pc' := 65) rfl rfl (by first | assumption | rfl) (by omega) ?_
          refine wp_icmp_le (pc' := 68) (pt := 72) rfl rfl rfl (fun q_4 => ?_) (fun q_4 => ?_)
          · skip
            refine wp_iload_n (pc' := 73) rfl rfl rfl ?_
            refine wp_istore_n (pc' := 74) rfl rfl (Nat.le_of_ble_eq_true rfl) rfl ?_
            dsimp only [lset, lset2, List.set, List.getElem?_cons_zero, List.getElem?_cons_succ]
            refine wp_iinc (pc' := 77) rfl rfl rfl (inc_id (by omega) (by omega)) rfl ?_
            dsimp only [lset, lset2, List.set, List.getElem?_cons_zero, List.getElem?_cons_succ]
            refine wp_goto (pc' := 6) rfl rfl ?_
            exact ih (m + 1) _ _ _ (by omega) (by rw [wSt, ← hb]; subst hkk; first | (rw [if_pos (by omega)]; done) | (rw [if_neg (by omega), if_pos (by omega)]; done) | (rw [if_neg (by omega), if_neg (by omega)]; exact hb)) (by rw [wSt, ← hb]; subst hkk; first | (rw [if_pos (by omega)]; dsimp only; omega) | (rw [if_neg (by omega), if_pos (by omega)]; dsimp only; omega) | (rw [if_neg (by omega), if_neg (by omega)]; omega)) (by omega)
          · skip
            refine wp_iload_n (pc' := 69) rfl rfl rfl ?_
            refine wp_goto (pc' := 73) rfl rfl ?_
            refine wp_istore_n (pc' := 74) rfl rfl (Nat.le_of_ble_eq_true rfl) rfl ?_
            dsimp only [lset, lset2, List.set, List.getElem?_cons_zero, List.getElem?_cons_succ]
            refine wp_iinc (pc' := 77) rfl rfl rfl (inc_id (by omega) (by omega)) rfl ?_
            dsimp only [lset, lset2, List.set, List.getElem?_cons_zero, List.getElem?_cons_succ]
            refine wp_goto (pc' := 6) rfl rfl ?_
            exact ih (m + 1) _ _ _ (by omega) (by rw [wSt, ← hb]; subst hkk; first | (rw [if_pos (by omega)]; done) | (rw [if_neg (by omega), if_pos (by omega)]; done) | (rw [if_neg (by omega), if_neg (by omega)]; exact hb)) (by rw [wSt, ← hb]; subst hkk; first | (rw [if_pos (by omega)]; dsimp only; omega) | (rw [if_neg (by omega), if_pos (by omega)]; dsimp only; omega) | (rw [if_neg (by omega), if_neg (by omega)]; omega)) (by omega)
        · skip
          refine wp_iload_n (pc' := 46) rfl rfl rfl ?_
          refine wp_iconst (a := 1) (pc' := 47) rfl rfl rfl ?_
          refine wp_iadd (pc' := 48) rfl rfl (by first | exact w32_id (by omega) (by omega) | rfl) ?_
          refine wp_goto (pc' := 52) rfl rfl ?_
          refine wp_istore_n (pc' := 53) rfl rfl (Nat.le_of_ble_eq_true rfl) rfl ?_
          dsimp only [lset, lset2, List.set, List.getElem?_cons_zero, List.getElem?_cons_succ]
          refine wp_aload_n (pc' := 54) rfl rfl rfl (by decide) ?_
          refine wp_getR (r' := 113) (ci := 10) (k0 := 22) (pc' := 57) rfl rfl (by decide) (by first | assumption | rfl) (hT.get 111 rfl) ?_
          refine wp_iload_n (pc' := 58) rfl rfl rfl ?_
          refine wp_iaload (pc' := 59) rfl rfl (by first | assumption | rfl) (by omega) ?_
          refine wp_aload_n (pc' := 60) rfl rfl rfl (by decide) ?_
          refine wp_getR (r' := 113) (ci := 10) (k0 := 22) (pc' := 63) rfl rfl (by decide) (by first | assumption | rfl) (hT.get 111 rfl) ?_
          refine wp_iload_n (pc' := 64) rfl rfl rfl ?_
          refine wp_iaload (pc' := 65) rfl rfl (by first | assumption | rfl) (by omega) ?_
          refine wp_icmp_le (pc' := 68) (pt := 72) rfl rfl rfl (fun q_5 => ?_) (fun q_5 => ?_)
          · skip
            refine wp_iload_n (pc' := 73) rfl rfl rfl ?_
            refine wp_istore_n (pc' := 74) rfl rfl (Nat.le_of_ble_eq_true rfl) rfl ?_
            dsimp only [lset, lset2, List.set, List.getElem?_cons_zero, List.getElem?_cons_succ]
            refine wp_iinc (pc' := 77) rfl rfl rfl (inc_id (by omega) (by omega)) rfl ?_
            dsimp only [lset, lset2, List.set, List.getElem?_cons_zero, List.getElem?_cons_succ]
            refine wp_goto (pc' := 6) rfl rfl ?_
            exact ih (m + 1) _ _ _ (by omega) (by rw [wSt, ← hb]; subst hkk; first | (rw [if_pos (by omega)]; done) | (rw [if_neg (by omega), if_pos (by omega)]; done) | (rw [if_neg (by omega), if_neg (by omega)]; exact hb)) (by rw [wSt, ← hb]; subst hkk; first | (rw [if_pos (by omega)]; dsimp only; omega) | (rw [if_neg (by omega), if_pos (by omega)]; dsimp only; omega) | (rw [if_neg (by omega), if_neg (by omega)]; omega)) (by omega)
          · skip
            refine wp_iload_n (pc' := 69) rfl rfl rfl ?_
            refine wp_goto (pc' := 73) rfl rfl ?_
            refine wp_istore_n (pc' := 74) rfl rfl (Nat.le_of_ble_eq_true rfl) rfl ?_
            dsimp only [lset, lset2, List.set, List.getElem?_cons_zero, List.getElem?_cons_succ]
            refine wp_iinc (pc' := 77) rfl rfl rfl (inc_id (by omega) (by omega)) rfl ?_
            dsimp only [lset, lset2, List.set, List.getElem?_cons_zero, List.getElem?_cons_succ]
            refine wp_goto (pc' := 6) rfl rfl ?_
            exact ih (m + 1) _ _ _ (by omega) (by rw [wSt, ← hb]; subst hkk; first | (rw [if_pos (by omega)]; done) | (rw [if_neg (by omega), if_pos (by omega)]; done) | (rw [if_neg (by omega), if_neg (by omega)]; exact hb)) (by rw [wSt, ← hb]; subst hkk; first | (rw [if_pos (by omega)]; dsimp only; omega) | (rw [if_neg (by omega), if_pos (by omega)]; dsimp only; omega) | (rw [if_neg (by omega), if_neg (by omega)]; omega)) (by omega)
      · skip
        refine wp_iconst (a := 1) (pc' := 27) rfl rfl rfl ?_
        refine wp_goto (pc' := 52) rfl rfl ?_
        refine wp_istore_n (pc' := 53) rfl rfl (Nat.le_of_ble_eq_true rfl) rfl ?_
        dsimp only [lset, lset2, List.set, List.getElem?_cons_zero, List.getElem?_cons_succ]
        refine wp_aload_n (pc' := 54) rfl rfl rfl (by decide) ?_
        refine wp_getR (r' := 113) (ci := 10) (k0 := 22) (pc' := 57) rfl rfl (by decide) (by first | assumption | rfl) (hT.get 111 rfl) ?_
        refine wp_iload_n (pc' := 58) rfl rfl rfl ?_
        refine wp_iaload (pc' := 59) rfl rfl (by first | assumption | rfl) (by omega) ?_
        refine wp_aload_n (pc' := 60) rfl rfl rfl (by decide) ?_
        refine wp_getR (r' := 113) (ci := 10) (k0 := 22) (pc' := 63) rfl rfl (by decide) (by first | assumption | rfl) (hT.get 111 rfl) ?_
        refine wp_iload_n (pc' := 64) rfl rfl rfl ?_
        refine wp_iaload (pc' := 65) rfl rfl (by first | assumption | rfl) (by omega) ?_
        refine wp_icmp_le (pc' := 68) (pt := 72) rfl rfl rfl (fun q_6 => ?_) (fun q_6 => ?_)
        · skip
          refine wp_iload_n (pc' := 73) rfl rfl rfl ?_
          refine wp_istore_n (pc' := 74) rfl rfl (Nat.le_of_ble_eq_true rfl) rfl ?_
          dsimp only [lset, lset2, List.set, List.getElem?_cons_zero, List.getElem?_cons_succ]
          refine wp_iinc (pc' := 77) rfl rfl rfl (inc_id (by omega) (by omega)) rfl ?_
          dsimp only [lset, lset2, List.set, List.getElem?_cons_zero, List.getElem?_cons_succ]
          refine wp_goto (pc' := 6) rfl rfl ?_
          exact ih (m + 1) _ _ _ (by omega) (by rw [wSt, ← hb]; subst hkk; first | (rw [if_pos (by omega)]; done) | (rw [if_neg (by omega), if_pos (by omega)]; done) | (rw [if_neg (by omega), if_neg (by omega)]; exact hb)) (by rw [wSt, ← hb]; subst hkk; first | (rw [if_pos (by omega)]; dsimp only; omega) | (rw [if_neg (by omega), if_pos (by omega)]; dsimp only; omega) | (rw [if_neg (by omega), if_neg (by omega)]; omega)) (by omega)
        · skip
          refine wp_iload_n (pc' := 69) rfl rfl rfl ?_
          refine wp_goto (pc' := 73) rfl rfl ?_
          refine wp_istore_n (pc' := 74) rfl rfl (Nat.le_of_ble_eq_true rfl) rfl ?_
          dsimp only [lset, lset2, List.set, List.getElem?_cons_zero, List.getElem?_cons_succ]
          refine wp_iinc (pc' := 77) rfl rfl rfl (inc_id (by omega) (by omega)) rfl ?_
          dsimp only [lset, lset2, List.set, List.getElem?_cons_zero, List.getElem?_cons_succ]
          refine wp_goto (pc' := 6) rfl rfl ?_
          exact ih (m + 1) _ _ _ (by omega) (by rw [wSt, ← hb]; subst hkk; first | (rw [if_pos (by omega)]; done) | (rw [if_neg (by omega), if_pos (by omega)]; done) | (rw [if_neg (by omega), if_neg (by omega)]; exact hb)) (by rw [wSt, ← hb]; subst hkk; first | (rw [if_pos (by omega)]; dsimp only; omega) | (rw [if_neg (by omega), if_pos (by omega)]; dsimp only; omega) | (rw [if_neg (by omega), if_neg (by omega)]; omega)) (by omega)
set_option maxRecDepth 20000 in
set_option maxHeartbeats 4000000 in
theorem l_carried0 {w : Hp} {d : Nat} (hT : Stc w) : WP SH d 179 6 [some (vR 100), some (vI 0), some (vI 0), some (vI 0)] [] w (fun v w' => v = some (vI (sWin (w 113))) ∧ w' = w) := by
  refine wp_iload_n (pc' := 7) rfl rfl rfl ?_
  refine wp_iconst (a := 4) (pc' := 8) rfl rfl rfl ?_
  refine wp_icmp_gt (pc' := 11) (pt := 80) rfl rfl rfl (fun q_1 => ?_) (fun q_1 => ?_)
  · skip
    exfalso; omega
  · skip
    refine wp_aload_n (pc' := 12) rfl rfl rfl (by decide) ?_
    refine wp_getR (r' := 113) (ci := 10) (k0 := 22) (pc' := 15) rfl rfl (by decide) (by first | assumption | rfl) (hT.get 111 rfl) ?_
    refine wp_iload_n (pc' := 16) rfl rfl rfl ?_
    refine wp_iaload (pc' := 17) rfl rfl (by first | assumption | rfl) (by omega) ?_
    refine wp_aload_n (pc' := 18) rfl rfl rfl (by decide) ?_
    refine wp_getR (r' := 113) (ci := 10) (k0 := 22) (pc' := 21) rfl rfl (by decide) (by first | assumption | rfl) (hT.get 111 rfl) ?_
    refine wp_iload_n (pc' := 22) rfl rfl rfl ?_
    refine wp_iaload (pc' := 23) rfl rfl (by first | assumption | rfl) (by omega) ?_
    refine wp_icmp_le (pc' := 26) (pt := 30) rfl rfl rfl (fun q_2 => ?_) (fun q_2 => ?_)
    · skip
      refine wp_aload_n (pc' := 31) rfl rfl rfl (by decide) ?_
      refine wp_getR (r' := 113) (ci := 10) (k0 := 22) (pc' := 34) rfl rfl (by decide) (by first | assumption | rfl) (hT.get 111 rfl) ?_
      refine wp_iload_n (pc' := 35) rfl rfl rfl ?_
      refine wp_iaload (pc' := 36) rfl rfl (by first | assumption | rfl) (by omega) ?_
      refine wp_aload_n (pc' := 37) rfl rfl rfl (by decide) ?_
      refine wp_getR (r' := 113) (ci := 10) (k0 := 22) (pc' := 40) rfl rfl (by decide) (by first | assumption | rfl) (hT.get 111 rfl) ?_
      refine wp_iload_n (pc' := 41) rfl rfl rfl ?_
      refine wp_iaload (pc' := 42) rfl rfl (by first | assumption | rfl) (by omega) ?_
      refine wp_icmp_ne (pc' := 45) (pt := 51) rfl rfl rfl (fun q_3 => ?_) (fun q_3 => ?_)
      · skip
        exfalso; omega
      · skip
        refine wp_iload_n (pc' := 46) rfl rfl rfl ?_
        refine wp_iconst (a := 1) (pc' := 47) rfl rfl rfl ?_
        refine wp_iadd (pc' := 48) rfl rfl (by first | exact w32_id (by omega) (by omega) | rfl) ?_
        refine wp_goto (pc' := 52) rfl rfl ?_
        refine wp_istore_n (pc' := 53) rfl rfl (Nat.le_of_ble_eq_true rfl) rfl ?_
        dsimp only [lset, lset2, List.set, List.getElem?_cons_zero, List.getElem?_cons_succ]
        refine wp_aload_n (pc' := 54) rfl rfl rfl (by decide) ?_
        refine wp_getR (r' := 113) (ci := 10) (k0 := 22) (pc' := 57) rfl rfl (by decide) (by first | assumption | rfl) (hT.get 111 rfl) ?_
        refine wp_iload_n (pc' := 58) rfl rfl rfl ?_
        refine wp_iaload (pc' := 59) rfl rfl (by first | assumption | rfl) (by omega) ?_
        refine wp_aload_n (pc' := 60) rfl rfl rfl (by decide) ?_
        refine wp_getR (r' := 113) (ci := 10) (k0 := 22) (pc' := 63) rfl rfl (by decide) (by first | assumption | rfl) (hT.get 111 rfl) ?_
        refine wp_iload_n (pc' := 64) rfl rfl rfl ?_
        refine wp_iaload (pc' := 65) rfl rfl (by first | assumption | rfl) (by omega) ?_
        refine wp_icmp_le (pc' := 68) (pt := 72) rfl rfl rfl (fun q_4 => ?_) (fun q_4 => ?_)
        · skip
          refine wp_iload_n (pc' := 73) rfl rfl rfl ?_
          refine wp_istore_n (pc' := 74) rfl rfl (Nat.le_of_ble_eq_true rfl) rfl ?_
          dsimp only [lset, lset2, List.set, List.getElem?_cons_zero, List.getElem?_cons_succ]
          refine wp_iinc (pc' := 77) rfl rfl rfl (inc_id (by omega) (by omega)) rfl ?_
          dsimp only [lset, lset2, List.set, List.getElem?_cons_zero, List.getElem?_cons_succ]
          refine wp_goto (pc' := 6) rfl rfl ?_
          exact l_carried hT 4 0 _ _ _ rfl rfl ⟨by decide, by decide, by simp [wSt]⟩ rfl
        · skip
          exfalso; omega
    · skip
      exfalso; omega
set_option maxRecDepth 20000 in
set_option maxHeartbeats 4000000 in
theorem c_Mod_carried {w : Hp} {d : Nat} (hT : Stc w) : WP SH (d + 0) 179 0 [some (vR 100), none, none, none] [] w (fun v w' => v = some (vI (sWin (w 113))) ∧ w' = w) := by
  refine wp_iconst (a := 0) (pc' := 1) rfl rfl rfl ?_
  refine wp_istore_n (pc' := 2) rfl rfl (Nat.le_of_ble_eq_true rfl) rfl ?_
  dsimp only [lset, lset2, List.set, List.getElem?_cons_zero, List.getElem?_cons_succ]
  refine wp_iconst (a := 0) (pc' := 3) rfl rfl rfl ?_
  refine wp_istore_n (pc' := 4) rfl rfl (Nat.le_of_ble_eq_true rfl) rfl ?_
  dsimp only [lset, lset2, List.set, List.getElem?_cons_zero, List.getElem?_cons_succ]
  refine wp_iconst (a := 0) (pc' := 5) rfl rfl rfl ?_
  refine wp_istore_n (pc' := 6) rfl rfl (Nat.le_of_ble_eq_true rfl) rfl ?_
  dsimp only [lset, lset2, List.set, List.getElem?_cons_zero, List.getElem?_cons_succ]
  exact l_carried0 hT
end
section
/-! hearths heaped up for each way -/
/-- nothing but the cells of L has changed -/
def Same (w w' : Hp) (L : List Int) : Prop := ∀ r : Int, r ∉ L → w' r = w r
theorem Same.rf (w : Hp) (L : List Int) : Same w w L := fun _ _ => rfl
theorem Same.tr {a b c : Hp} {L : List Int} (h1 : Same a b L) (h2 : Same b c L) : Same a c L := fun r hr => (h2 r hr).trans (h1 r hr)
theorem Same.mono {a b : Hp} {L M : List Int} (h : Same a b L) (hL : ∀ r ∈ L, r ∈ M) : Same a b M := fun r hr => h r (fun z => hr (hL r z))
theorem Same.put {w w1 : Hp} {L : List Int} (h : Same w w1 L) {r i x : Int} (hr : r ∈ L) : Same w (up w1 r i x) L := fun q hq => by
  rw [up_ne (fun z => hq (by rw [z]; exact hr))]
  exact h q hq
theorem up_eq (w : Hp) (r i x : Int) : up w r i x r i = x := by unfold up; rw [if_pos ⟨rfl, rfl⟩]
theorem up_at {w : Hp} {r i x j : Int} (h : j ≠ i) : up w r i x r j = w r j := by unfold up; rw [if_neg (fun z => h z.2)]
theorem Stc.same {w w' : Hp} {L : List Int} (h : Stc w) (hs : Same w w' L) (hL : refTab.all (fun q => decide (q.1 ∉ L)) = true) : Stc w' := fun q hq => by
  rw [hs q.1 (of_decide_eq_true (List.all_eq_true.mp hL q hq))]
  exact h q hq
def fHeap (V G : Int → Int) (way : Int) : Int → Int := fun i => if V i = way then G i else 0
theorem heap_bd {V G : Int → Int} {way n : Int} (h0 : 0 ≤ n) (hn : n ≤ 6) (h : ∀ j : Int, 0 ≤ j → j < n → 1 ≤ G j ∧ G j ≤ 9) : 0 ≤ sumI (fHeap V G way) n ∧ sumI (fHeap V G way) n ≤ 54 := by
  have h1 := sumI_bd (f := fHeap V G way) (lo := 0) (hi := 9) h0 (fun j a b => by
    have := h j a b
    unfold fHeap
    split <;> omega)
  omega
theorem bit0 {i : Int} (h : 0 ≤ i ∧ i < 6) : bit 0 i = 0 := by
  have : i = 0 ∨ i = 1 ∨ i = 2 ∨ i = 3 ∨ i = 4 ∨ i = 5 := by omega
  rcases this with rfl | rfl | rfl | rfl | rfl | rfl <;> decide
def vOf (set ow : Int) (C : Int → Int) : Int → Int := fun i => if bit set i = 0 then C i else ow

set_option maxRecDepth 20000 in
set_option maxHeartbeats 4000000 in
theorem l_heap1 {w : Hp} {d : Nat} {set ow : Int} {Q : Option PV → Hp → Prop} (hT0 : Stc w) (hn : 1 ≤ w 3 2 ∧ w 3 2 ≤ 6) (hg : ∀ j : Int, 0 ≤ j → j < w 3 2 → 1 ≤ w 6 j ∧ w 6 j ≤ 9) {x5 : Option PV} (K : ∀ w1 : Hp, Same w w1 [25] → (∀ j : Int, 0 ≤ j → j < 5 → w1 25 j = 0) → WP SH d 4 23 [some (vR 23), some (vR 3), some (vI set), some (vI ow), some (vI 5), x5] [] w1 Q) : ∀ (k : Nat) (i : Int) (w1 : Hp), 0 ≤ i → i + k = 5 → Same w w1 [25] → (∀ j : Int, 0 ≤ j → j < i → w1 25 j = 0) → WP SH d 4 3 [some (vR 23), some (vR 3), some (vI set), some (vI ow), some (vI i), x5] [] w1 Q := by
  intro k
  induction k with
  | zero =>
    intro i w1 hi0 hik hS hz
    have hT := hT0.same hS (by decide)
    have e3 : w1 3 = w 3 := hS 3 (by decide)
    have e32 : w1 3 2 = w 3 2 := by rw [e3]
    refine wp_iload (pc' := 5) rfl rfl rfl ?_
    refine wp_iconst (a := 5) (pc' := 6) rfl rfl rfl ?_
    refine wp_icmp_ge (pc' := 9) (pt := 23) rfl rfl rfl (fun q_1 => ?_) (fun q_1 => ?_)
    · skip
      obtain rfl : i = 5 := by omega
      exact K w1 hS hz
    · skip
      exfalso; omega
  | succ k ih =>
    intro i w1 hi0 hik hS hz
    have hT := hT0.same hS (by decide)
    have e3 : w1 3 = w 3 := hS 3 (by decide)
    have e32 : w1 3 2 = w 3 2 := by rw [e3]
    refine wp_iload (pc' := 5) rfl rfl rfl ?_
    refine wp_iconst (a := 5) (pc' := 6) rfl rfl rfl ?_
    refine wp_icmp_ge (pc' := 9) (pt := 23) rfl rfl rfl (fun q_1 => ?_) (fun q_1 => ?_)
    · skip
      exfalso; omega
    · skip
      refine wp_aload_n (pc' := 10) rfl rfl rfl (by decide) ?_
      refine wp_getR (r' := 25) (ci := 0) (k0 := 1) (pc' := 13) rfl rfl (by decide) (by first | assumption | rfl) (hT.get 43 rfl) ?_
      refine wp_iload (pc' := 15) rfl rfl rfl ?_
      refine wp_iconst (a := 0) (pc' := 16) rfl rfl rfl ?_
      refine wp_iastore (pc' := 17) rfl rfl (by first | assumption | rfl) (by omega) ?_
      refine wp_iinc (pc' := 20) rfl rfl rfl (inc_id (by omega) (by omega)) rfl ?_
      dsimp only [lset, lset2, List.set, List.getElem?_cons_zero, List.getElem?_cons_succ]
      refine wp_goto (pc' := 3) rfl rfl ?_
      exact ih _ _ (by omega) (by omega) (hS.put (by decide)) (fun j a b => by
        by_cases hj : j = i
        · rw [hj, up_eq]
        · rw [up_at hj]; exact hz j a (by omega))
set_option maxRecDepth 20000 in
set_option maxHeartbeats 4000000 in
theorem l_heap2 {w : Hp} {d : Nat} {set ow : Int} (hT0 : Stc w) (hn : 1 ≤ w 3 2 ∧ w 3 2 ≤ 6) (hg : ∀ j : Int, 0 ≤ j → j < w 3 2 → 1 ≤ w 6 j ∧ w 6 j ≤ 9) : ∀ (k : Nat) (i : Int) (w1 : Hp) (x5 : Option PV), 0 ≤ i → i + k = w 3 2 → Same w w1 [25] → (∀ j : Int, 0 ≤ j → j < 5 → w1 25 j = sumI (fHeap (vOf set ow (w 24)) (w 6) j) i) → WP SH d 4 26 [some (vR 23), some (vR 3), some (vI set), some (vI ow), some (vI i), x5] [] w1 (fun v w' => v = none ∧ Same w w' [25] ∧ ∀ j : Int, 0 ≤ j → j < 5 → w' 25 j = sumI (fHeap (vOf set ow (w 24)) (w 6) j) (w 3 2)) := by
  intro k
  induction k with
  | zero =>
    intro i w1 x5 hi0 hik hS hz
    have hT := hT0.same hS (by decide)
    have e3 : w1 3 = w 3 := hS 3 (by decide)
    have e32 : w1 3 2 = w 3 2 := by rw [e3]
    have e24 : w1 24 i = w 24 i := by rw [hS 24 (by decide)]
    have e6 : w1 6 i = w 6 i := by rw [hS 6 (by decide)]
    have hbit : bit set i = iAnd (iShr set i) 1 := rfl
    have hvo : vOf set ow (w 24) i = if bit set i = 0 then w 24 i else ow := rfl
    refine wp_iload (pc' := 28) rfl rfl rfl ?_
    refine wp_aload_n (pc' := 29) rfl rfl rfl (by decide) ?_
    refine wp_getI (ci := 3) (k0 := 2) (pc' := 32) rfl rfl (by decide) (by first | assumption | rfl) ?_
    refine wp_icmp_ge (pc' := 35) (pt := 91) rfl rfl rfl (fun q_1 => ?_) (fun q_1 => ?_)
    · skip
      refine wp_ret rfl rfl rfl ?_
      exact ⟨rfl, hS, fun j a b => by rw [hz j a b, show i = w 3 2 by omega]⟩
    · skip
      exfalso; omega
  | succ k ih =>
    intro i w1 x5 hi0 hik hS hz
    have hT := hT0.same hS (by decide)
    have e3 : w1 3 = w 3 := hS 3 (by decide)
    have e32 : w1 3 2 = w 3 2 := by rw [e3]
    have e24 : w1 24 i = w 24 i := by rw [hS 24 (by decide)]
    have e6 : w1 6 i = w 6 i := by rw [hS 6 (by decide)]
    have hbit : bit set i = iAnd (iShr set i) 1 := rfl
    have hvo : vOf set ow (w 24) i = if bit set i = 0 then w 24 i else ow := rfl
    refine wp_iload (pc' := 28) rfl rfl rfl ?_
    refine wp_aload_n (pc' := 29) rfl rfl rfl (by decide) ?_
    refine wp_getI (ci := 3) (k0 := 2) (pc' := 32) rfl rfl (by decide) (by first | assumption | rfl) ?_
    refine wp_icmp_ge (pc' := 35) (pt := 91) rfl rfl rfl (fun q_1 => ?_) (fun q_1 => ?_)
    · skip
      exfalso; omega
    · skip
      have hgi := hg i hi0 (by omega)
      have hbb : ∀ j : Int, 0 ≤ j → j < 5 → 0 ≤ w1 25 j ∧ w1 25 j ≤ 54 := fun j a b => by
        rw [hz j a b]
        exact heap_bd hi0 (by omega) (fun j a b => hg j a (by omega))
      refine wp_iload_n (pc' := 36) rfl rfl rfl ?_
      refine wp_iload (pc' := 38) rfl rfl rfl ?_
      refine wp_ishr (pc' := 39) rfl rfl rfl ?_
      refine wp_iconst (a := 1) (pc' := 40) rfl rfl rfl ?_
      refine wp_iand (pc' := 41) rfl rfl rfl ?_
      refine wp_if_eq (pc' := 44) (pt := 48) rfl rfl rfl (fun q_2 => ?_) (fun q_2 => ?_)
      · skip
        refine wp_aload_n (pc' := 49) rfl rfl rfl (by decide) ?_
        refine wp_getR (r' := 24) (ci := 0) (k0 := 0) (pc' := 52) rfl rfl (by decide) (by first | assumption | rfl) (hT.get 42 rfl) ?_
        refine wp_iload (pc' := 54) rfl rfl rfl ?_
        refine wp_iaload (pc' := 55) rfl rfl (by first | assumption | rfl) (by omega) ?_
        refine wp_istore (pc' := 57) rfl rfl (Nat.le_of_ble_eq_true rfl) rfl ?_
        dsimp only [lset, lset2, List.set, List.getElem?_cons_zero, List.getElem?_cons_succ]
        refine wp_iload (pc' := 59) rfl rfl rfl ?_
        refine wp_if_lt (pc' := 62) (pt := 85) rfl rfl rfl (fun q_3 => ?_) (fun q_3 => ?_)
        · skip
          refine wp_iinc (pc' := 88) rfl rfl rfl (inc_id (by omega) (by omega)) rfl ?_
          dsimp only [lset, lset2, List.set, List.getElem?_cons_zero, List.getElem?_cons_succ]
          refine wp_goto (pc' := 26) rfl rfl ?_
          have hv : vOf set ow (w 24) i = w 24 i := by
            unfold vOf
            first | rw [if_pos (by omega)] | rw [if_neg (by omega)]
          refine ih _ _ _ (by omega) (by omega) hS (fun j a b => ?_)
          rw [sumI_s _ hi0, hz j a b]
          unfold fHeap
          rw [hv]
          split <;> omega
        · skip
          refine wp_iload (pc' := 64) rfl rfl rfl ?_
          refine wp_iconst (a := 5) (pc' := 65) rfl rfl rfl ?_
          refine wp_icmp_ge (pc' := 68) (pt := 85) rfl rfl rfl (fun q_4 => ?_) (fun q_4 => ?_)
          · skip
            refine wp_iinc (pc' := 88) rfl rfl rfl (inc_id (by omega) (by omega)) rfl ?_
            dsimp only [lset, lset2, List.set, List.getElem?_cons_zero, List.getElem?_cons_succ]
            refine wp_goto (pc' := 26) rfl rfl ?_
            have hv : vOf set ow (w 24) i = w 24 i := by
              unfold vOf
              first | rw [if_pos (by omega)] | rw [if_neg (by omega)]
            refine ih _ _ _ (by omega) (by omega) hS (fun j a b => ?_)
            rw [sumI_s _ hi0, hz j a b]
            unfold fHeap
            rw [hv]
            split <;> omega
          · skip
            refine wp_aload_n (pc' := 69) rfl rfl rfl (by decide) ?_
            refine wp_getR (r' := 25) (ci := 0) (k0 := 1) (pc' := 72) rfl rfl (by decide) (by first | assumption | rfl) (hT.get 43 rfl) ?_
            refine wp_iload (pc' := 74) rfl rfl rfl ?_
            refine wp_dup2 (pc' := 75) rfl rfl ?_
            refine wp_iaload (pc' := 76) rfl rfl (by first | assumption | rfl) (by omega) ?_
            refine wp_aload_n (pc' := 77) rfl rfl rfl (by decide) ?_
            refine wp_getR (r' := 6) (ci := 3) (k0 := 9) (pc' := 80) rfl rfl (by decide) (by first | assumption | rfl) (hT.get 25 rfl) ?_
            refine wp_iload (pc' := 82) rfl rfl rfl ?_
            refine wp_iaload (pc' := 83) rfl rfl (by first | assumption | rfl) (by omega) ?_
            refine wp_iadd (pc' := 84) rfl rfl (by first | exact w32_id (by omega) (by omega) | rfl) ?_
            refine wp_iastore (pc' := 85) rfl rfl (by first | assumption | rfl) (by omega) ?_
            refine wp_iinc (pc' := 88) rfl rfl rfl (inc_id (by omega) (by omega)) rfl ?_
            dsimp only [lset, lset2, List.set, List.getElem?_cons_zero, List.getElem?_cons_succ]
            refine wp_goto (pc' := 26) rfl rfl ?_
            have hv : vOf set ow (w 24) i = w 24 i := by
              unfold vOf
              first | rw [if_pos (by omega)] | rw [if_neg (by omega)]
            refine ih _ _ _ (by omega) (by omega) (hS.put (by decide)) (fun j a b => ?_)
            rw [sumI_s _ hi0]
            have hzj := hz j a b
            by_cases hj : j = (w1 24 i)
            · have hq := hbb j a b
              rw [hj] at hzj hq
              rw [hj, up_eq, w32_id (by omega) (by omega), hzj]
              unfold fHeap
              rw [hv]
              split <;> omega
            · rw [up_at hj, hzj]
              unfold fHeap
              rw [hv]
              split <;> omega
      · skip
        refine wp_iload_n (pc' := 45) rfl rfl rfl ?_
        refine wp_goto (pc' := 55) rfl rfl ?_
        refine wp_istore (pc' := 57) rfl rfl (Nat.le_of_ble_eq_true rfl) rfl ?_
        dsimp only [lset, lset2, List.set, List.getElem?_cons_zero, List.getElem?_cons_succ]
        refine wp_iload (pc' := 59) rfl rfl rfl ?_
        refine wp_if_lt (pc' := 62) (pt := 85) rfl rfl rfl (fun q_5 => ?_) (fun q_5 => ?_)
        · skip
          refine wp_iinc (pc' := 88) rfl rfl rfl (inc_id (by omega) (by omega)) rfl ?_
          dsimp only [lset, lset2, List.set, List.getElem?_cons_zero, List.getElem?_cons_succ]
          refine wp_goto (pc' := 26) rfl rfl ?_
          have hv : vOf set ow (w 24) i = ow := by
            unfold vOf
            first | rw [if_pos (by omega)] | rw [if_neg (by omega)]
          refine ih _ _ _ (by omega) (by omega) hS (fun j a b => ?_)
          rw [sumI_s _ hi0, hz j a b]
          unfold fHeap
          rw [hv]
          split <;> omega
        · skip
          refine wp_iload (pc' := 64) rfl rfl rfl ?_
          refine wp_iconst (a := 5) (pc' := 65) rfl rfl rfl ?_
          refine wp_icmp_ge (pc' := 68) (pt := 85) rfl rfl rfl (fun q_6 => ?_) (fun q_6 => ?_)
          · skip
            refine wp_iinc (pc' := 88) rfl rfl rfl (inc_id (by omega) (by omega)) rfl ?_
            dsimp only [lset, lset2, List.set, List.getElem?_cons_zero, List.getElem?_cons_succ]
            refine wp_goto (pc' := 26) rfl rfl ?_
            have hv : vOf set ow (w 24) i = ow := by
              unfold vOf
              first | rw [if_pos (by omega)] | rw [if_neg (by omega)]
            refine ih _ _ _ (by omega) (by omega) hS (fun j a b => ?_)
            rw [sumI_s _ hi0, hz j a b]
            unfold fHeap
            rw [hv]
            split <;> omega
          · skip
            refine wp_aload_n (pc' := 69) rfl rfl rfl (by decide) ?_
            refine wp_getR (r' := 25) (ci := 0) (k0 := 1) (pc' := 72) rfl rfl (by decide) (by first | assumption | rfl) (hT.get 43 rfl) ?_
            refine wp_iload (pc' := 74) rfl rfl rfl ?_
            refine wp_dup2 (pc' := 75) rfl rfl ?_
            refine wp_iaload (pc' := 76) rfl rfl (by first | assumption | rfl) (by omega) ?_
            refine wp_aload_n (pc' := 77) rfl rfl rfl (by decide) ?_
            refine wp_getR (r' := 6) (ci := 3) (k0 := 9) (pc' := 80) rfl rfl (by decide) (by first | assumption | rfl) (hT.get 25 rfl) ?_
            refine wp_iload (pc' := 82) rfl rfl rfl ?_
            refine wp_iaload (pc' := 83) rfl rfl (by first | assumption | rfl) (by omega) ?_
            refine wp_iadd (pc' := 84) rfl rfl (by first | exact w32_id (by omega) (by omega) | rfl) ?_
            refine wp_iastore (pc' := 85) rfl rfl (by first | assumption | rfl) (by omega) ?_
            refine wp_iinc (pc' := 88) rfl rfl rfl (inc_id (by omega) (by omega)) rfl ?_
            dsimp only [lset, lset2, List.set, List.getElem?_cons_zero, List.getElem?_cons_succ]
            refine wp_goto (pc' := 26) rfl rfl ?_
            have hv : vOf set ow (w 24) i = ow := by
              unfold vOf
              first | rw [if_pos (by omega)] | rw [if_neg (by omega)]
            refine ih _ _ _ (by omega) (by omega) (hS.put (by decide)) (fun j a b => ?_)
            rw [sumI_s _ hi0]
            have hzj := hz j a b
            by_cases hj : j = ow
            · have hq := hbb j a b
              rw [hj] at hzj hq
              rw [hj, up_eq, w32_id (by omega) (by omega), hzj]
              unfold fHeap
              rw [hv]
              split <;> omega
            · rw [up_at hj, hzj]
              unfold fHeap
              rw [hv]
              split <;> omega
set_option maxRecDepth 20000 in
set_option maxHeartbeats 4000000 in
theorem c_Ballot_heap {w : Hp} {d : Nat} {set ow : Int} (hT0 : Stc w) (hn : 1 ≤ w 3 2 ∧ w 3 2 ≤ 6) (hg : ∀ j : Int, 0 ≤ j → j < w 3 2 → 1 ≤ w 6 j ∧ w 6 j ≤ 9) : WP SH (d + 0) 4 0 [some (vR 23), some (vR 3), some (vI set), some (vI ow), none, none] [] w (fun v w' => v = none ∧ Same w w' [25] ∧ ∀ j : Int, 0 ≤ j → j < 5 → w' 25 j = sumI (fHeap (vOf set ow (w 24)) (w 6) j) (w 3 2)) := by
  refine id ?_
  refine wp_iconst (a := 0) (pc' := 1) rfl rfl rfl ?_
  refine wp_istore (pc' := 3) rfl rfl (Nat.le_of_ble_eq_true rfl) rfl ?_
  dsimp only [lset, lset2, List.set, List.getElem?_cons_zero, List.getElem?_cons_succ]
  refine l_heap1 hT0 hn hg (fun w1 hS hz => ?_) 5 0 w (by omega) (by omega) (Same.rf _ _) (fun j a b => by omega)
  refine wp_iconst (a := 0) (pc' := 24) rfl rfl rfl ?_
  refine wp_istore (pc' := 26) rfl rfl (Nat.le_of_ble_eq_true rfl) rfl ?_
  exact l_heap2 hT0 hn hg (w 3 2).toNat 0 w1 _ (by omega) (by omega) hS (fun j a b => by rw [hz j a b]; rfl)
end
section
/-! the reference's counts; votes held; years -/
theorem MdOK.same {w w' : Hp} {L : List Int} (h : MdOK w) (hs : Same w w' L) (hL : (100 : Int) ∉ L ∧ (107 : Int) ∉ L ∧ (108 : Int) ∉ L ∧ (109 : Int) ∉ L) : MdOK w' := by
  unfold MdOK
  rw [hs 100 hL.1, hs 107 hL.2.1, hs 108 hL.2.2.1, hs 109 hL.2.2.2]
  exact h
theorem LnOK.same {w w' : Hp} {L : List Int} (h : LnOK w) (hs : Same w w' L) (hL : (3 : Int) ∉ L ∧ (4 : Int) ∉ L ∧ (5 : Int) ∉ L ∧ (6 : Int) ∉ L) : LnOK w' := by
  unfold LnOK
  rw [hs 3 hL.1, hs 4 hL.2.1, hs 5 hL.2.2.1, hs 6 hL.2.2.2]
  exact h
theorem ROw.same {w w' : Hp} {L : List Int} (h : ROw w) (hs : Same w w' L) (hL : (-3 : Int) ∉ L ∧ (-4 : Int) ∉ L ∧ (-5 : Int) ∉ L) : ROw w' := by
  unfold ROw
  rw [hs _ hL.1, hs _ hL.2.1, hs _ hL.2.2]
  exact h
/-- the vote of one as the reference has it -/
def fVote (c l : Int) (K H : Int → Int) (cell back : Int) : Int → Int := fun i => sVote c l (K i) (H i) cell back
def vOfM (voting bought way : Int) (C : Int → Int) : Int → Int := fun i => if bit bought i = 1 then way else if bit voting i = 1 then C i else -9
set_option maxRecDepth 20000 in
set_option maxHeartbeats 4000000 in
theorem l_lay1 {w : Hp} {d : Nat} {cell back vt bo way : Int} (hT0 : Stc w) (hp : MdOK w) (hx : Cel (w 100 11) (w 100 12) cell) (hwy : 0 ≤ way ∧ way ≤ 4) {Q : Option PV → Hp → Prop} {x7 : Option PV} (K : ∀ w1 : Hp, Same w w1 [113] → (∀ j : Int, 0 ≤ j → j < 5 → w1 113 j = 0) → WP SH (d + 5) 178 23 [some (vR 100), some (vI cell), some (vI back), some (vI vt), some (vI bo), some (vI way), some (vI 5), x7] [] w1 Q) : ∀ (k : Nat) (i : Int) (w1 : Hp), 0 ≤ i → i + k = 5 → Same w w1 [113] → (∀ j : Int, 0 ≤ j → j < i → w1 113 j = 0) → WP SH (d + 5) 178 3 [some (vR 100), some (vI cell), some (vI back), some (vI vt), some (vI bo), some (vI way), some (vI i), x7] [] w1 Q := by
  intro k
  induction k with
  | zero =>
    intro i w1 hi0 hik hS hz
    have hT := hT0.same hS (by decide)
    have e0 : w1 100 = w 100 := hS 100 (by decide)
    have e32 : w1 100 10 = w 100 10 := by rw [e0]
    obtain ⟨hc, hn, hall⟩ := id hp
    refine wp_iload (pc' := 5) rfl rfl rfl ?_
    refine wp_iconst (a := 4) (pc' := 6) rfl rfl rfl ?_
    refine wp_icmp_gt (pc' := 9) (pt := 23) rfl rfl rfl (fun q_1 => ?_) (fun q_1 => ?_)
    · skip
      obtain rfl : i = 5 := by omega
      exact K w1 hS hz
    · skip
      exfalso; omega
  | succ k ih =>
    intro i w1 hi0 hik hS hz
    have hT := hT0.same hS (by decide)
    have e0 : w1 100 = w 100 := hS 100 (by decide)
    have e32 : w1 100 10 = w 100 10 := by rw [e0]
    obtain ⟨hc, hn, hall⟩ := id hp
    refine wp_iload (pc' := 5) rfl rfl rfl ?_
    refine wp_iconst (a := 4) (pc' := 6) rfl rfl rfl ?_
    refine wp_icmp_gt (pc' := 9) (pt := 23) rfl rfl rfl (fun q_1 => ?_) (fun q_1 => ?_)
    · skip
      exfalso; omega
    · skip
      refine wp_aload_n (pc' := 10) rfl rfl rfl (by decide) ?_
      refine wp_getR (r' := 113) (ci := 10) (k0 := 22) (pc' := 13) rfl rfl (by decide) (by first | assumption | rfl) (hT.get 111 rfl) ?_
      refine wp_iload (pc' := 15) rfl rfl rfl ?_
      refine wp_iconst (a := 0) (pc' := 16) rfl rfl rfl ?_
      refine wp_iastore (pc' := 17) rfl rfl (by first | assumption | rfl) (by omega) ?_
      refine wp_iinc (pc' := 20) rfl rfl rfl (inc_id (by omega) (by omega)) rfl ?_
      dsimp only [lset, lset2, List.set, List.getElem?_cons_zero, List.getElem?_cons_succ]
      refine wp_goto (pc' := 3) rfl rfl ?_
      refine ih _ _ (by omega) (by omega) (hS.put (by decide)) (fun j a b => ?_)
      by_cases hj : j = i
      · rw [hj, up_eq]
      · rw [up_at hj]; exact hz j a (by omega)
set_option maxRecDepth 20000 in
set_option maxHeartbeats 4000000 in
theorem l_lay2 {w : Hp} {d : Nat} {cell back vt bo way : Int} (hT0 : Stc w) (hp : MdOK w) (hx : Cel (w 100 11) (w 100 12) cell) (hwy : 0 ≤ way ∧ way ≤ 4) : ∀ (k : Nat) (i : Int) (w1 : Hp) (x7 : Option PV), 0 ≤ i → i + k = w 100 10 → Same w w1 [113] → (∀ j : Int, 0 ≤ j → j < 5 → w1 113 j = sumI (fHeap (vOfM vt bo way (fVote (w 100 11) (w 100 12) (w 107) (fun i => w 109 (3 + i)) cell back)) (w 108) j) i) → WP SH (d + 5) 178 26 [some (vR 100), some (vI cell), some (vI back), some (vI vt), some (vI bo), some (vI way), some (vI i), x7] [] w1 (fun v w' => v = none ∧ Same w w' [113] ∧ ∀ j : Int, 0 ≤ j → j < 5 → w' 113 j = sumI (fHeap (vOfM vt bo way (fVote (w 100 11) (w 100 12) (w 107) (fun i => w 109 (3 + i)) cell back)) (w 108) j) (w 100 10)) := by
  intro k
  induction k with
  | zero =>
    intro i w1 x7 hi0 hik hS hz
    have hT := hT0.same hS (by decide)
    have e0 : w1 100 = w 100 := hS 100 (by decide)
    have e32 : w1 100 10 = w 100 10 := by rw [e0]
    obtain ⟨hc, hn, hall⟩ := id hp
    have e8 : w1 108 i = w 108 i := by rw [hS 108 (by decide)]
    have hp1 := hp.same hS (by decide)
    have hcx : Cel (w1 100 11) (w1 100 12) cell := by rw [e0]; exact hx
    refine wp_iload (pc' := 28) rfl rfl rfl ?_
    refine wp_aload_n (pc' := 29) rfl rfl rfl (by decide) ?_
    refine wp_getI (ci := 10) (k0 := 10) (pc' := 32) rfl rfl (by decide) (by first | assumption | rfl) ?_
    refine wp_icmp_ge (pc' := 35) (pt := 104) rfl rfl rfl (fun q_1 => ?_) (fun q_1 => ?_)
    · skip
      refine wp_ret rfl rfl rfl ?_
      exact ⟨rfl, hS, fun j a b => by rw [hz j a b, show i = w 100 10 by omega]⟩
    · skip
      exfalso; omega
  | succ k ih =>
    intro i w1 x7 hi0 hik hS hz
    have hT := hT0.same hS (by decide)
    have e0 : w1 100 = w 100 := hS 100 (by decide)
    have e32 : w1 100 10 = w 100 10 := by rw [e0]
    obtain ⟨hc, hn, hall⟩ := id hp
    have e8 : w1 108 i = w 108 i := by rw [hS 108 (by decide)]
    have hp1 := hp.same hS (by decide)
    have hcx : Cel (w1 100 11) (w1 100 12) cell := by rw [e0]; exact hx
    refine wp_iload (pc' := 28) rfl rfl rfl ?_
    refine wp_aload_n (pc' := 29) rfl rfl rfl (by decide) ?_
    refine wp_getI (ci := 10) (k0 := 10) (pc' := 32) rfl rfl (by decide) (by first | assumption | rfl) ?_
    refine wp_icmp_ge (pc' := 35) (pt := 104) rfl rfl rfl (fun q_1 => ?_) (fun q_1 => ?_)
    · skip
      exfalso; omega
    · skip
      have hai := hall i hi0 (by omega)
      have hai1 := hp1.2.2 i hi0 (by omega)
      have hsv := @sVote_in _ _ (w 107 i) (w 109 (3 + i)) cell back hc hx
      have hbb : ∀ j : Int, 0 ≤ j → j < 5 → 0 ≤ w1 113 j ∧ w1 113 j ≤ 54 := fun j a b => by
        rw [hz j a b]
        exact heap_bd hi0 (by omega) (fun j a b => (hall j a (by omega)).2.2)
      refine wp_iload (pc' := 37) rfl rfl rfl ?_
      refine wp_iload (pc' := 39) rfl rfl rfl ?_
      refine wp_call (pc' := 42) rfl rfl rfl rfl rfl ⟨Nat.le_of_ble_eq_true rfl, Nat.le_of_ble_eq_true rfl, Nat.le_of_ble_eq_true rfl, Nat.le_of_ble_eq_true rfl, Nat.le_of_ble_eq_true rfl⟩ rfl (c_Mod_has) ?_
      rintro v1 w2 ⟨hw1, ⟨hv1, hb1⟩ | ⟨hv1, hb1⟩⟩
      · skip
        rw [hv1, hw1]
        clear hv1 hw1 v1 w2
        dsimp only [Option.toList, List.cons_append, List.nil_append, List.append_nil]
        refine wp_if_eq (pc' := 45) (pt := 50) rfl rfl rfl (fun q_2 => absurd q_2 (by decide)) (fun q_2 => ?_)
        refine wp_iload (pc' := 47) rfl rfl rfl ?_
        refine wp_goto (pc' := 72) rfl rfl ?_
        refine wp_istore (pc' := 74) rfl rfl (Nat.le_of_ble_eq_true rfl) rfl ?_
        dsimp only [lset, lset2, List.set, List.getElem?_cons_zero, List.getElem?_cons_succ]
        refine wp_iload (pc' := 76) rfl rfl rfl ?_
        refine wp_bipush (a := -9) (pc' := 78) rfl rfl rfl ?_
        refine wp_icmp_eq (pc' := 81) (pt := 98) rfl rfl rfl (fun q_3 => ?_) (fun q_3 => ?_)
        · skip
          refine wp_iinc (pc' := 101) rfl rfl rfl (inc_id (by omega) (by omega)) rfl ?_
          dsimp only [lset, lset2, List.set, List.getElem?_cons_zero, List.getElem?_cons_succ]
          refine wp_goto (pc' := 26) rfl rfl ?_
          have hv : vOfM vt bo way (fVote (w 100 11) (w 100 12) (w 107) (fun i => w 109 (3 + i)) cell back) i = way := by
            unfold vOfM
            first | rw [if_pos (by assumption)] | rw [if_neg (by assumption), if_pos (by assumption)] | rw [if_neg (by assumption), if_neg (by assumption)]
            try rfl
          refine ih _ _ _ (by omega) (by omega) hS (fun j a b => ?_)
          rw [sumI_s _ hi0, hz j a b]
          unfold fHeap
          rw [hv]
          split <;> omega
        · skip
          refine wp_aload_n (pc' := 82) rfl rfl rfl (by decide) ?_
          refine wp_getR (r' := 113) (ci := 10) (k0 := 22) (pc' := 85) rfl rfl (by decide) (by first | assumption | rfl) (hT.get 111 rfl) ?_
          refine wp_iload (pc' := 87) rfl rfl rfl ?_
          refine wp_dup2 (pc' := 88) rfl rfl ?_
          refine wp_iaload (pc' := 89) rfl rfl (by first | assumption | rfl) (by omega) ?_
          refine wp_aload_n (pc' := 90) rfl rfl rfl (by decide) ?_
          refine wp_getR (r' := 108) (ci := 10) (k0 := 14) (pc' := 93) rfl rfl (by decide) (by first | assumption | rfl) (hT.get 106 rfl) ?_
          refine wp_iload (pc' := 95) rfl rfl rfl ?_
          refine wp_iaload (pc' := 96) rfl rfl (by first | assumption | rfl) (by omega) ?_
          refine wp_iadd (pc' := 97) rfl rfl (by first | exact w32_id (by omega) (by omega) | rfl) ?_
          refine wp_iastore (pc' := 98) rfl rfl (by first | assumption | rfl) (by omega) ?_
          refine wp_iinc (pc' := 101) rfl rfl rfl (inc_id (by omega) (by omega)) rfl ?_
          dsimp only [lset, lset2, List.set, List.getElem?_cons_zero, List.getElem?_cons_succ]
          refine wp_goto (pc' := 26) rfl rfl ?_
          have hv : vOfM vt bo way (fVote (w 100 11) (w 100 12) (w 107) (fun i => w 109 (3 + i)) cell back) i = way := by
            unfold vOfM
            first | rw [if_pos (by assumption)] | rw [if_neg (by assumption), if_pos (by assumption)] | rw [if_neg (by assumption), if_neg (by assumption)]
            try rfl
          refine ih _ _ _ (by omega) (by omega) (hS.put (by decide)) (fun j a b => ?_)
          rw [sumI_s _ hi0]
          have hzj := hz j a b
          by_cases hj : j = way
          · have hq := hbb j a b
            rw [hj] at hzj hq
            rw [hj, up_eq, w32_id (by omega) (by omega), hzj]
            unfold fHeap
            rw [hv]
            split <;> omega
          · rw [up_at hj, hzj]
            unfold fHeap
            rw [hv]
            split <;> omega
      · skip
        rw [hv1, hw1]
        clear hv1 hw1 v1 w2
        dsimp only [Option.toList, List.cons_append, List.nil_append, List.append_nil]
        refine wp_if_eq (pc' := 45) (pt := 50) rfl rfl rfl (fun q_4 => ?_) (fun q_4 => absurd (by decide) q_4)
        refine wp_iload_n (pc' := 51) rfl rfl rfl ?_
        refine wp_iload (pc' := 53) rfl rfl rfl ?_
        refine wp_call (pc' := 56) rfl rfl rfl rfl rfl ⟨Nat.le_of_ble_eq_true rfl, Nat.le_of_ble_eq_true rfl, Nat.le_of_ble_eq_true rfl, Nat.le_of_ble_eq_true rfl, Nat.le_of_ble_eq_true rfl⟩ rfl (c_Mod_has) ?_
        rintro v1 w2 ⟨hw1, ⟨hv1, hb1⟩ | ⟨hv1, hb1⟩⟩
        · skip
          rw [hv1, hw1]
          clear hv1 hw1 v1 w2
          dsimp only [Option.toList, List.cons_append, List.nil_append, List.append_nil]
          refine wp_if_eq (pc' := 59) (pt := 70) rfl rfl rfl (fun q_5 => absurd q_5 (by decide)) (fun q_5 => ?_)
          refine wp_aload_n (pc' := 60) rfl rfl rfl (by decide) ?_
          refine wp_iload (pc' := 62) rfl rfl rfl ?_
          refine wp_iload_n (pc' := 63) rfl rfl rfl ?_
          refine wp_iload_n (pc' := 64) rfl rfl rfl ?_
          refine wp_call (pc' := 67) rfl rfl rfl rfl rfl ⟨Nat.le_of_ble_eq_true rfl, Nat.le_of_ble_eq_true rfl, Nat.le_of_ble_eq_true rfl, Nat.le_of_ble_eq_true rfl, Nat.le_of_ble_eq_true rfl⟩ rfl (c_Mod_voteOn (w := w1) hp1.1 hT (by omega) hcx hai1.2.1) ?_
          intro v1 w2 hq1
          rw [hq1.1, hq1.2]
          clear hq1 v1 w2
          rw [e0, hS 107 (by decide), hS 109 (by decide)]
          dsimp only [Option.toList, List.cons_append, List.nil_append, List.append_nil]
          refine wp_goto (pc' := 72) rfl rfl ?_
          refine wp_istore (pc' := 74) rfl rfl (Nat.le_of_ble_eq_true rfl) rfl ?_
          dsimp only [lset, lset2, List.set, List.getElem?_cons_zero, List.getElem?_cons_succ]
          refine wp_iload (pc' := 76) rfl rfl rfl ?_
          refine wp_bipush (a := -9) (pc' := 78) rfl rfl rfl ?_
          refine wp_icmp_eq (pc' := 81) (pt := 98) rfl rfl rfl (fun q_6 => ?_) (fun q_6 => ?_)
          · skip
            refine wp_iinc (pc' := 101) rfl rfl rfl (inc_id (by omega) (by omega)) rfl ?_
            dsimp only [lset, lset2, List.set, List.getElem?_cons_zero, List.getElem?_cons_succ]
            refine wp_goto (pc' := 26) rfl rfl ?_
            have hv : vOfM vt bo way (fVote (w 100 11) (w 100 12) (w 107) (fun i => w 109 (3 + i)) cell back) i = (sVote (w 100 11) (w 100 12) (w 107 i) (w 109 (3 + i)) cell back) := by
              unfold vOfM
              first | rw [if_pos (by assumption)] | rw [if_neg (by assumption), if_pos (by assumption)] | rw [if_neg (by assumption), if_neg (by assumption)]
              try rfl
            refine ih _ _ _ (by omega) (by omega) hS (fun j a b => ?_)
            rw [sumI_s _ hi0, hz j a b]
            unfold fHeap
            rw [hv]
            split <;> omega
          · skip
            refine wp_aload_n (pc' := 82) rfl rfl rfl (by decide) ?_
            refine wp_getR (r' := 113) (ci := 10) (k0 := 22) (pc' := 85) rfl rfl (by decide) (by first | assumption | rfl) (hT.get 111 rfl) ?_
            refine wp_iload (pc' := 87) rfl rfl rfl ?_
            refine wp_dup2 (pc' := 88) rfl rfl ?_
            refine wp_iaload (pc' := 89) rfl rfl (by first | assumption | rfl) (by omega) ?_
            refine wp_aload_n (pc' := 90) rfl rfl rfl (by decide) ?_
            refine wp_getR (r' := 108) (ci := 10) (k0 := 14) (pc' := 93) rfl rfl (by decide) (by first | assumption | rfl) (hT.get 106 rfl) ?_
            refine wp_iload (pc' := 95) rfl rfl rfl ?_
            refine wp_iaload (pc' := 96) rfl rfl (by first | assumption | rfl) (by omega) ?_
            refine wp_iadd (pc' := 97) rfl rfl (by first | exact w32_id (by omega) (by omega) | rfl) ?_
            refine wp_iastore (pc' := 98) rfl rfl (by first | assumption | rfl) (by omega) ?_
            refine wp_iinc (pc' := 101) rfl rfl rfl (inc_id (by omega) (by omega)) rfl ?_
            dsimp only [lset, lset2, List.set, List.getElem?_cons_zero, List.getElem?_cons_succ]
            refine wp_goto (pc' := 26) rfl rfl ?_
            have hv : vOfM vt bo way (fVote (w 100 11) (w 100 12) (w 107) (fun i => w 109 (3 + i)) cell back) i = (sVote (w 100 11) (w 100 12) (w 107 i) (w 109 (3 + i)) cell back) := by
              unfold vOfM
              first | rw [if_pos (by assumption)] | rw [if_neg (by assumption), if_pos (by assumption)] | rw [if_neg (by assumption), if_neg (by assumption)]
              try rfl
            refine ih _ _ _ (by omega) (by omega) (hS.put (by decide)) (fun j a b => ?_)
            rw [sumI_s _ hi0]
            have hzj := hz j a b
            by_cases hj : j = (sVote (w 100 11) (w 100 12) (w 107 i) (w 109 (3 + i)) cell back)
            · have hq := hbb j a b
              rw [hj] at hzj hq
              rw [hj, up_eq, w32_id (by omega) (by omega), hzj]
              unfold fHeap
              rw [hv]
              split <;> omega
            · rw [up_at hj, hzj]
              unfold fHeap
              rw [hv]
              split <;> omega
        · skip
          rw [hv1, hw1]
          clear hv1 hw1 v1 w2
          dsimp only [Option.toList, List.cons_append, List.nil_append, List.append_nil]
          refine wp_if_eq (pc' := 59) (pt := 70) rfl rfl rfl (fun q_7 => ?_) (fun q_7 => absurd (by decide) q_7)
          refine wp_bipush (a := -9) (pc' := 72) rfl rfl rfl ?_
          refine wp_istore (pc' := 74) rfl rfl (Nat.le_of_ble_eq_true rfl) rfl ?_
          dsimp only [lset, lset2, List.set, List.getElem?_cons_zero, List.getElem?_cons_succ]
          refine wp_iload (pc' := 76) rfl rfl rfl ?_
          refine wp_bipush (a := -9) (pc' := 78) rfl rfl rfl ?_
          refine wp_icmp_eq (pc' := 81) (pt := 98) rfl rfl rfl (fun q_8 => ?_) (fun q_8 => absurd (by decide) q_8)
          refine wp_iinc (pc' := 101) rfl rfl rfl (inc_id (by omega) (by omega)) rfl ?_
          dsimp only [lset, lset2, List.set, List.getElem?_cons_zero, List.getElem?_cons_succ]
          refine wp_goto (pc' := 26) rfl rfl ?_
          have hv : vOfM vt bo way (fVote (w 100 11) (w 100 12) (w 107) (fun i => w 109 (3 + i)) cell back) i = (-9) := by
            unfold vOfM
            first | rw [if_pos (by assumption)] | rw [if_neg (by assumption), if_pos (by assumption)] | rw [if_neg (by assumption), if_neg (by assumption)]
            try rfl
          refine ih _ _ _ (by omega) (by omega) hS (fun j a b => ?_)
          rw [sumI_s _ hi0, hz j a b]
          unfold fHeap
          rw [hv]
          split <;> omega
set_option maxRecDepth 20000 in
set_option maxHeartbeats 4000000 in
theorem c_Mod_layCounts {w : Hp} {d : Nat} {cell back vt bo way : Int} (hT0 : Stc w) (hp : MdOK w) (hx : Cel (w 100 11) (w 100 12) cell) (hwy : 0 ≤ way ∧ way ≤ 4) : WP SH (d + 5) 178 0 [some (vR 100), some (vI cell), some (vI back), some (vI vt), some (vI bo), some (vI way), none, none] [] w (fun v w' => v = none ∧ Same w w' [113] ∧ ∀ j : Int, 0 ≤ j → j < 5 → w' 113 j = sumI (fHeap (vOfM vt bo way (fVote (w 100 11) (w 100 12) (w 107) (fun i => w 109 (3 + i)) cell back)) (w 108) j) (w 100 10)) := by
  refine wp_iconst (a := 0) (pc' := 1) rfl rfl rfl ?_
  refine wp_istore (pc' := 3) rfl rfl (Nat.le_of_ble_eq_true rfl) rfl ?_
  dsimp only [lset, lset2, List.set, List.getElem?_cons_zero, List.getElem?_cons_succ]
  have hn := hp.2.1
  refine l_lay1 hT0 hp hx hwy (fun w1 hS hz => ?_) 5 0 w (by omega) (by omega) (Same.rf _ _) (fun j a b => by omega)
  refine wp_iconst (a := 0) (pc' := 24) rfl rfl rfl ?_
  refine wp_istore (pc' := 26) rfl rfl (Nat.le_of_ble_eq_true rfl) rfl ?_
  exact l_lay2 hT0 hp hx hwy (w 100 10).toNat 0 w1 _ (by omega) (by omega) hS (fun j a b => by rw [hz j a b]; rfl)
theorem every_in {n : Int} (h : 1 ≤ n ∧ n ≤ 6) : 1 ≤ iShl 1 n - 1 ∧ iShl 1 n - 1 ≤ 63 := by
  have : n = 1 ∨ n = 2 ∨ n = 3 ∨ n = 4 ∨ n = 5 ∨ n = 6 := by omega
  rcases this with rfl | rfl | rfl | rfl | rfl | rfl <;> decide
theorem every_bit {n i : Int} (h : 1 ≤ n ∧ n ≤ 6) (hi : 0 ≤ i ∧ i < n) : bit (iShl 1 n - 1) i = 1 := by
  have h1 : n = 1 ∨ n = 2 ∨ n = 3 ∨ n = 4 ∨ n = 5 ∨ n = 6 := by omega
  have h2 : i = 0 ∨ i = 1 ∨ i = 2 ∨ i = 3 ∨ i = 4 ∨ i = 5 := by omega
  rcases h1 with rfl | rfl | rfl | rfl | rfl | rfl <;> rcases h2 with rfl | rfl | rfl | rfl | rfl | rfl <;> first | decide | omega
set_option maxRecDepth 20000 in
set_option maxHeartbeats 4000000 in
theorem c_Mod_everybody {w : Hp} {d : Nat} (hn : 1 ≤ w 100 10 ∧ w 100 10 ≤ 6) : WP SH (d + 0) 180 0 [some (vR 100)] [] w (fun v w' => v = some (vI (iShl 1 (w 100 10) - 1)) ∧ w' = w) := by
  have hev := every_in hn
  refine wp_iconst (a := 1) (pc' := 1) rfl rfl rfl ?_
  refine wp_aload_n (pc' := 2) rfl rfl rfl (by decide) ?_
  refine wp_getI (ci := 10) (k0 := 10) (pc' := 5) rfl rfl (by decide) (by first | assumption | rfl) ?_
  refine wp_ishl (pc' := 6) rfl rfl rfl ?_
  refine wp_iconst (a := 1) (pc' := 7) rfl rfl rfl ?_
  refine wp_isub (pc' := 8) rfl rfl (by first | exact w32_id (by omega) (by omega) | rfl) ?_
  refine wp_ret rfl rfl rfl ?_
  exact ⟨rfl, rfl⟩
theorem vOfM_all {n way : Int} {C : Int → Int} {G : Int → Int} (hn : 1 ≤ n ∧ n ≤ 6) (j : Int) : sumI (fHeap (vOfM (iShl 1 n - 1) 0 way C) G j) n = sumI (fHeap C G j) n := by
  refine sumI_congr (fun i a b => ?_)
  have e : vOfM (iShl 1 n - 1) 0 way C i = C i := by
    unfold vOfM
    rw [if_neg (fun z => by rw [bit0 (by omega)] at z; omega), if_pos (every_bit hn ⟨a, b⟩)]
  unfold fHeap
  rw [e]
set_option maxRecDepth 20000 in
set_option maxHeartbeats 4000000 in
theorem c_Mod_carriedFrom {w : Hp} {d : Nat} {cell back : Int} (hT : Stc w) (hp : MdOK w) (hx : Cel (w 100 11) (w 100 12) cell) : WP SH (d + 6) 181 0 [some (vR 100), some (vI cell), some (vI back)] [] w (fun v w' => v = some (vI (sWin (fun j => sumI (fHeap (fVote (w 100 11) (w 100 12) (w 107) (fun i => w 109 (3 + i)) cell back) (w 108) j) (w 100 10)))) ∧ Same w w' [113] ∧ ∀ j : Int, 0 ≤ j → j < 5 → w' 113 j = (fun j => sumI (fHeap (fVote (w 100 11) (w 100 12) (w 107) (fun i => w 109 (3 + i)) cell back) (w 108) j) (w 100 10)) j) := by
  refine wp_aload_n (pc' := 1) rfl rfl rfl (by decide) ?_
  refine wp_iload_n (pc' := 2) rfl rfl rfl ?_
  refine wp_iload_n (pc' := 3) rfl rfl rfl ?_
  refine wp_aload_n (pc' := 4) rfl rfl rfl (by decide) ?_
  refine wp_call (pc' := 7) rfl rfl rfl rfl rfl ⟨Nat.le_of_ble_eq_true rfl, Nat.le_of_ble_eq_true rfl, Nat.le_of_ble_eq_true rfl, Nat.le_of_ble_eq_true rfl, Nat.le_of_ble_eq_true rfl⟩ rfl (c_Mod_everybody hp.2.1) ?_
  intro v1 w1 hq1
  rw [hq1.1, hq1.2]
  clear hq1 v1 w1
  dsimp only [Option.toList, List.cons_append, List.nil_append, List.append_nil]
  refine wp_iconst (a := 0) (pc' := 8) rfl rfl rfl ?_
  refine wp_iconst (a := 0) (pc' := 9) rfl rfl rfl ?_
  refine wp_call (pc' := 12) rfl rfl rfl rfl rfl ⟨Nat.le_of_ble_eq_true rfl, Nat.le_of_ble_eq_true rfl, Nat.le_of_ble_eq_true rfl, Nat.le_of_ble_eq_true rfl, Nat.le_of_ble_eq_true rfl⟩ rfl (c_Mod_layCounts hT hp hx (by decide)) ?_
  rintro v1 w1 ⟨hv1, hS, hz0⟩
  rw [hv1]
  clear hv1 v1
  have hT1 := hT.same hS (by decide)
  have hz : ∀ j : Int, 0 ≤ j → j < 5 → w1 113 j = (fun j => sumI (fHeap (fVote (w 100 11) (w 100 12) (w 107) (fun i => w 109 (3 + i)) cell back) (w 108) j) (w 100 10)) j := fun j a b => by
    rw [hz0 j a b, vOfM_all hp.2.1]
  dsimp only [Option.toList, List.cons_append, List.nil_append, List.append_nil]
  refine wp_aload_n (pc' := 13) rfl rfl rfl (by decide) ?_
  refine wp_call (pc' := 16) rfl rfl rfl rfl rfl ⟨Nat.le_of_ble_eq_true rfl, Nat.le_of_ble_eq_true rfl, Nat.le_of_ble_eq_true rfl, Nat.le_of_ble_eq_true rfl, Nat.le_of_ble_eq_true rfl⟩ rfl (c_Mod_carried hT1) ?_
  intro v1 w2 hq1
  rw [hq1.1, hq1.2]
  clear hq1 v1 w2
  dsimp only [Option.toList, List.cons_append, List.nil_append, List.append_nil]
  refine wp_ret rfl rfl rfl ?_
  refine ⟨congrArg (fun z => some (vI z)) (sWin_congr (fun j a b => hz j a (by omega))), hS, hz⟩
end
section
/-! a vote held, a year aside -/
theorem wSt_pos (f : Int → Int) : ∀ m : Nat, f 0 ≤ f (wSt f m).1 ∧ ((wSt f m).1 ≠ 0 → f 0 < f (wSt f m).1) := by
  intro m
  induction m with
  | zero => exact ⟨by simp [wSt], by simp [wSt]⟩
  | succ m ih =>
    unfold wSt
    split
    · dsimp only
      exact ⟨by omega, fun _ => by omega⟩
    · split
      · exact ih
      · exact ih
theorem sumN_pos {f : Int → Int} : ∀ {n : Nat}, (∀ j : Int, 0 ≤ j → j < n → 0 ≤ f j) → 0 < sumN f n → ∃ j : Int, 0 ≤ j ∧ j < n ∧ 0 < f j := by
  intro n
  induction n with
  | zero => intro _ h; simp [sumN] at h
  | succ n ih =>
    intro h hp
    unfold sumN at hp
    by_cases hn : 0 < f n
    · exact ⟨n, by omega, by omega, hn⟩
    · obtain ⟨j, a, b, c⟩ := ih (fun j a b => h j a (by omega)) (by omega)
      exact ⟨j, a, by omega, c⟩
theorem sumN_nn {f : Int → Int} : ∀ {n : Nat}, (∀ j : Int, 0 ≤ j → j < n → 0 ≤ f j) → 0 ≤ sumN f n := by
  intro n
  induction n with
  | zero => intro _; simp [sumN]
  | succ n ih =>
    intro h
    unfold sumN
    have h1 := ih (fun j a b => h j a (by omega))
    have h2 := h n (by omega) (by omega)
    omega
/-- the heaps of a land at a cell, the way that carries there -/
def fHp (c l n : Int) (K H G : Int → Int) (cell back : Int) : Int → Int := fun j => sumI (fHeap (fVote c l K H cell back) G j) n
def sWay (c l n : Int) (K H G : Int → Int) (cell back : Int) : Int := sWin (fHp c l n K H G cell back)
theorem sWay_ok {c l n cell back : Int} {K H G : Int → Int} (hc : CL c l) (hx : Cel c l cell) (hg : ∀ j : Int, 0 ≤ j → j < n → 1 ≤ G j ∧ G j ≤ 9) : 0 ≤ sWay c l n K H G cell back ∧ sWay c l n K H G cell back ≤ 4 ∧ sBeside c l cell (sWay c l n K H G cell back) ≠ -1 := by
  have h1 := sWin_in (fHp c l n K H G cell back)
  refine ⟨h1.1, h1.2, ?_⟩
  have hz : sBeside c l cell 0 ≠ -1 := by rw [beside0]; have := hx.1; omega
  unfold sWay sWin
  have h2 := wSt_pos (fHp c l n K H G cell back) 4
  have h3 := wSt_ok (fHp c l n K H G cell back) 4
  split
  · by_cases h0 : (wSt (fHp c l n K H G cell back) 4).1 = 0
    · rw [h0]
      exact hz
    · have h4 := h2.2 h0
      have hnn : ∀ way : Int, ∀ j : Int, 0 ≤ j → j < (n.toNat : Int) → 0 ≤ fHeap (fVote c l K H cell back) G way j := fun way j a b => by
        have := hg j a (by omega)
        unfold fHeap
        split <;> omega
      have h5 : 0 ≤ fHp c l n K H G cell back 0 := sumN_nn (hnn 0)
      have h6 : 0 < sumN (fHeap (fVote c l K H cell back) G (wSt (fHp c l n K H G cell back) 4).1) n.toNat := by
        have : fHp c l n K H G cell back (wSt (fHp c l n K H G cell back) 4).1 = sumN (fHeap (fVote c l K H cell back) G (wSt (fHp c l n K H G cell back) 4).1) n.toNat := rfl
        omega
      obtain ⟨j, a, b, hj⟩ := sumN_pos (hnn _) h6
      unfold fHeap at hj
      split at hj
      · rename_i hv
        have h7 := @sVote_in c l (K j) (H j) cell back hc hx
        unfold fVote at hv
        rcases h7 with h7 | h7
        · omega
        · rw [hv] at h7
          exact h7.2.2
      · omega
  · exact hz
theorem fHp_congr {c l n cell back : Int} {K K' H H' G G' : Int → Int} (h : ∀ j : Int, 0 ≤ j → j < n → K j = K' j ∧ H j = H' j ∧ G j = G' j) (j : Int) : fHp c l n K H G cell back j = fHp c l n K' H' G' cell back j := by
  unfold fHp
  refine sumI_congr (fun i a b => ?_)
  obtain ⟨h1, h2, h3⟩ := h i a b
  unfold fHeap fVote
  rw [h1, h2, h3]
theorem sWay_congr {c l n cell back : Int} {K K' H H' G G' : Int → Int} (h : ∀ j : Int, 0 ≤ j → j < n → K j = K' j ∧ H j = H' j ∧ G j = G' j) : sWay c l n K H G cell back = sWay c l n K' H' G' cell back := by
  unfold sWay
  exact sWin_congr (fun j _ _ => fHp_congr h j)
set_option maxRecDepth 20000 in
set_option maxHeartbeats 4000000 in
theorem l_hold {w : Hp} {d : Nat} {cell back : Int} (hT0 : Stc w) (hr0 : ROw w) (hp : LnOK w) (hx : Cel (w 3 0) (w 3 1) cell) {Q : Option PV → Hp → Prop} (K : ∀ w1 : Hp, Same w w1 [24] → (∀ j : Int, 0 ≤ j → j < w 3 2 → w1 24 j = (fVote (w 3 0) (w 3 1) (w 4) (w 5) cell back) j) → WP SH (d + 4) 2 33 [some (vR 23), some (vR 3), some (vI cell), some (vI back), some (vI (w 3 2))] [] w1 Q) : ∀ (k : Nat) (i : Int) (w1 : Hp), 0 ≤ i → i + k = w 3 2 → Same w w1 [24] → (∀ j : Int, 0 ≤ j → j < i → w1 24 j = (fVote (w 3 0) (w 3 1) (w 4) (w 5) cell back) j) → WP SH (d + 4) 2 3 [some (vR 23), some (vR 3), some (vI cell), some (vI back), some (vI i)] [] w1 Q := by
  intro k
  induction k with
  | zero =>
    intro i w1 hi0 hik hS hz
    have hT := hT0.same hS (by decide)
    have hr := hr0.same hS (by decide)
    have e3 : w1 3 = w 3 := hS 3 (by decide)
    have e4 : w1 4 = w 4 := hS 4 (by decide)
    have e5 : w1 5 = w 5 := hS 5 (by decide)
    have e32 : w1 3 2 = w 3 2 := by rw [e3]
    obtain ⟨hc, hn, hall⟩ := id hp
    have hp1 := hp.same hS (by decide)
    have hcx : Cel (w1 3 0) (w1 3 1) cell := by rw [e3]; exact hx
    refine wp_iload (pc' := 5) rfl rfl rfl ?_
    refine wp_aload_n (pc' := 6) rfl rfl rfl (by decide) ?_
    refine wp_getI (ci := 3) (k0 := 2) (pc' := 9) rfl rfl (by decide) (by first | assumption | rfl) ?_
    refine wp_icmp_ge (pc' := 12) (pt := 33) rfl rfl rfl (fun q_1 => ?_) (fun q_1 => ?_)
    · skip
      obtain rfl : i = w 3 2 := by omega
      exact K w1 hS hz
    · skip
      exfalso; omega
  | succ k ih =>
    intro i w1 hi0 hik hS hz
    have hT := hT0.same hS (by decide)
    have hr := hr0.same hS (by decide)
    have e3 : w1 3 = w 3 := hS 3 (by decide)
    have e4 : w1 4 = w 4 := hS 4 (by decide)
    have e5 : w1 5 = w 5 := hS 5 (by decide)
    have e32 : w1 3 2 = w 3 2 := by rw [e3]
    obtain ⟨hc, hn, hall⟩ := id hp
    have hp1 := hp.same hS (by decide)
    have hcx : Cel (w1 3 0) (w1 3 1) cell := by rw [e3]; exact hx
    refine wp_iload (pc' := 5) rfl rfl rfl ?_
    refine wp_aload_n (pc' := 6) rfl rfl rfl (by decide) ?_
    refine wp_getI (ci := 3) (k0 := 2) (pc' := 9) rfl rfl (by decide) (by first | assumption | rfl) ?_
    refine wp_icmp_ge (pc' := 12) (pt := 33) rfl rfl rfl (fun q_1 => ?_) (fun q_1 => ?_)
    · skip
      exfalso; omega
    · skip
      have hai := hp1.2.2 i hi0 (by omega)
      refine wp_aload_n (pc' := 13) rfl rfl rfl (by decide) ?_
      refine wp_getR (r' := 24) (ci := 0) (k0 := 0) (pc' := 16) rfl rfl (by decide) (by first | assumption | rfl) (hT.get 42 rfl) ?_
      refine wp_iload (pc' := 18) rfl rfl rfl ?_
      refine wp_aload_n (pc' := 19) rfl rfl rfl (by decide) ?_
      refine wp_iload (pc' := 21) rfl rfl rfl ?_
      refine wp_iload_n (pc' := 22) rfl rfl rfl ?_
      refine wp_iload_n (pc' := 23) rfl rfl rfl ?_
      refine wp_call (pc' := 26) rfl rfl rfl rfl rfl ⟨Nat.le_of_ble_eq_true rfl, Nat.le_of_ble_eq_true rfl, Nat.le_of_ble_eq_true rfl, Nat.le_of_ble_eq_true rfl, Nat.le_of_ble_eq_true rfl⟩ rfl (c_Ballot_choiceOf (w := w1) hp1.1 hr hT (by omega) hai.1 hcx hai.2.1) ?_
      intro v1 w2 hq1
      rw [hq1.1, hq1.2]
      clear hq1 v1 w2
      rw [e3, e4, e5]
      dsimp only [Option.toList, List.cons_append, List.nil_append, List.append_nil]
      refine wp_iastore (pc' := 27) rfl rfl (by first | assumption | rfl) (by omega) ?_
      refine wp_iinc (pc' := 30) rfl rfl rfl (inc_id (by omega) (by omega)) rfl ?_
      dsimp only [lset, lset2, List.set, List.getElem?_cons_zero, List.getElem?_cons_succ]
      refine wp_goto (pc' := 3) rfl rfl ?_
      refine ih _ _ (by omega) (by omega) (hS.put (by decide)) (fun j a b => ?_)
      by_cases hj : j = i
      · rw [hj, up_eq]; rfl
      · rw [up_at hj]; exact hz j a (by omega)
set_option maxRecDepth 20000 in
set_option maxHeartbeats 4000000 in
theorem c_Ballot_hold {w : Hp} {d : Nat} {cell back : Int} (hT0 : Stc w) (hr0 : ROw w) (hp : LnOK w) (hx : Cel (w 3 0) (w 3 1) cell) : WP SH (d + 4) 2 0 [some (vR 23), some (vR 3), some (vI cell), some (vI back), none] [] w (fun v w' => v = none ∧ Same w w' [24, 25] ∧ (∀ j : Int, 0 ≤ j → j < w 3 2 → w' 24 j = (fVote (w 3 0) (w 3 1) (w 4) (w 5) cell back) j) ∧ ∀ j : Int, 0 ≤ j → j < 5 → w' 25 j = fHp (w 3 0) (w 3 1) (w 3 2) (w 4) (w 5) (w 6) cell back j) := by
  refine wp_iconst (a := 0) (pc' := 1) rfl rfl rfl ?_
  refine wp_istore (pc' := 3) rfl rfl (Nat.le_of_ble_eq_true rfl) rfl ?_
  dsimp only [lset, lset2, List.set, List.getElem?_cons_zero, List.getElem?_cons_succ]
  have hn := hp.2.1
  refine l_hold hT0 hr0 hp hx (fun w1 hS hz => ?_) (w 3 2).toNat 0 w (by omega) (by omega) (Same.rf _ _) (fun j a b => by omega)
  have hT := hT0.same hS (by decide)
  have hp1 := hp.same hS (by decide)
  have e32 : w1 3 2 = w 3 2 := by rw [hS 3 (by decide)]
  have e6 : w1 6 = w 6 := hS 6 (by decide)
  refine wp_aload_n (pc' := 34) rfl rfl rfl (by decide) ?_
  refine wp_aload_n (pc' := 35) rfl rfl rfl (by decide) ?_
  refine wp_iconst (a := 0) (pc' := 36) rfl rfl rfl ?_
  refine wp_bipush (a := -9) (pc' := 38) rfl rfl rfl ?_
  refine wp_call (pc' := 41) rfl rfl rfl rfl rfl ⟨Nat.le_of_ble_eq_true rfl, Nat.le_of_ble_eq_true rfl, Nat.le_of_ble_eq_true rfl, Nat.le_of_ble_eq_true rfl, Nat.le_of_ble_eq_true rfl⟩ rfl (c_Ballot_heap (w := w1) hT hp1.2.1 (fun j a b => (hp1.2.2 j a b).2.2)) ?_
  rintro v1 w2 ⟨hv1, hS2, hz2⟩
  rw [hv1]
  clear hv1 v1
  dsimp only [Option.toList, List.cons_append, List.nil_append, List.append_nil]
  refine wp_ret rfl rfl rfl ?_
  exact ⟨rfl, (hS.mono (by decide)).tr (hS2.mono (by decide)), fun j a b => by rw [hS2 24 (by decide)]; exact hz j a b, fun j a b => by
    rw [hz2 j a b]
    unfold fHp
    rw [e32, e6]
    exact sumI_congr (fun i p q => by unfold fHeap vOf; rw [if_pos (bit0 (by omega)), hz i p q])⟩
end
section
/-! years aside, on both sides -/
/-- nothing but the cells of L and the places of F has changed -/
def SameF (w w' : Hp) (L : List Int) (F : List (Int × Int)) : Prop := ∀ r k : Int, r ∉ L → (r, k) ∉ F → w' r k = w r k
theorem SameF.rf (w : Hp) (L : List Int) (F : List (Int × Int)) : SameF w w L F := fun _ _ _ _ => rfl
theorem Same.F {w w' : Hp} {L : List Int} (h : Same w w' L) (F : List (Int × Int)) : SameF w w' L F := fun r k hr _ => by rw [h r hr]
theorem SameF.tr {a b c : Hp} {L : List Int} {F : List (Int × Int)} (h1 : SameF a b L F) (h2 : SameF b c L F) : SameF a c L F := fun r k hr hf => (h2 r k hr hf).trans (h1 r k hr hf)
theorem SameF.mono {a b : Hp} {L M : List Int} {F E : List (Int × Int)} (h : SameF a b L F) (hL : ∀ r ∈ L, r ∈ M) (hF : ∀ q ∈ F, q ∈ E ∨ q.1 ∈ M) : SameF a b M E := fun r k hr hf => h r k (fun z => hr (hL r z)) (fun z => (hF _ z).elim hf hr)
theorem SameF.put {w w1 : Hp} {L : List Int} {F : List (Int × Int)} (h : SameF w w1 L F) {r i x : Int} (hr : r ∈ L ∨ (r, i) ∈ F) : SameF w (up w1 r i x) L F := fun q k hq hf => by
  unfold up
  rw [if_neg (fun z => by
    obtain ⟨z1, z2⟩ := z
    subst z1 z2
    exact hr.elim hq hf)]
  exact h q k hq hf
theorem SameF.cell {w w' : Hp} {L : List Int} {F : List (Int × Int)} (h : SameF w w' L F) (r : Int) (hr : r ∉ L) (hf : ∀ q ∈ F, q.1 ≠ r) : w' r = w r := funext fun k => h r k hr (fun z => hf _ z rfl)
theorem Stc.sameF {w w' : Hp} {L : List Int} {F : List (Int × Int)} (h : Stc w) (hs : SameF w w' L F) (hL : refTab.all (fun q => decide (q.1 ∉ L ∧ (q.1, q.2.1) ∉ F)) = true) : Stc w' := fun q hq => by
  have h1 := of_decide_eq_true (List.all_eq_true.mp hL q hq)
  rw [hs q.1 q.2.1 h1.1 h1.2]
  exact h q hq
theorem MdOK.sameF {w w' : Hp} {L : List Int} {F : List (Int × Int)} (h : MdOK w) (hs : SameF w w' L F) (h1 : (100 : Int) ∉ L ∧ (107 : Int) ∉ L ∧ (108 : Int) ∉ L ∧ (109 : Int) ∉ L) (h2 : ∀ q ∈ F, q.1 ≠ 107 ∧ q.1 ≠ 108 ∧ (q.1 = 100 → q.2 ≠ 10 ∧ q.2 ≠ 11 ∧ q.2 ≠ 12) ∧ (q.1 = 109 → q.2 < 3)) : MdOK w' := by
  have a : ∀ k : Int, k = 10 ∨ k = 11 ∨ k = 12 → w' 100 k = w 100 k := fun k hk => hs 100 k h1.1 (fun z => by have := (h2 _ z).2.2.1 rfl; dsimp only at this; omega)
  have b : w' 107 = w 107 := hs.cell 107 h1.2.1 (fun q hq => (h2 q hq).1)
  have c : w' 108 = w 108 := hs.cell 108 h1.2.2.1 (fun q hq => (h2 q hq).2.1)
  have e : ∀ i : Int, 0 ≤ i → w' 109 (3 + i) = w 109 (3 + i) := fun i hi => hs 109 (3 + i) h1.2.2.2 (fun z => by have := (h2 _ z).2.2.2 rfl; dsimp only at this; omega)
  obtain ⟨q1, q2, q3⟩ := h
  unfold MdOK
  rw [a 10 (by omega), a 11 (by omega), a 12 (by omega), b, c]
  exact ⟨q1, q2, fun i hi0 hi => by rw [e i hi0]; exact q3 i hi0 hi⟩
set_option maxRecDepth 20000 in
set_option maxHeartbeats 4000000 in
theorem c_Years_begin {w : Hp} {d : Nat} (hT : Stc w) : WP SH (d + 0) 76 0 [some (vR 26), some (vR 3)] [] w (fun v w' => v = none ∧ w' = up (up w 26 0 (w 3 3)) 26 2 (w 3 4)) := by
  refine wp_aload_n (pc' := 1) rfl rfl rfl (by decide) ?_
  refine wp_aload_n (pc' := 2) rfl rfl rfl (by decide) ?_
  refine wp_getI (ci := 3) (k0 := 3) (pc' := 5) rfl rfl (by decide) (by first | assumption | rfl) ?_
  refine wp_putI (ci := 8) (k0 := 0) (pc' := 8) rfl rfl (by decide) (by first | assumption | rfl) ?_
  refine wp_aload_n (pc' := 9) rfl rfl rfl (by decide) ?_
  refine wp_aload_n (pc' := 10) rfl rfl rfl (by decide) ?_
  refine wp_getI (ci := 3) (k0 := 4) (pc' := 13) rfl rfl (by decide) (by first | assumption | rfl) ?_
  refine wp_putI (ci := 8) (k0 := 2) (pc' := 16) rfl rfl (by decide) (by first | assumption | rfl) ?_
  refine wp_ret rfl rfl rfl ?_
  exact ⟨rfl, by rw [up_ne (show (3 : Int) ≠ 26 by decide)]⟩
set_option maxRecDepth 20000 in
set_option maxHeartbeats 4000000 in
theorem c_Years_pass {w : Hp} {d : Nat} (hT : Stc w) (hr : ROw w) (hp : LnOK w) (hx : Cel (w 3 0) (w 3 1) (w 26 0)) : WP SH (d + 5) 77 0 [some (vR 26), some (vR 3), some (vR 23), none, none] [] w (fun v w' => v = none ∧ SameF w w' [24, 25] [(26, 0), (26, 2)] ∧ w' 26 0 = sBeside (w 3 0) (w 3 1) (w 26 0) (sWay (w 3 0) (w 3 1) (w 3 2) (w 4) (w 5) (w 6) (w 26 0) (w 26 2)) ∧ w' 26 2 = sAgainst (sWay (w 3 0) (w 3 1) (w 3 2) (w 4) (w 5) (w 6) (w 26 0) (w 26 2))) := by
  have hwy := @sWay_ok _ _ (w 3 2) (w 26 0) (w 26 2) (w 4) (w 5) (w 6) hp.1 hx (fun j a b => (hp.2.2 j a b).2.2)
  refine wp_aload_n (pc' := 1) rfl rfl rfl (by decide) ?_
  refine wp_aload_n (pc' := 2) rfl rfl rfl (by decide) ?_
  refine wp_aload_n (pc' := 3) rfl rfl rfl (by decide) ?_
  refine wp_getI (ci := 8) (k0 := 0) (pc' := 6) rfl rfl (by decide) (by first | assumption | rfl) ?_
  refine wp_aload_n (pc' := 7) rfl rfl rfl (by decide) ?_
  refine wp_getI (ci := 8) (k0 := 2) (pc' := 10) rfl rfl (by decide) (by first | assumption | rfl) ?_
  refine wp_call (pc' := 13) rfl rfl rfl rfl rfl ⟨Nat.le_of_ble_eq_true rfl, Nat.le_of_ble_eq_true rfl, Nat.le_of_ble_eq_true rfl, Nat.le_of_ble_eq_true rfl, Nat.le_of_ble_eq_true rfl⟩ rfl (c_Ballot_hold hT hr hp hx) ?_
  rintro v1 w1 ⟨hv1, hS, hz1, hz2⟩
  rw [hv1]
  clear hv1 v1
  have e3 : w1 3 = w 3 := hS 3 (by decide)
  have e4 : w1 4 = w 4 := hS 4 (by decide)
  have e5 : w1 5 = w 5 := hS 5 (by decide)
  have e6 : w1 6 = w 6 := hS 6 (by decide)
  have e26 : w1 26 = w 26 := hS 26 (by decide)
  have hT1 := hT.same hS (by decide)
  have hr1 := hr.same hS (by decide)
  have hp1 := hp.same hS (by decide)
  have hx1 : Cel (w1 3 0) (w1 3 1) (w1 26 0) := by rw [e3, e26]; exact hx
  dsimp only [Option.toList, List.cons_append, List.nil_append, List.append_nil]
  refine wp_aload_n (pc' := 14) rfl rfl rfl (by decide) ?_
  refine wp_call (pc' := 17) rfl rfl rfl rfl rfl ⟨Nat.le_of_ble_eq_true rfl, Nat.le_of_ble_eq_true rfl, Nat.le_of_ble_eq_true rfl, Nat.le_of_ble_eq_true rfl, Nat.le_of_ble_eq_true rfl⟩ rfl (c_Ballot_winner hT1) ?_
  intro v1 w2 hq1
  rw [hq1.1, hq1.2]
  clear hq1 v1 w2
  have hwe : sWin (w1 25) = sWay (w 3 0) (w 3 1) (w 3 2) (w 4) (w 5) (w 6) (w 26 0) (w 26 2) := sWin_congr (fun j a b => hz2 j a (by omega))
  rw [hwe]
  dsimp only [Option.toList, List.cons_append, List.nil_append, List.append_nil]
  refine wp_istore_n (pc' := 18) rfl rfl (Nat.le_of_ble_eq_true rfl) rfl ?_
  dsimp only [lset, lset2, List.set, List.getElem?_cons_zero, List.getElem?_cons_succ]
  refine wp_aload_n (pc' := 19) rfl rfl rfl (by decide) ?_
  refine wp_aload_n (pc' := 20) rfl rfl rfl (by decide) ?_
  refine wp_getI (ci := 8) (k0 := 0) (pc' := 23) rfl rfl (by decide) (by first | assumption | rfl) ?_
  refine wp_iload_n (pc' := 24) rfl rfl rfl ?_
  refine wp_call (pc' := 27) rfl rfl rfl rfl rfl ⟨Nat.le_of_ble_eq_true rfl, Nat.le_of_ble_eq_true rfl, Nat.le_of_ble_eq_true rfl, Nat.le_of_ble_eq_true rfl, Nat.le_of_ble_eq_true rfl⟩ rfl (c_Land_beside hp1.1 hx1) ?_
  intro v1 w2 hq1
  rw [hq1.1, hq1.2]
  clear hq1 v1 w2
  dsimp only [Option.toList, List.cons_append, List.nil_append, List.append_nil]
  refine wp_istore (pc' := 29) rfl rfl (Nat.le_of_ble_eq_true rfl) rfl ?_
  dsimp only [lset, lset2, List.set, List.getElem?_cons_zero, List.getElem?_cons_succ]
  refine wp_aload_n (pc' := 30) rfl rfl rfl (by decide) ?_
  refine wp_iload (pc' := 32) rfl rfl rfl ?_
  refine wp_iconst (a := -1) (pc' := 33) rfl rfl rfl ?_
  refine wp_icmp_ne (pc' := 36) (pt := 43) rfl rfl rfl (fun q_1 => ?_) (fun q_1 => ?_)
  · skip
    refine wp_iload (pc' := 45) rfl rfl rfl ?_
    refine wp_putI (ci := 8) (k0 := 0) (pc' := 48) rfl rfl (by decide) (by first | assumption | rfl) ?_
    refine wp_aload_n (pc' := 49) rfl rfl rfl (by decide) ?_
    refine wp_iload_n (pc' := 50) rfl rfl rfl ?_
    refine wp_call (pc' := 53) rfl rfl rfl rfl rfl ⟨Nat.le_of_ble_eq_true rfl, Nat.le_of_ble_eq_true rfl, Nat.le_of_ble_eq_true rfl, Nat.le_of_ble_eq_true rfl, Nat.le_of_ble_eq_true rfl⟩ rfl (c_Land_against (hr1.same (L := [26]) (fun r hr => by rw [up_ne (fun z => hr (by rw [z]; decide))]) (by decide)) ⟨hwy.1, hwy.2.1⟩) ?_
    intro v1 w2 hq1
    rw [hq1.1, hq1.2]
    clear hq1 v1 w2
    dsimp only [Option.toList, List.cons_append, List.nil_append, List.append_nil]
    refine wp_putI (ci := 8) (k0 := 2) (pc' := 56) rfl rfl (by decide) (by first | assumption | rfl) ?_
    refine wp_ret rfl rfl rfl ?_
    exact ⟨rfl, ((hS.F _).put (Or.inr (by decide))).put (Or.inr (by decide)), by rw [up_at (by decide), up_eq, e3, e26], by rw [up_eq]⟩
  · skip
    exact absurd (by rw [e3, e26]; exact hwy.2.2) q_1
set_option maxRecDepth 20000 in
set_option maxHeartbeats 4000000 in
theorem c_Mod_passes_now {w : Hp} {d : Nat} (hT : Stc w) (hp : MdOK w) (hx : Cel (w 100 11) (w 100 12) (w 109 0)) (hy : 0 ≤ w 109 2 ∧ w 109 2 ≤ 1000000) : WP SH (d + 7) 182 0 [some (vR 100), some (vR 109), none] [] w (fun v w' => v = none ∧ SameF w w' [113] [(109, 0), (109, 1), (109, 2)] ∧ w' 109 0 = sBeside (w 100 11) (w 100 12) (w 109 0) (sWay (w 100 11) (w 100 12) (w 100 10) (w 107) (fun i => w 109 (3 + i)) (w 108) (w 109 0) (w 109 1)) ∧ w' 109 1 = sAgainst (sWay (w 100 11) (w 100 12) (w 100 10) (w 107) (fun i => w 109 (3 + i)) (w 108) (w 109 0) (w 109 1)) ∧ w' 109 2 = w 109 2 + 1) := by
  have hwy := @sWay_ok _ _ (w 100 10) (w 109 0) (w 109 1) (w 107) (fun i => w 109 (3 + i)) (w 108) hp.1 hx (fun j a b => (hp.2.2 j a b).2.2)
  refine wp_aload_n (pc' := 1) rfl rfl rfl (by decide) ?_
  refine wp_aload_n (pc' := 2) rfl rfl rfl (by decide) ?_
  refine wp_iconst (a := 0) (pc' := 3) rfl rfl rfl ?_
  refine wp_iaload (pc' := 4) rfl rfl (by first | assumption | rfl) (by omega) ?_
  refine wp_aload_n (pc' := 5) rfl rfl rfl (by decide) ?_
  refine wp_iconst (a := 1) (pc' := 6) rfl rfl rfl ?_
  refine wp_iaload (pc' := 7) rfl rfl (by first | assumption | rfl) (by omega) ?_
  refine wp_call (pc' := 10) rfl rfl rfl rfl rfl ⟨Nat.le_of_ble_eq_true rfl, Nat.le_of_ble_eq_true rfl, Nat.le_of_ble_eq_true rfl, Nat.le_of_ble_eq_true rfl, Nat.le_of_ble_eq_true rfl⟩ rfl (c_Mod_carriedFrom hT hp hx) ?_
  rintro v1 w1 ⟨hv1, hS, hz1⟩
  rw [hv1]
  clear hv1 v1
  have eo : w1 109 = w 109 := hS 109 (by decide)
  have e100 : w1 100 = w 100 := hS 100 (by decide)
  have hx1 : Cel (w1 100 11) (w1 100 12) (w1 109 0) := by rw [e100, eo]; exact hx
  have hp1 := hp.same hS (by decide)
  change WP SH _ _ _ _ ((some (vI (sWay (w 100 11) (w 100 12) (w 100 10) (w 107) (fun i => w 109 (3 + i)) (w 108) (w 109 0) (w 109 1)))).toList ++ _) _ _
  dsimp only [Option.toList, List.cons_append, List.nil_append, List.append_nil]
  refine wp_istore_n (pc' := 11) rfl rfl (Nat.le_of_ble_eq_true rfl) rfl ?_
  dsimp only [lset, lset2, List.set, List.getElem?_cons_zero, List.getElem?_cons_succ]
  refine wp_aload_n (pc' := 12) rfl rfl rfl (by decide) ?_
  refine wp_iconst (a := 0) (pc' := 13) rfl rfl rfl ?_
  refine wp_aload_n (pc' := 14) rfl rfl rfl (by decide) ?_
  refine wp_aload_n (pc' := 15) rfl rfl rfl (by decide) ?_
  refine wp_iconst (a := 0) (pc' := 16) rfl rfl rfl ?_
  refine wp_iaload (pc' := 17) rfl rfl (by first | assumption | rfl) (by omega) ?_
  refine wp_iload_n (pc' := 18) rfl rfl rfl ?_
  refine wp_call (pc' := 21) rfl rfl rfl rfl rfl ⟨Nat.le_of_ble_eq_true rfl, Nat.le_of_ble_eq_true rfl, Nat.le_of_ble_eq_true rfl, Nat.le_of_ble_eq_true rfl, Nat.le_of_ble_eq_true rfl⟩ rfl (c_Mod_beside hp1.1 ⟨hwy.1, hwy.2.1⟩ hx1) ?_
  intro v1 w2 hq1
  rw [hq1.1, hq1.2]
  clear hq1 v1 w2
  rw [e100, eo]
  dsimp only [Option.toList, List.cons_append, List.nil_append, List.append_nil]
  refine wp_iastore (pc' := 22) rfl rfl (by first | assumption | rfl) (by omega) ?_
  refine wp_aload_n (pc' := 23) rfl rfl rfl (by decide) ?_
  refine wp_iconst (a := 1) (pc' := 24) rfl rfl rfl ?_
  refine wp_iload_n (pc' := 25) rfl rfl rfl ?_
  refine wp_call (pc' := 28) rfl rfl rfl rfl rfl ⟨Nat.le_of_ble_eq_true rfl, Nat.le_of_ble_eq_true rfl, Nat.le_of_ble_eq_true rfl, Nat.le_of_ble_eq_true rfl, Nat.le_of_ble_eq_true rfl⟩ rfl (c_Mod_against ⟨hwy.1, hwy.2.1⟩) ?_
  intro v1 w2 hq1
  rw [hq1.1, hq1.2]
  clear hq1 v1 w2
  dsimp only [Option.toList, List.cons_append, List.nil_append, List.append_nil]
  refine wp_iastore (pc' := 29) rfl rfl (by first | assumption | rfl) (by omega) ?_
  refine wp_aload_n (pc' := 30) rfl rfl rfl (by decide) ?_
  refine wp_iconst (a := 2) (pc' := 31) rfl rfl rfl ?_
  refine wp_dup2 (pc' := 32) rfl rfl ?_
  refine wp_iaload (pc' := 33) rfl rfl (by first | assumption | rfl) (by omega) ?_
  refine wp_iconst (a := 1) (pc' := 34) rfl rfl rfl ?_
  refine wp_iadd (pc' := 35) rfl rfl (by first | exact w32_id (by omega) (by omega) | rfl) ?_
  refine wp_iastore (pc' := 36) rfl rfl (by first | assumption | rfl) (by omega) ?_
  refine wp_ret rfl rfl rfl ?_
  exact ⟨rfl, (((hS.F _).put (Or.inr (by decide))).put (Or.inr (by decide))).put (Or.inr (by decide)), by rw [up_at (by decide), up_at (by decide), up_eq], by rw [up_at (by decide), up_eq], by rw [up_eq, up_at (by decide), up_at (by decide), eo, w32_id (by omega) (by omega)]⟩
set_option maxRecDepth 20000 in
set_option maxHeartbeats 4000000 in
theorem c_Mod_passes_tried {w : Hp} {d : Nat} (hT : Stc w) (hp : MdOK w) (hx : Cel (w 100 11) (w 100 12) (w 110 0)) (hy : 0 ≤ w 110 2 ∧ w 110 2 ≤ 1000000) : WP SH (d + 7) 182 0 [some (vR 100), some (vR 110), none] [] w (fun v w' => v = none ∧ SameF w w' [113] [(110, 0), (110, 1), (110, 2)] ∧ w' 110 0 = sBeside (w 100 11) (w 100 12) (w 110 0) (sWay (w 100 11) (w 100 12) (w 100 10) (w 107) (fun i => w 109 (3 + i)) (w 108) (w 110 0) (w 110 1)) ∧ w' 110 1 = sAgainst (sWay (w 100 11) (w 100 12) (w 100 10) (w 107) (fun i => w 109 (3 + i)) (w 108) (w 110 0) (w 110 1)) ∧ w' 110 2 = w 110 2 + 1) := by
  have hwy := @sWay_ok _ _ (w 100 10) (w 110 0) (w 110 1) (w 107) (fun i => w 109 (3 + i)) (w 108) hp.1 hx (fun j a b => (hp.2.2 j a b).2.2)
  refine wp_aload_n (pc' := 1) rfl rfl rfl (by decide) ?_
  refine wp_aload_n (pc' := 2) rfl rfl rfl (by decide) ?_
  refine wp_iconst (a := 0) (pc' := 3) rfl rfl rfl ?_
  refine wp_iaload (pc' := 4) rfl rfl (by first | assumption | rfl) (by omega) ?_
  refine wp_aload_n (pc' := 5) rfl rfl rfl (by decide) ?_
  refine wp_iconst (a := 1) (pc' := 6) rfl rfl rfl ?_
  refine wp_iaload (pc' := 7) rfl rfl (by first | assumption | rfl) (by omega) ?_
  refine wp_call (pc' := 10) rfl rfl rfl rfl rfl ⟨Nat.le_of_ble_eq_true rfl, Nat.le_of_ble_eq_true rfl, Nat.le_of_ble_eq_true rfl, Nat.le_of_ble_eq_true rfl, Nat.le_of_ble_eq_true rfl⟩ rfl (c_Mod_carriedFrom hT hp hx) ?_
  rintro v1 w1 ⟨hv1, hS, hz1⟩
  rw [hv1]
  clear hv1 v1
  have eo : w1 110 = w 110 := hS 110 (by decide)
  have e100 : w1 100 = w 100 := hS 100 (by decide)
  have hx1 : Cel (w1 100 11) (w1 100 12) (w1 110 0) := by rw [e100, eo]; exact hx
  have hp1 := hp.same hS (by decide)
  change WP SH _ _ _ _ ((some (vI (sWay (w 100 11) (w 100 12) (w 100 10) (w 107) (fun i => w 109 (3 + i)) (w 108) (w 110 0) (w 110 1)))).toList ++ _) _ _
  dsimp only [Option.toList, List.cons_append, List.nil_append, List.append_nil]
  refine wp_istore_n (pc' := 11) rfl rfl (Nat.le_of_ble_eq_true rfl) rfl ?_
  dsimp only [lset, lset2, List.set, List.getElem?_cons_zero, List.getElem?_cons_succ]
  refine wp_aload_n (pc' := 12) rfl rfl rfl (by decide) ?_
  refine wp_iconst (a := 0) (pc' := 13) rfl rfl rfl ?_
  refine wp_aload_n (pc' := 14) rfl rfl rfl (by decide) ?_
  refine wp_aload_n (pc' := 15) rfl rfl rfl (by decide) ?_
  refine wp_iconst (a := 0) (pc' := 16) rfl rfl rfl ?_
  refine wp_iaload (pc' := 17) rfl rfl (by first | assumption | rfl) (by omega) ?_
  refine wp_iload_n (pc' := 18) rfl rfl rfl ?_
  refine wp_call (pc' := 21) rfl rfl rfl rfl rfl ⟨Nat.le_of_ble_eq_true rfl, Nat.le_of_ble_eq_true rfl, Nat.le_of_ble_eq_true rfl, Nat.le_of_ble_eq_true rfl, Nat.le_of_ble_eq_true rfl⟩ rfl (c_Mod_beside hp1.1 ⟨hwy.1, hwy.2.1⟩ hx1) ?_
  intro v1 w2 hq1
  rw [hq1.1, hq1.2]
  clear hq1 v1 w2
  rw [e100, eo]
  dsimp only [Option.toList, List.cons_append, List.nil_append, List.append_nil]
  refine wp_iastore (pc' := 22) rfl rfl (by first | assumption | rfl) (by omega) ?_
  refine wp_aload_n (pc' := 23) rfl rfl rfl (by decide) ?_
  refine wp_iconst (a := 1) (pc' := 24) rfl rfl rfl ?_
  refine wp_iload_n (pc' := 25) rfl rfl rfl ?_
  refine wp_call (pc' := 28) rfl rfl rfl rfl rfl ⟨Nat.le_of_ble_eq_true rfl, Nat.le_of_ble_eq_true rfl, Nat.le_of_ble_eq_true rfl, Nat.le_of_ble_eq_true rfl, Nat.le_of_ble_eq_true rfl⟩ rfl (c_Mod_against ⟨hwy.1, hwy.2.1⟩) ?_
  intro v1 w2 hq1
  rw [hq1.1, hq1.2]
  clear hq1 v1 w2
  dsimp only [Option.toList, List.cons_append, List.nil_append, List.append_nil]
  refine wp_iastore (pc' := 29) rfl rfl (by first | assumption | rfl) (by omega) ?_
  refine wp_aload_n (pc' := 30) rfl rfl rfl (by decide) ?_
  refine wp_iconst (a := 2) (pc' := 31) rfl rfl rfl ?_
  refine wp_dup2 (pc' := 32) rfl rfl ?_
  refine wp_iaload (pc' := 33) rfl rfl (by first | assumption | rfl) (by omega) ?_
  refine wp_iconst (a := 1) (pc' := 34) rfl rfl rfl ?_
  refine wp_iadd (pc' := 35) rfl rfl (by first | exact w32_id (by omega) (by omega) | rfl) ?_
  refine wp_iastore (pc' := 36) rfl rfl (by first | assumption | rfl) (by omega) ?_
  refine wp_ret rfl rfl rfl ?_
  exact ⟨rfl, (((hS.F _).put (Or.inr (by decide))).put (Or.inr (by decide))).put (Or.inr (by decide)), by rw [up_at (by decide), up_at (by decide), up_eq], by rw [up_at (by decide), up_eq], by rw [up_eq, up_at (by decide), up_at (by decide), eo, w32_id (by omega) (by omega)]⟩
set_option maxRecDepth 20000 in
set_option maxHeartbeats 4000000 in
theorem l_copyNow {w : Hp} {d : Nat} (hT0 : Stc w) : ∀ (k : Nat) (i : Int) (w1 : Hp), 0 ≤ i → i + k = 9 → Same w w1 [110] → (∀ j : Int, 0 ≤ j → j < i → w1 110 j = w 109 j) → WP SH d 183 2 [some (vR 100), some (vI i)] [] w1 (fun v w' => v = none ∧ Same w w' [110] ∧ ∀ j : Int, 0 ≤ j → j < 9 → w' 110 j = w 109 j) := by
  intro k
  induction k with
  | zero =>
    intro i w1 hi0 hik hS hz
    have hT := hT0.same hS (by decide)
    have e9 : w1 109 i = w 109 i := by rw [hS 109 (by decide)]
    refine wp_iload_n (pc' := 3) rfl rfl rfl ?_
    refine wp_bipush (a := 9) (pc' := 5) rfl rfl rfl ?_
    refine wp_icmp_ge (pc' := 8) (pt := 26) rfl rfl rfl (fun q_1 => ?_) (fun q_1 => ?_)
    · skip
      refine wp_ret rfl rfl rfl ?_
      exact ⟨rfl, hS, fun j a b => hz j a (by omega)⟩
    · skip
      exfalso; omega
  | succ k ih =>
    intro i w1 hi0 hik hS hz
    have hT := hT0.same hS (by decide)
    have e9 : w1 109 i = w 109 i := by rw [hS 109 (by decide)]
    refine wp_iload_n (pc' := 3) rfl rfl rfl ?_
    refine wp_bipush (a := 9) (pc' := 5) rfl rfl rfl ?_
    refine wp_icmp_ge (pc' := 8) (pt := 26) rfl rfl rfl (fun q_1 => ?_) (fun q_1 => ?_)
    · skip
      exfalso; omega
    · skip
      refine wp_aload_n (pc' := 9) rfl rfl rfl (by decide) ?_
      refine wp_getR (r' := 110) (ci := 10) (k0 := 16) (pc' := 12) rfl rfl (by decide) (by first | assumption | rfl) (hT.get 108 rfl) ?_
      refine wp_iload_n (pc' := 13) rfl rfl rfl ?_
      refine wp_aload_n (pc' := 14) rfl rfl rfl (by decide) ?_
      refine wp_getR (r' := 109) (ci := 10) (k0 := 15) (pc' := 17) rfl rfl (by decide) (by first | assumption | rfl) (hT.get 107 rfl) ?_
      refine wp_iload_n (pc' := 18) rfl rfl rfl ?_
      refine wp_iaload (pc' := 19) rfl rfl (by first | assumption | rfl) (by omega) ?_
      refine wp_iastore (pc' := 20) rfl rfl (by first | assumption | rfl) (by omega) ?_
      refine wp_iinc (pc' := 23) rfl rfl rfl (inc_id (by omega) (by omega)) rfl ?_
      dsimp only [lset, lset2, List.set, List.getElem?_cons_zero, List.getElem?_cons_succ]
      refine wp_goto (pc' := 2) rfl rfl ?_
      refine ih _ _ (by omega) (by omega) (hS.put (by decide)) (fun j a b => ?_)
      by_cases hj : j = i
      · rw [hj, up_eq, e9]
      · rw [up_at hj]; exact hz j a (by omega)
set_option maxRecDepth 20000 in
set_option maxHeartbeats 4000000 in
theorem c_Mod_copyNow {w : Hp} {d : Nat} (hT0 : Stc w) : WP SH (d + 0) 183 0 [some (vR 100), none] [] w (fun v w' => v = none ∧ Same w w' [110] ∧ ∀ j : Int, 0 ≤ j → j < 9 → w' 110 j = w 109 j) := by
  refine wp_iconst (a := 0) (pc' := 1) rfl rfl rfl ?_
  refine wp_istore_n (pc' := 2) rfl rfl (Nat.le_of_ble_eq_true rfl) rfl ?_
  dsimp only [lset, lset2, List.set, List.getElem?_cons_zero, List.getElem?_cons_succ]
  exact l_copyNow hT0 9 0 w (by omega) (by omega) (Same.rf _ _) (fun j a b => by omega)
end
section
/-! strips, findings, small tests on both sides -/
/-- a strip: its object, its places, how many -/
def StripAt (w : Hp) (s p : Int) (n : Nat) : Prop := shAt SH s = some (0, 7) ∧ shAt SH p = some (1, n) ∧ w s 0 = p ∧ 0 ≤ s ∧ 0 ≤ p ∧ s ≠ p ∧ n < 1000
set_option maxRecDepth 20000 in
set_option maxHeartbeats 4000000 in
theorem c_Strip_isMissing {w : Hp} {d : Nat} {s p : Int} {n : Nat} (hs : StripAt w s p n) : WP SH (d + 0) 70 0 [some (vR s)] [] w (fun v w' => w' = w ∧ ((v = some (vI 1) ∧ (w s 1 = -1)) ∨ (v = some (vI 0) ∧ ¬ (w s 1 = -1)))) := by
  obtain ⟨hs7, hpn, hsp, hs0, hp0, hne, hnn⟩ := id hs
  refine wp_aload_n (pc' := 1) rfl rfl rfl (by omega) ?_
  refine wp_getI (ci := 7) (k0 := 1) (pc' := 4) rfl rfl (by decide) (by first | assumption | rfl) ?_
  refine wp_iconst (a := -1) (pc' := 5) rfl rfl rfl ?_
  refine wp_icmp_ne (pc' := 8) (pt := 12) rfl rfl rfl (fun q_1 => ?_) (fun q_1 => ?_)
  · skip
    refine wp_iconst (a := 0) (pc' := 13) rfl rfl rfl ?_
    refine wp_ret rfl rfl rfl ?_
    first | exact ⟨rfl, Or.inl ⟨rfl, by omega⟩⟩ | exact ⟨rfl, Or.inr ⟨rfl, by omega⟩⟩ | (exfalso; omega)
  · skip
    refine wp_iconst (a := 1) (pc' := 9) rfl rfl rfl ?_
    refine wp_goto (pc' := 13) rfl rfl ?_
    refine wp_ret rfl rfl rfl ?_
    first | exact ⟨rfl, Or.inl ⟨rfl, by omega⟩⟩ | exact ⟨rfl, Or.inr ⟨rfl, by omega⟩⟩ | (exfalso; omega)
set_option maxRecDepth 20000 in
set_option maxHeartbeats 4000000 in
theorem c_Strip_remove {w : Hp} {d : Nat} {s p : Int} {n : Nat} (hs : StripAt w s p n) : WP SH (d + 0) 71 0 [some (vR s)] [] w (fun v w' => v = none ∧ w' = up w s 1 (-1)) := by
  obtain ⟨hs7, hpn, hsp, hs0, hp0, hne, hnn⟩ := id hs
  refine wp_aload_n (pc' := 1) rfl rfl rfl (by omega) ?_
  refine wp_iconst (a := -1) (pc' := 2) rfl rfl rfl ?_
  refine wp_putI (ci := 7) (k0 := 1) (pc' := 5) rfl rfl (by decide) (by first | assumption | rfl) ?_
  refine wp_ret rfl rfl rfl ?_
  exact ⟨rfl, rfl⟩
set_option maxRecDepth 20000 in
set_option maxHeartbeats 4000000 in
theorem c_Strip_holds {w : Hp} {d : Nat} {s p a m : Int} {n : Nat} (hs : StripAt w s p n) (hz : -1 ≤ w s 1 ∧ w s 1 ≤ 1000) (hm : m < 2147483648) : WP SH (d + 0) 73 0 [some (vR s), some (vI a), some (vI m)] [] w (fun v w' => w' = w ∧ ((v = some (vI 1) ∧ (0 ≤ a ∧ 0 ≤ m ∧ a + m ≤ w s 1)) ∨ (v = some (vI 0) ∧ ¬ (0 ≤ a ∧ 0 ≤ m ∧ a + m ≤ w s 1)))) := by
  obtain ⟨hs7, hpn, hsp, hs0, hp0, hne, hnn⟩ := id hs
  refine wp_iload_n (pc' := 1) rfl rfl rfl ?_
  refine wp_if_lt (pc' := 4) (pt := 22) rfl rfl rfl (fun q_1 => ?_) (fun q_1 => ?_)
  · skip
    refine wp_iconst (a := 0) (pc' := 23) rfl rfl rfl ?_
    refine wp_ret rfl rfl rfl ?_
    first | exact ⟨rfl, Or.inl ⟨rfl, by omega⟩⟩ | exact ⟨rfl, Or.inr ⟨rfl, by omega⟩⟩ | (exfalso; omega)
  · skip
    refine wp_iload_n (pc' := 5) rfl rfl rfl ?_
    refine wp_if_lt (pc' := 8) (pt := 22) rfl rfl rfl (fun q_2 => ?_) (fun q_2 => ?_)
    · skip
      refine wp_iconst (a := 0) (pc' := 23) rfl rfl rfl ?_
      refine wp_ret rfl rfl rfl ?_
      first | exact ⟨rfl, Or.inl ⟨rfl, by omega⟩⟩ | exact ⟨rfl, Or.inr ⟨rfl, by omega⟩⟩ | (exfalso; omega)
    · skip
      refine wp_iload_n (pc' := 9) rfl rfl rfl ?_
      refine wp_aload_n (pc' := 10) rfl rfl rfl (by omega) ?_
      refine wp_getI (ci := 7) (k0 := 1) (pc' := 13) rfl rfl (by decide) (by first | assumption | rfl) ?_
      refine wp_iload_n (pc' := 14) rfl rfl rfl ?_
      refine wp_isub (pc' := 15) rfl rfl (by first | exact w32_id (by omega) (by omega) | rfl) ?_
      refine wp_icmp_gt (pc' := 18) (pt := 22) rfl rfl rfl (fun q_3 => ?_) (fun q_3 => ?_)
      · skip
        refine wp_iconst (a := 0) (pc' := 23) rfl rfl rfl ?_
        refine wp_ret rfl rfl rfl ?_
        first | exact ⟨rfl, Or.inl ⟨rfl, by omega⟩⟩ | exact ⟨rfl, Or.inr ⟨rfl, by omega⟩⟩ | (exfalso; omega)
      · skip
        refine wp_iconst (a := 1) (pc' := 19) rfl rfl rfl ?_
        refine wp_goto (pc' := 23) rfl rfl ?_
        refine wp_ret rfl rfl rfl ?_
        first | exact ⟨rfl, Or.inl ⟨rfl, by omega⟩⟩ | exact ⟨rfl, Or.inr ⟨rfl, by omega⟩⟩ | (exfalso; omega)
set_option maxRecDepth 20000 in
set_option maxHeartbeats 4000000 in
theorem l_renew {w : Hp} {d : Nat} {s p m x : Int} {n : Nat} (hs : StripAt w s p n) (hm : 0 ≤ m ∧ m ≤ n) : ∀ (k : Nat) (i : Int) (w1 : Hp), 0 ≤ i → i + k = m → SameF w w1 [p] [(s, 1)] → w1 s 1 = m → (∀ j : Int, 0 ≤ j → j < i → w1 p j = x) → WP SH d 72 19 [some (vR s), some (vI m), some (vI x), some (vI i)] [] w1 (fun v w' => v = none ∧ SameF w w' [p] [(s, 1)] ∧ w' s 1 = m ∧ ∀ j : Int, 0 ≤ j → j < m → w' p j = x) := by
  intro k
  induction k with
  | zero =>
    intro i w1 hi0 hik hS hw1 hz
    obtain ⟨hs7, hpn, hsp, hs0, hp0, hne, hnn⟩ := id hs
    have hsp1 : w1 s 0 = p := by rw [hS s 0 (by simp [hne]) (by simp)]; exact hsp
    refine wp_iload_n (pc' := 20) rfl rfl rfl ?_
    refine wp_aload_n (pc' := 21) rfl rfl rfl (by omega) ?_
    refine wp_getI (ci := 7) (k0 := 1) (pc' := 24) rfl rfl (by decide) (by first | assumption | rfl) ?_
    refine wp_icmp_ge (pc' := 27) (pt := 40) rfl rfl rfl (fun q_1 => ?_) (fun q_1 => ?_)
    · skip
      refine wp_ret rfl rfl rfl ?_
      exact ⟨rfl, hS, hw1, fun j a b => hz j a (by omega)⟩
    · skip
      exfalso; omega
  | succ k ih =>
    intro i w1 hi0 hik hS hw1 hz
    obtain ⟨hs7, hpn, hsp, hs0, hp0, hne, hnn⟩ := id hs
    have hsp1 : w1 s 0 = p := by rw [hS s 0 (by simp [hne]) (by simp)]; exact hsp
    refine wp_iload_n (pc' := 20) rfl rfl rfl ?_
    refine wp_aload_n (pc' := 21) rfl rfl rfl (by omega) ?_
    refine wp_getI (ci := 7) (k0 := 1) (pc' := 24) rfl rfl (by decide) (by first | assumption | rfl) ?_
    refine wp_icmp_ge (pc' := 27) (pt := 40) rfl rfl rfl (fun q_1 => ?_) (fun q_1 => ?_)
    · skip
      exfalso; omega
    · skip
      refine wp_aload_n (pc' := 28) rfl rfl rfl (by omega) ?_
      refine wp_getR (r' := p) (ci := 7) (k0 := 0) (pc' := 31) rfl rfl (by decide) (by first | assumption | rfl) (hsp1) ?_
      refine wp_iload_n (pc' := 32) rfl rfl rfl ?_
      refine wp_iload_n (pc' := 33) rfl rfl rfl ?_
      refine wp_iastore (pc' := 34) rfl rfl (by first | assumption | rfl) (by omega) ?_
      refine wp_iinc (pc' := 37) rfl rfl rfl (inc_id (by omega) (by omega)) rfl ?_
      dsimp only [lset, lset2, List.set, List.getElem?_cons_zero, List.getElem?_cons_succ]
      refine wp_goto (pc' := 19) rfl rfl ?_
      refine ih _ _ (by omega) (by omega) (hS.put (Or.inl (by simp))) (by rw [up_ne hne]; exact hw1) (fun j a b => ?_)
      by_cases hj : j = i
      · rw [hj, up_eq]
      · rw [up_at hj]; exact hz j a (by omega)
set_option maxRecDepth 20000 in
set_option maxHeartbeats 4000000 in
theorem c_Strip_renew {w : Hp} {d : Nat} {s p m x : Int} {n : Nat} (hs : StripAt w s p n) (hm : 0 ≤ m ∧ m ≤ n) : WP SH (d + 0) 72 0 [some (vR s), some (vI m), some (vI x), none] [] w (fun v w' => v = none ∧ SameF w w' [p] [(s, 1)] ∧ w' s 1 = m ∧ ∀ j : Int, 0 ≤ j → j < m → w' p j = x) := by
  obtain ⟨hs7, hpn, hsp, hs0, hp0, hne, hnn⟩ := id hs
  refine wp_aload_n (pc' := 1) rfl rfl rfl (by omega) ?_
  refine wp_iconst (a := 0) (pc' := 2) rfl rfl rfl ?_
  refine wp_iload_n (pc' := 3) rfl rfl rfl ?_
  refine wp_aload_n (pc' := 4) rfl rfl rfl (by omega) ?_
  refine wp_getR (r' := p) (ci := 7) (k0 := 0) (pc' := 7) rfl rfl (by decide) (by first | assumption | rfl) (hsp) ?_
  refine wp_alen (pc' := 8) rfl rfl (by first | assumption | rfl) (by first | decide | omega) ?_
  refine wp_min (pc' := 11) rfl rfl (Nat.le_of_ble_eq_true rfl) rfl ?_
  refine wp_max (pc' := 14) rfl rfl (Nat.le_of_ble_eq_true rfl) rfl ?_
  rw [show (if (0 : Int) < (if (n : Int) < m then (n : Int) else m) then (if (n : Int) < m then (n : Int) else m) else 0) = m by (repeat' split) <;> omega]
  refine wp_putI (ci := 7) (k0 := 1) (pc' := 17) rfl rfl (by decide) (by first | assumption | rfl) ?_
  refine wp_iconst (a := 0) (pc' := 18) rfl rfl rfl ?_
  refine wp_istore_n (pc' := 19) rfl rfl (Nat.le_of_ble_eq_true rfl) rfl ?_
  dsimp only [lset, lset2, List.set, List.getElem?_cons_zero, List.getElem?_cons_succ]
  exact l_renew hs hm m.toNat 0 _ (by omega) (by omega) ((SameF.rf _ _ _).put (Or.inr (by simp))) (by rw [up_eq]) (fun j a b => by omega)
set_option maxRecDepth 20000 in
set_option maxHeartbeats 4000000 in
theorem c_VH_refuse {w : Hp} {d : Nat} {f : Int} (hT : Stc w) (hf : 1 ≤ f ∧ f ≤ 5) : WP SH (d + 0) 126 0 [some (vR 0), some (vI f)] [] w (fun v w' => v = some (vI (-3)) ∧ w' = up (up w 0 13 f) 52 f (w32 (w 52 f + 1))) := by
  refine wp_aload_n (pc' := 1) rfl rfl rfl (by decide) ?_
  refine wp_iload_n (pc' := 2) rfl rfl rfl ?_
  refine wp_putI (ci := 9) (k0 := 13) (pc' := 5) rfl rfl (by decide) (by first | assumption | rfl) ?_
  refine wp_iload_n (pc' := 6) rfl rfl rfl ?_
  refine wp_iconst (a := 1) (pc' := 7) rfl rfl rfl ?_
  refine wp_icmp_lt (pc' := 10) (pt := 25) rfl rfl rfl (fun q_1 => ?_) (fun q_1 => ?_)
  · skip
    refine wp_bipush (a := -3) (pc' := 27) rfl rfl rfl ?_
    refine wp_ret rfl rfl rfl ?_
    first | exact ⟨rfl, by rw [up_ne (show (52 : Int) ≠ 0 by decide)]⟩ | (exfalso; omega)
  · skip
    refine wp_iload_n (pc' := 11) rfl rfl rfl ?_
    refine wp_iconst (a := 5) (pc' := 12) rfl rfl rfl ?_
    refine wp_icmp_gt (pc' := 15) (pt := 25) rfl rfl rfl (fun q_2 => ?_) (fun q_2 => ?_)
    · skip
      refine wp_bipush (a := -3) (pc' := 27) rfl rfl rfl ?_
      refine wp_ret rfl rfl rfl ?_
      first | exact ⟨rfl, by rw [up_ne (show (52 : Int) ≠ 0 by decide)]⟩ | (exfalso; omega)
    · skip
      have hT := hT.putF (r := 0) (i := 13) (x := f) (by decide)
      refine wp_aload_n (pc' := 16) rfl rfl rfl (by decide) ?_
      refine wp_getR (r' := 52) (ci := 9) (k0 := 12) (pc' := 19) rfl rfl (by decide) (by first | assumption | rfl) (hT.get 12 rfl) ?_
      refine wp_iload_n (pc' := 20) rfl rfl rfl ?_
      refine wp_dup2 (pc' := 21) rfl rfl ?_
      refine wp_iaload (pc' := 22) rfl rfl (by first | assumption | rfl) (by omega) ?_
      refine wp_iconst (a := 1) (pc' := 23) rfl rfl rfl ?_
      refine wp_iadd (pc' := 24) rfl rfl (by first | exact w32_id (by omega) (by omega) | rfl) ?_
      refine wp_iastore (pc' := 25) rfl rfl (by first | assumption | rfl) (by omega) ?_
      refine wp_bipush (a := -3) (pc' := 27) rfl rfl rfl ?_
      refine wp_ret rfl rfl rfl ?_
      first | exact ⟨rfl, by rw [up_ne (show (52 : Int) ≠ 0 by decide)]⟩ | (exfalso; omega)
set_option maxRecDepth 20000 in
set_option maxHeartbeats 4000000 in
theorem c_Mod_meets {w : Hp} {d : Nat} {f : Int} (hT : Stc w) (hf : 1 ≤ f ∧ f ≤ 5) : WP SH (d + 0) 140 0 [some (vR 100), some (vI f)] [] w (fun v w' => v = some (vI (-3)) ∧ w' = up (up w 100 0 f) 101 f (w32 (w 101 f + 1))) := by
  refine wp_aload_n (pc' := 1) rfl rfl rfl (by decide) ?_
  refine wp_iload_n (pc' := 2) rfl rfl rfl ?_
  refine wp_putI (ci := 10) (k0 := 0) (pc' := 5) rfl rfl (by decide) (by first | assumption | rfl) ?_
  have hT := hT.putF (r := 100) (i := 0) (x := f) (by decide)
  refine wp_aload_n (pc' := 6) rfl rfl rfl (by decide) ?_
  refine wp_getR (r' := 101) (ci := 10) (k0 := 1) (pc' := 9) rfl rfl (by decide) (by first | assumption | rfl) (hT.get 99 rfl) ?_
  refine wp_iload_n (pc' := 10) rfl rfl rfl ?_
  refine wp_dup2 (pc' := 11) rfl rfl ?_
  refine wp_iaload (pc' := 12) rfl rfl (by first | assumption | rfl) (by omega) ?_
  refine wp_iconst (a := 1) (pc' := 13) rfl rfl rfl ?_
  refine wp_iadd (pc' := 14) rfl rfl (by first | exact w32_id (by omega) (by omega) | rfl) ?_
  refine wp_iastore (pc' := 15) rfl rfl (by first | assumption | rfl) (by omega) ?_
  refine wp_bipush (a := -3) (pc' := 17) rfl rfl rfl ?_
  refine wp_ret rfl rfl rfl ?_
  exact ⟨rfl, by rw [up_ne (show (101 : Int) ≠ 100 by decide)]⟩
set_option maxRecDepth 20000 in
set_option maxHeartbeats 4000000 in
theorem c_Mod_tells {w : Hp} {d : Nat} {x a : Int} : WP SH (d + 0) 143 0 [some (vR 100), some (vI x), some (vI a)] [] w (fun v w' => v = some (vI a) ∧ w' = up w 100 2 x) := by
  refine wp_aload_n (pc' := 1) rfl rfl rfl (by decide) ?_
  refine wp_iload_n (pc' := 2) rfl rfl rfl ?_
  refine wp_putI (ci := 10) (k0 := 2) (pc' := 5) rfl rfl (by decide) (by first | assumption | rfl) ?_
  refine wp_iload_n (pc' := 6) rfl rfl rfl ?_
  refine wp_ret rfl rfl rfl ?_
  exact ⟨rfl, rfl⟩
set_option maxRecDepth 20000 in
set_option maxHeartbeats 4000000 in
theorem c_VH_isRow {w : Hp} {d : Nat} {r : Int} : WP SH (d + 0) 123 0 [some (vI r)] [] w (fun v w' => w' = w ∧ ((v = some (vI 1) ∧ (0 ≤ r ∧ r < 6)) ∨ (v = some (vI 0) ∧ ¬ (0 ≤ r ∧ r < 6)))) := by
  refine wp_iload_n (pc' := 1) rfl rfl rfl ?_
  refine wp_if_lt (pc' := 4) (pt := 14) rfl rfl rfl (fun q_1 => ?_) (fun q_1 => ?_)
  · skip
    refine wp_iconst (a := 0) (pc' := 15) rfl rfl rfl ?_
    refine wp_ret rfl rfl rfl ?_
    first | exact ⟨rfl, Or.inl ⟨rfl, by omega⟩⟩ | exact ⟨rfl, Or.inr ⟨rfl, by omega⟩⟩ | (exfalso; omega)
  · skip
    refine wp_iload_n (pc' := 5) rfl rfl rfl ?_
    refine wp_bipush (a := 6) (pc' := 7) rfl rfl rfl ?_
    refine wp_icmp_ge (pc' := 10) (pt := 14) rfl rfl rfl (fun q_2 => ?_) (fun q_2 => ?_)
    · skip
      refine wp_iconst (a := 0) (pc' := 15) rfl rfl rfl ?_
      refine wp_ret rfl rfl rfl ?_
      first | exact ⟨rfl, Or.inl ⟨rfl, by omega⟩⟩ | exact ⟨rfl, Or.inr ⟨rfl, by omega⟩⟩ | (exfalso; omega)
    · skip
      refine wp_iconst (a := 1) (pc' := 11) rfl rfl rfl ?_
      refine wp_goto (pc' := 15) rfl rfl ?_
      refine wp_ret rfl rfl rfl ?_
      first | exact ⟨rfl, Or.inl ⟨rfl, by omega⟩⟩ | exact ⟨rfl, Or.inr ⟨rfl, by omega⟩⟩ | (exfalso; omega)
set_option maxRecDepth 20000 in
set_option maxHeartbeats 4000000 in
theorem c_VH_isText {w : Hp} {d : Nat} {r : Int} : WP SH (d + 0) 124 0 [some (vI r)] [] w (fun v w' => w' = w ∧ ((v = some (vI 1) ∧ (0 ≤ r ∧ r < 4)) ∨ (v = some (vI 0) ∧ ¬ (0 ≤ r ∧ r < 4)))) := by
  refine wp_iload_n (pc' := 1) rfl rfl rfl ?_
  refine wp_if_lt (pc' := 4) (pt := 13) rfl rfl rfl (fun q_1 => ?_) (fun q_1 => ?_)
  · skip
    refine wp_iconst (a := 0) (pc' := 14) rfl rfl rfl ?_
    refine wp_ret rfl rfl rfl ?_
    first | exact ⟨rfl, Or.inl ⟨rfl, by omega⟩⟩ | exact ⟨rfl, Or.inr ⟨rfl, by omega⟩⟩ | (exfalso; omega)
  · skip
    refine wp_iload_n (pc' := 5) rfl rfl rfl ?_
    refine wp_iconst (a := 4) (pc' := 6) rfl rfl rfl ?_
    refine wp_icmp_ge (pc' := 9) (pt := 13) rfl rfl rfl (fun q_2 => ?_) (fun q_2 => ?_)
    · skip
      refine wp_iconst (a := 0) (pc' := 14) rfl rfl rfl ?_
      refine wp_ret rfl rfl rfl ?_
      first | exact ⟨rfl, Or.inl ⟨rfl, by omega⟩⟩ | exact ⟨rfl, Or.inr ⟨rfl, by omega⟩⟩ | (exfalso; omega)
    · skip
      refine wp_iconst (a := 1) (pc' := 10) rfl rfl rfl ?_
      refine wp_goto (pc' := 14) rfl rfl ?_
      refine wp_ret rfl rfl rfl ?_
      first | exact ⟨rfl, Or.inl ⟨rfl, by omega⟩⟩ | exact ⟨rfl, Or.inr ⟨rfl, by omega⟩⟩ | (exfalso; omega)
set_option maxRecDepth 20000 in
set_option maxHeartbeats 4000000 in
theorem c_VH_isWay {w : Hp} {d : Nat} {r : Int} : WP SH (d + 0) 125 0 [some (vI r)] [] w (fun v w' => w' = w ∧ ((v = some (vI 1) ∧ (0 ≤ r ∧ r < 5)) ∨ (v = some (vI 0) ∧ ¬ (0 ≤ r ∧ r < 5)))) := by
  refine wp_iload_n (pc' := 1) rfl rfl rfl ?_
  refine wp_if_lt (pc' := 4) (pt := 13) rfl rfl rfl (fun q_1 => ?_) (fun q_1 => ?_)
  · skip
    refine wp_iconst (a := 0) (pc' := 14) rfl rfl rfl ?_
    refine wp_ret rfl rfl rfl ?_
    first | exact ⟨rfl, Or.inl ⟨rfl, by omega⟩⟩ | exact ⟨rfl, Or.inr ⟨rfl, by omega⟩⟩ | (exfalso; omega)
  · skip
    refine wp_iload_n (pc' := 5) rfl rfl rfl ?_
    refine wp_iconst (a := 5) (pc' := 6) rfl rfl rfl ?_
    refine wp_icmp_ge (pc' := 9) (pt := 13) rfl rfl rfl (fun q_2 => ?_) (fun q_2 => ?_)
    · skip
      refine wp_iconst (a := 0) (pc' := 14) rfl rfl rfl ?_
      refine wp_ret rfl rfl rfl ?_
      first | exact ⟨rfl, Or.inl ⟨rfl, by omega⟩⟩ | exact ⟨rfl, Or.inr ⟨rfl, by omega⟩⟩ | (exfalso; omega)
    · skip
      refine wp_iconst (a := 1) (pc' := 10) rfl rfl rfl ?_
      refine wp_goto (pc' := 14) rfl rfl ?_
      refine wp_ret rfl rfl rfl ?_
      first | exact ⟨rfl, Or.inl ⟨rfl, by omega⟩⟩ | exact ⟨rfl, Or.inr ⟨rfl, by omega⟩⟩ | (exfalso; omega)
set_option maxRecDepth 20000 in
set_option maxHeartbeats 4000000 in
theorem c_Mod_in {w : Hp} {d : Nat} {x a b : Int} : WP SH (d + 0) 137 0 [some (vI x), some (vI a), some (vI b)] [] w (fun v w' => w' = w ∧ ((v = some (vI 1) ∧ (a ≤ x ∧ x ≤ b)) ∨ (v = some (vI 0) ∧ ¬ (a ≤ x ∧ x ≤ b)))) := by
  refine wp_iload_n (pc' := 1) rfl rfl rfl ?_
  refine wp_iload_n (pc' := 2) rfl rfl rfl ?_
  refine wp_icmp_lt (pc' := 5) (pt := 14) rfl rfl rfl (fun q_1 => ?_) (fun q_1 => ?_)
  · skip
    refine wp_iconst (a := 0) (pc' := 15) rfl rfl rfl ?_
    refine wp_ret rfl rfl rfl ?_
    first | exact ⟨rfl, Or.inl ⟨rfl, by omega⟩⟩ | exact ⟨rfl, Or.inr ⟨rfl, by omega⟩⟩ | (exfalso; omega)
  · skip
    refine wp_iload_n (pc' := 6) rfl rfl rfl ?_
    refine wp_iload_n (pc' := 7) rfl rfl rfl ?_
    refine wp_icmp_gt (pc' := 10) (pt := 14) rfl rfl rfl (fun q_2 => ?_) (fun q_2 => ?_)
    · skip
      refine wp_iconst (a := 0) (pc' := 15) rfl rfl rfl ?_
      refine wp_ret rfl rfl rfl ?_
      first | exact ⟨rfl, Or.inl ⟨rfl, by omega⟩⟩ | exact ⟨rfl, Or.inr ⟨rfl, by omega⟩⟩ | (exfalso; omega)
    · skip
      refine wp_iconst (a := 1) (pc' := 11) rfl rfl rfl ?_
      refine wp_goto (pc' := 15) rfl rfl ?_
      refine wp_ret rfl rfl rfl ?_
      first | exact ⟨rfl, Or.inl ⟨rfl, by omega⟩⟩ | exact ⟨rfl, Or.inr ⟨rfl, by omega⟩⟩ | (exfalso; omega)
set_option maxRecDepth 20000 in
set_option maxHeartbeats 4000000 in
theorem c_Mod_isRow {w : Hp} {d : Nat} {r : Int} : WP SH (d + 1) 148 0 [some (vI r)] [] w (fun v w' => w' = w ∧ ((v = some (vI 1) ∧ (0 ≤ r ∧ r < 6)) ∨ (v = some (vI 0) ∧ ¬ (0 ≤ r ∧ r < 6)))) := by
  refine wp_iload_n (pc' := 1) rfl rfl rfl ?_
  refine wp_iconst (a := 0) (pc' := 2) rfl rfl rfl ?_
  refine wp_iconst (a := 5) (pc' := 3) rfl rfl rfl ?_
  refine wp_call (pc' := 6) rfl rfl rfl rfl rfl ⟨Nat.le_of_ble_eq_true rfl, Nat.le_of_ble_eq_true rfl, Nat.le_of_ble_eq_true rfl, Nat.le_of_ble_eq_true rfl, Nat.le_of_ble_eq_true rfl⟩ rfl (c_Mod_in) ?_
  rintro v1 w1 ⟨hw1, ⟨hv1, hb1⟩ | ⟨hv1, hb1⟩⟩
  · skip
    rw [hv1, hw1]
    clear hv1 hw1 v1 w1
    dsimp only [Option.toList, List.cons_append, List.nil_append, List.append_nil]
    refine wp_ret rfl rfl rfl ?_
    first | exact ⟨rfl, Or.inl ⟨rfl, by omega⟩⟩ | exact ⟨rfl, Or.inr ⟨rfl, by omega⟩⟩ | (exfalso; omega)
  · skip
    rw [hv1, hw1]
    clear hv1 hw1 v1 w1
    dsimp only [Option.toList, List.cons_append, List.nil_append, List.append_nil]
    refine wp_ret rfl rfl rfl ?_
    first | exact ⟨rfl, Or.inl ⟨rfl, by omega⟩⟩ | exact ⟨rfl, Or.inr ⟨rfl, by omega⟩⟩ | (exfalso; omega)
set_option maxRecDepth 20000 in
set_option maxHeartbeats 4000000 in
theorem c_Mod_isText {w : Hp} {d : Nat} {r : Int} : WP SH (d + 1) 156 0 [some (vI r)] [] w (fun v w' => w' = w ∧ ((v = some (vI 1) ∧ (0 ≤ r ∧ r < 4)) ∨ (v = some (vI 0) ∧ ¬ (0 ≤ r ∧ r < 4)))) := by
  refine wp_iload_n (pc' := 1) rfl rfl rfl ?_
  refine wp_iconst (a := 0) (pc' := 2) rfl rfl rfl ?_
  refine wp_iconst (a := 3) (pc' := 3) rfl rfl rfl ?_
  refine wp_call (pc' := 6) rfl rfl rfl rfl rfl ⟨Nat.le_of_ble_eq_true rfl, Nat.le_of_ble_eq_true rfl, Nat.le_of_ble_eq_true rfl, Nat.le_of_ble_eq_true rfl, Nat.le_of_ble_eq_true rfl⟩ rfl (c_Mod_in) ?_
  rintro v1 w1 ⟨hw1, ⟨hv1, hb1⟩ | ⟨hv1, hb1⟩⟩
  · skip
    rw [hv1, hw1]
    clear hv1 hw1 v1 w1
    dsimp only [Option.toList, List.cons_append, List.nil_append, List.append_nil]
    refine wp_ret rfl rfl rfl ?_
    first | exact ⟨rfl, Or.inl ⟨rfl, by omega⟩⟩ | exact ⟨rfl, Or.inr ⟨rfl, by omega⟩⟩ | (exfalso; omega)
  · skip
    rw [hv1, hw1]
    clear hv1 hw1 v1 w1
    dsimp only [Option.toList, List.cons_append, List.nil_append, List.append_nil]
    refine wp_ret rfl rfl rfl ?_
    first | exact ⟨rfl, Or.inl ⟨rfl, by omega⟩⟩ | exact ⟨rfl, Or.inr ⟨rfl, by omega⟩⟩ | (exfalso; omega)
set_option maxRecDepth 20000 in
set_option maxHeartbeats 4000000 in
theorem c_Mod_isOne {w : Hp} {d : Nat} {i : Int} (hn : 0 ≤ w 100 10 ∧ w 100 10 ≤ 6) : WP SH (d + 1) 167 0 [some (vR 100), some (vI i)] [] w (fun v w' => w' = w ∧ ((v = some (vI 1) ∧ (0 ≤ i ∧ i < w 100 10)) ∨ (v = some (vI 0) ∧ ¬ (0 ≤ i ∧ i < w 100 10)))) := by
  refine wp_iload_n (pc' := 1) rfl rfl rfl ?_
  refine wp_iconst (a := 0) (pc' := 2) rfl rfl rfl ?_
  refine wp_aload_n (pc' := 3) rfl rfl rfl (by decide) ?_
  refine wp_getI (ci := 10) (k0 := 10) (pc' := 6) rfl rfl (by decide) (by first | assumption | rfl) ?_
  refine wp_iconst (a := 1) (pc' := 7) rfl rfl rfl ?_
  refine wp_isub (pc' := 8) rfl rfl (by first | exact w32_id (by omega) (by omega) | rfl) ?_
  refine wp_call (pc' := 11) rfl rfl rfl rfl rfl ⟨Nat.le_of_ble_eq_true rfl, Nat.le_of_ble_eq_true rfl, Nat.le_of_ble_eq_true rfl, Nat.le_of_ble_eq_true rfl, Nat.le_of_ble_eq_true rfl⟩ rfl (c_Mod_in) ?_
  rintro v1 w1 ⟨hw1, ⟨hv1, hb1⟩ | ⟨hv1, hb1⟩⟩
  · skip
    rw [hv1, hw1]
    clear hv1 hw1 v1 w1
    dsimp only [Option.toList, List.cons_append, List.nil_append, List.append_nil]
    refine wp_ret rfl rfl rfl ?_
    first | exact ⟨rfl, Or.inl ⟨rfl, by omega⟩⟩ | exact ⟨rfl, Or.inr ⟨rfl, by omega⟩⟩ | (exfalso; omega)
  · skip
    rw [hv1, hw1]
    clear hv1 hw1 v1 w1
    dsimp only [Option.toList, List.cons_append, List.nil_append, List.append_nil]
    refine wp_ret rfl rfl rfl ?_
    first | exact ⟨rfl, Or.inl ⟨rfl, by omega⟩⟩ | exact ⟨rfl, Or.inr ⟨rfl, by omega⟩⟩ | (exfalso; omega)
set_option maxRecDepth 20000 in
set_option maxHeartbeats 4000000 in
theorem c_Mod_isCell {w : Hp} {d : Nat} {i : Int} (hn : 0 ≤ w 100 11 * w 100 12 ∧ w 100 11 * w 100 12 ≤ 25) : WP SH (d + 1) 168 0 [some (vR 100), some (vI i)] [] w (fun v w' => w' = w ∧ ((v = some (vI 1) ∧ (0 ≤ i ∧ i < w 100 11 * w 100 12)) ∨ (v = some (vI 0) ∧ ¬ (0 ≤ i ∧ i < w 100 11 * w 100 12)))) := by
  refine wp_iload_n (pc' := 1) rfl rfl rfl ?_
  refine wp_iconst (a := 0) (pc' := 2) rfl rfl rfl ?_
  refine wp_aload_n (pc' := 3) rfl rfl rfl (by decide) ?_
  refine wp_getI (ci := 10) (k0 := 11) (pc' := 6) rfl rfl (by decide) (by first | assumption | rfl) ?_
  refine wp_aload_n (pc' := 7) rfl rfl rfl (by decide) ?_
  refine wp_getI (ci := 10) (k0 := 12) (pc' := 10) rfl rfl (by decide) (by first | assumption | rfl) ?_
  refine wp_imul (pc' := 11) rfl rfl (by first | exact w32_id (by omega) (by omega) | rfl) ?_
  refine wp_iconst (a := 1) (pc' := 12) rfl rfl rfl ?_
  refine wp_isub (pc' := 13) rfl rfl (by first | exact w32_id (by omega) (by omega) | rfl) ?_
  refine wp_call (pc' := 16) rfl rfl rfl rfl rfl ⟨Nat.le_of_ble_eq_true rfl, Nat.le_of_ble_eq_true rfl, Nat.le_of_ble_eq_true rfl, Nat.le_of_ble_eq_true rfl, Nat.le_of_ble_eq_true rfl⟩ rfl (c_Mod_in) ?_
  rintro v1 w1 ⟨hw1, ⟨hv1, hb1⟩ | ⟨hv1, hb1⟩⟩
  · skip
    rw [hv1, hw1]
    clear hv1 hw1 v1 w1
    dsimp only [Option.toList, List.cons_append, List.nil_append, List.append_nil]
    refine wp_ret rfl rfl rfl ?_
    first | exact ⟨rfl, Or.inl ⟨rfl, by omega⟩⟩ | exact ⟨rfl, Or.inr ⟨rfl, by omega⟩⟩ | (exfalso; omega)
  · skip
    rw [hv1, hw1]
    clear hv1 hw1 v1 w1
    dsimp only [Option.toList, List.cons_append, List.nil_append, List.append_nil]
    refine wp_ret rfl rfl rfl ?_
    first | exact ⟨rfl, Or.inl ⟨rfl, by omega⟩⟩ | exact ⟨rfl, Or.inr ⟨rfl, by omega⟩⟩ | (exfalso; omega)
set_option maxRecDepth 20000 in
set_option maxHeartbeats 4000000 in
theorem c_Mod_rowAt {w : Hp} {d : Nat} {r i : Int} (hT : Stc w) (hr : 0 ≤ r ∧ r < 6) (hi : 0 ≤ i ∧ i < 40) : WP SH (d + 0) 149 0 [some (vR 100), some (vI r), some (vI i)] [] w (fun v w' => v = some (vI (w 103 (40 * r + i))) ∧ w' = w) := by
  refine wp_aload_n (pc' := 1) rfl rfl rfl (by decide) ?_
  refine wp_getR (r' := 103) (ci := 10) (k0 := 6) (pc' := 4) rfl rfl (by decide) (by first | assumption | rfl) (hT.get 101 rfl) ?_
  refine wp_bipush (a := 40) (pc' := 6) rfl rfl rfl ?_
  refine wp_iload_n (pc' := 7) rfl rfl rfl ?_
  refine wp_imul (pc' := 8) rfl rfl (by first | exact w32_id (by omega) (by omega) | rfl) ?_
  refine wp_iload_n (pc' := 9) rfl rfl rfl ?_
  refine wp_iadd (pc' := 10) rfl rfl (by first | exact w32_id (by omega) (by omega) | rfl) ?_
  refine wp_iaload (pc' := 11) rfl rfl (by first | assumption | rfl) (by omega) ?_
  refine wp_ret rfl rfl rfl ?_
  exact ⟨rfl, rfl⟩
set_option maxRecDepth 20000 in
set_option maxHeartbeats 4000000 in
theorem c_Mod_need {w : Hp} {d : Nat} {g : Int} (hg : g = 0 ∨ g = 1) : WP SH (d + 0) 197 0 [some (vR 100), some (vI g)] [] w (fun v w' => w' = w ∧ ((v = some (vI (-1)) ∧ g = 0) ∨ (v = some (vI (-4)) ∧ g = 1 ∧ w 100 10 = 0) ∨ (v = some (vI 0) ∧ g = 1 ∧ w 100 10 ≠ 0))) := by
  refine wp_iload_n (pc' := 1) rfl rfl rfl ?_
  refine wp_if_ne (pc' := 4) (pt := 8) rfl rfl rfl (fun q_1 => ?_) (fun q_1 => ?_)
  · skip
    refine wp_aload_n (pc' := 9) rfl rfl rfl (by decide) ?_
    refine wp_getI (ci := 10) (k0 := 10) (pc' := 12) rfl rfl (by decide) (by first | assumption | rfl) ?_
    refine wp_if_ne (pc' := 15) (pt := 20) rfl rfl rfl (fun q_2 => ?_) (fun q_2 => ?_)
    · skip
      refine wp_iconst (a := 0) (pc' := 21) rfl rfl rfl ?_
      refine wp_ret rfl rfl rfl ?_
      first | exact ⟨rfl, Or.inl ⟨rfl, by omega⟩⟩ | exact ⟨rfl, Or.inr (Or.inl ⟨rfl, by omega, by omega⟩)⟩ | exact ⟨rfl, Or.inr (Or.inr ⟨rfl, by omega, by omega⟩)⟩ | (exfalso; omega)
    · skip
      refine wp_bipush (a := -4) (pc' := 17) rfl rfl rfl ?_
      refine wp_goto (pc' := 21) rfl rfl ?_
      refine wp_ret rfl rfl rfl ?_
      first | exact ⟨rfl, Or.inl ⟨rfl, by omega⟩⟩ | exact ⟨rfl, Or.inr (Or.inl ⟨rfl, by omega, by omega⟩)⟩ | exact ⟨rfl, Or.inr (Or.inr ⟨rfl, by omega, by omega⟩)⟩ | (exfalso; omega)
  · skip
    refine wp_iconst (a := -1) (pc' := 5) rfl rfl rfl ?_
    refine wp_goto (pc' := 21) rfl rfl ?_
    refine wp_ret rfl rfl rfl ?_
    first | exact ⟨rfl, Or.inl ⟨rfl, by omega⟩⟩ | exact ⟨rfl, Or.inr (Or.inl ⟨rfl, by omega, by omega⟩)⟩ | exact ⟨rfl, Or.inr (Or.inr ⟨rfl, by omega, by omega⟩)⟩ | (exfalso; omega)
set_option maxRecDepth 20000 in
set_option maxHeartbeats 4000000 in
theorem c_Land_isEmpty_3 {w : Hp} {d : Nat}  : WP SH (d + 0) 26 0 [some (vR 3)] [] w (fun v w' => w' = w ∧ ((v = some (vI 1) ∧ (w 3 0 = 0)) ∨ (v = some (vI 0) ∧ ¬ (w 3 0 = 0)))) := by
  refine wp_aload_n (pc' := 1) rfl rfl rfl (by decide) ?_
  refine wp_getI (ci := 3) (k0 := 0) (pc' := 4) rfl rfl (by decide) (by first | assumption | rfl) ?_
  refine wp_if_ne (pc' := 7) (pt := 11) rfl rfl rfl (fun q_1 => ?_) (fun q_1 => ?_)
  · skip
    refine wp_iconst (a := 0) (pc' := 12) rfl rfl rfl ?_
    refine wp_ret rfl rfl rfl ?_
    first | exact ⟨rfl, Or.inl ⟨rfl, by omega⟩⟩ | exact ⟨rfl, Or.inr ⟨rfl, by omega⟩⟩ | (exfalso; omega)
  · skip
    refine wp_iconst (a := 1) (pc' := 8) rfl rfl rfl ?_
    refine wp_goto (pc' := 12) rfl rfl ?_
    refine wp_ret rfl rfl rfl ?_
    first | exact ⟨rfl, Or.inl ⟨rfl, by omega⟩⟩ | exact ⟨rfl, Or.inr ⟨rfl, by omega⟩⟩ | (exfalso; omega)
set_option maxRecDepth 20000 in
set_option maxHeartbeats 4000000 in
theorem c_Land_isEmpty_73 {w : Hp} {d : Nat}  : WP SH (d + 0) 26 0 [some (vR 73)] [] w (fun v w' => w' = w ∧ ((v = some (vI 1) ∧ (w 73 0 = 0)) ∨ (v = some (vI 0) ∧ ¬ (w 73 0 = 0)))) := by
  refine wp_aload_n (pc' := 1) rfl rfl rfl (by decide) ?_
  refine wp_getI (ci := 3) (k0 := 0) (pc' := 4) rfl rfl (by decide) (by first | assumption | rfl) ?_
  refine wp_if_ne (pc' := 7) (pt := 11) rfl rfl rfl (fun q_1 => ?_) (fun q_1 => ?_)
  · skip
    refine wp_iconst (a := 0) (pc' := 12) rfl rfl rfl ?_
    refine wp_ret rfl rfl rfl ?_
    first | exact ⟨rfl, Or.inl ⟨rfl, by omega⟩⟩ | exact ⟨rfl, Or.inr ⟨rfl, by omega⟩⟩ | (exfalso; omega)
  · skip
    refine wp_iconst (a := 1) (pc' := 8) rfl rfl rfl ?_
    refine wp_goto (pc' := 12) rfl rfl ?_
    refine wp_ret rfl rfl rfl ?_
    first | exact ⟨rfl, Or.inl ⟨rfl, by omega⟩⟩ | exact ⟨rfl, Or.inr ⟨rfl, by omega⟩⟩ | (exfalso; omega)
set_option maxRecDepth 20000 in
set_option maxHeartbeats 4000000 in
theorem c_Land_isEmpty_82 {w : Hp} {d : Nat}  : WP SH (d + 0) 26 0 [some (vR 82)] [] w (fun v w' => w' = w ∧ ((v = some (vI 1) ∧ (w 82 0 = 0)) ∨ (v = some (vI 0) ∧ ¬ (w 82 0 = 0)))) := by
  refine wp_aload_n (pc' := 1) rfl rfl rfl (by decide) ?_
  refine wp_getI (ci := 3) (k0 := 0) (pc' := 4) rfl rfl (by decide) (by first | assumption | rfl) ?_
  refine wp_if_ne (pc' := 7) (pt := 11) rfl rfl rfl (fun q_1 => ?_) (fun q_1 => ?_)
  · skip
    refine wp_iconst (a := 0) (pc' := 12) rfl rfl rfl ?_
    refine wp_ret rfl rfl rfl ?_
    first | exact ⟨rfl, Or.inl ⟨rfl, by omega⟩⟩ | exact ⟨rfl, Or.inr ⟨rfl, by omega⟩⟩ | (exfalso; omega)
  · skip
    refine wp_iconst (a := 1) (pc' := 8) rfl rfl rfl ?_
    refine wp_goto (pc' := 12) rfl rfl ?_
    refine wp_ret rfl rfl rfl ?_
    first | exact ⟨rfl, Or.inl ⟨rfl, by omega⟩⟩ | exact ⟨rfl, Or.inr ⟨rfl, by omega⟩⟩ | (exfalso; omega)
set_option maxRecDepth 20000 in
set_option maxHeartbeats 4000000 in
theorem c_Land_isEmpty_91 {w : Hp} {d : Nat}  : WP SH (d + 0) 26 0 [some (vR 91)] [] w (fun v w' => w' = w ∧ ((v = some (vI 1) ∧ (w 91 0 = 0)) ∨ (v = some (vI 0) ∧ ¬ (w 91 0 = 0)))) := by
  refine wp_aload_n (pc' := 1) rfl rfl rfl (by decide) ?_
  refine wp_getI (ci := 3) (k0 := 0) (pc' := 4) rfl rfl (by decide) (by first | assumption | rfl) ?_
  refine wp_if_ne (pc' := 7) (pt := 11) rfl rfl rfl (fun q_1 => ?_) (fun q_1 => ?_)
  · skip
    refine wp_iconst (a := 0) (pc' := 12) rfl rfl rfl ?_
    refine wp_ret rfl rfl rfl ?_
    first | exact ⟨rfl, Or.inl ⟨rfl, by omega⟩⟩ | exact ⟨rfl, Or.inr ⟨rfl, by omega⟩⟩ | (exfalso; omega)
  · skip
    refine wp_iconst (a := 1) (pc' := 8) rfl rfl rfl ?_
    refine wp_goto (pc' := 12) rfl rfl ?_
    refine wp_ret rfl rfl rfl ?_
    first | exact ⟨rfl, Or.inl ⟨rfl, by omega⟩⟩ | exact ⟨rfl, Or.inr ⟨rfl, by omega⟩⟩ | (exfalso; omega)
set_option maxRecDepth 20000 in
set_option maxHeartbeats 4000000 in
theorem c_Land_cells {w : Hp} {d : Nat} (hn : 0 ≤ w 3 0 * w 3 1 ∧ w 3 0 * w 3 1 ≤ 25) : WP SH (d + 0) 27 0 [some (vR 3)] [] w (fun v w' => v = some (vI (w 3 0 * w 3 1)) ∧ w' = w) := by
  refine wp_aload_n (pc' := 1) rfl rfl rfl (by decide) ?_
  refine wp_getI (ci := 3) (k0 := 0) (pc' := 4) rfl rfl (by decide) (by first | assumption | rfl) ?_
  refine wp_aload_n (pc' := 5) rfl rfl rfl (by decide) ?_
  refine wp_getI (ci := 3) (k0 := 1) (pc' := 8) rfl rfl (by decide) (by first | assumption | rfl) ?_
  refine wp_imul (pc' := 9) rfl rfl (by first | exact w32_id (by omega) (by omega) | rfl) ?_
  refine wp_ret rfl rfl rfl ?_
  exact ⟨rfl, rfl⟩
set_option maxRecDepth 20000 in
set_option maxHeartbeats 4000000 in
theorem c_Land_hasCell {w : Hp} {d : Nat} {x : Int} (hn : 0 ≤ w 3 0 * w 3 1 ∧ w 3 0 * w 3 1 ≤ 25) : WP SH (d + 1) 28 0 [some (vR 3), some (vI x)] [] w (fun v w' => w' = w ∧ ((v = some (vI 1) ∧ (0 ≤ x ∧ x < w 3 0 * w 3 1)) ∨ (v = some (vI 0) ∧ ¬ (0 ≤ x ∧ x < w 3 0 * w 3 1)))) := by
  refine wp_iload_n (pc' := 1) rfl rfl rfl ?_
  refine wp_if_lt (pc' := 4) (pt := 16) rfl rfl rfl (fun q_1 => ?_) (fun q_1 => ?_)
  · skip
    refine wp_iconst (a := 0) (pc' := 17) rfl rfl rfl ?_
    refine wp_ret rfl rfl rfl ?_
    first | exact ⟨rfl, Or.inl ⟨rfl, by omega⟩⟩ | exact ⟨rfl, Or.inr ⟨rfl, by omega⟩⟩ | (exfalso; omega)
  · skip
    refine wp_iload_n (pc' := 5) rfl rfl rfl ?_
    refine wp_aload_n (pc' := 6) rfl rfl rfl (by decide) ?_
    refine wp_call (pc' := 9) rfl rfl rfl rfl rfl ⟨Nat.le_of_ble_eq_true rfl, Nat.le_of_ble_eq_true rfl, Nat.le_of_ble_eq_true rfl, Nat.le_of_ble_eq_true rfl, Nat.le_of_ble_eq_true rfl⟩ rfl (c_Land_cells hn) ?_
    intro v1 w1 hq1
    rw [hq1.1, hq1.2]
    clear hq1 v1 w1
    dsimp only [Option.toList, List.cons_append, List.nil_append, List.append_nil]
    refine wp_icmp_ge (pc' := 12) (pt := 16) rfl rfl rfl (fun q_2 => ?_) (fun q_2 => ?_)
    · skip
      refine wp_iconst (a := 0) (pc' := 17) rfl rfl rfl ?_
      refine wp_ret rfl rfl rfl ?_
      first | exact ⟨rfl, Or.inl ⟨rfl, by omega⟩⟩ | exact ⟨rfl, Or.inr ⟨rfl, by omega⟩⟩ | (exfalso; omega)
    · skip
      refine wp_iconst (a := 1) (pc' := 13) rfl rfl rfl ?_
      refine wp_goto (pc' := 17) rfl rfl ?_
      refine wp_ret rfl rfl rfl ?_
      first | exact ⟨rfl, Or.inl ⟨rfl, by omega⟩⟩ | exact ⟨rfl, Or.inr ⟨rfl, by omega⟩⟩ | (exfalso; omega)
set_option maxRecDepth 20000 in
set_option maxHeartbeats 4000000 in
theorem c_Land_hasOne {w : Hp} {d : Nat} {i : Int} : WP SH (d + 0) 29 0 [some (vR 3), some (vI i)] [] w (fun v w' => w' = w ∧ ((v = some (vI 1) ∧ (0 ≤ i ∧ i < w 3 2)) ∨ (v = some (vI 0) ∧ ¬ (0 ≤ i ∧ i < w 3 2)))) := by
  refine wp_iload_n (pc' := 1) rfl rfl rfl ?_
  refine wp_if_lt (pc' := 4) (pt := 16) rfl rfl rfl (fun q_1 => ?_) (fun q_1 => ?_)
  · skip
    refine wp_iconst (a := 0) (pc' := 17) rfl rfl rfl ?_
    refine wp_ret rfl rfl rfl ?_
    first | exact ⟨rfl, Or.inl ⟨rfl, by omega⟩⟩ | exact ⟨rfl, Or.inr ⟨rfl, by omega⟩⟩ | (exfalso; omega)
  · skip
    refine wp_iload_n (pc' := 5) rfl rfl rfl ?_
    refine wp_aload_n (pc' := 6) rfl rfl rfl (by decide) ?_
    refine wp_getI (ci := 3) (k0 := 2) (pc' := 9) rfl rfl (by decide) (by first | assumption | rfl) ?_
    refine wp_icmp_ge (pc' := 12) (pt := 16) rfl rfl rfl (fun q_2 => ?_) (fun q_2 => ?_)
    · skip
      refine wp_iconst (a := 0) (pc' := 17) rfl rfl rfl ?_
      refine wp_ret rfl rfl rfl ?_
      first | exact ⟨rfl, Or.inl ⟨rfl, by omega⟩⟩ | exact ⟨rfl, Or.inr ⟨rfl, by omega⟩⟩ | (exfalso; omega)
    · skip
      refine wp_iconst (a := 1) (pc' := 13) rfl rfl rfl ?_
      refine wp_goto (pc' := 17) rfl rfl ?_
      refine wp_ret rfl rfl rfl ?_
      first | exact ⟨rfl, Or.inl ⟨rfl, by omega⟩⟩ | exact ⟨rfl, Or.inr ⟨rfl, by omega⟩⟩ | (exfalso; omega)
end
section
/-! WHAT TIES THE TWO: the invariant between the class's cells and the reference's -/
def I32 (x : Int) : Prop := -2147483648 ≤ x ∧ x < 2147483648
/-- findings, what is told -/
def IFd (w : Hp) : Prop := w 0 13 = w 100 0 ∧ (∀ f : Int, 1 ≤ f → f ≤ 5 → w 52 f = w 101 f) ∧ w 50 0 = w 100 3 ∧ w 50 1 = w 100 4
def ITo (w : Hp) : Prop := w 0 14 = w 100 2
/-- rows, texts -/
def IRw (w : Hp) : Prop := ∀ r : Int, 0 ≤ r → r < 6 → w (53 + 2 * r) 1 = w 102 r ∧ (-1 ≤ w 102 r ∧ w 102 r ≤ 40) ∧ ∀ j : Int, 0 ≤ j → j < w 102 r → w (54 + 2 * r) j = w 103 (40 * r + j) ∧ I32 (w 103 (40 * r + j))
def ITx (w : Hp) : Prop := ∀ t : Int, 0 ≤ t → t < 4 → w (65 + 2 * t) 1 = w 105 t ∧ (-1 ≤ w 105 t ∧ w 105 t ≤ 60) ∧ ∀ j : Int, 0 ≤ j → j < w 105 t → w (66 + 2 * t) j = w 106 (60 * t + j) ∧ (-128 ≤ w 106 (60 * t + j) ∧ w 106 (60 * t + j) ≤ 127)
/-- a land of the class at o against what the reference holds of it: now N, log G of m deeds -/
def LR (w : Hp) (o : Int) (N G : Int → Int) (m : Int) : Prop :=
  (w o 0 = w 100 11 ∧ w o 1 = w 100 12 ∧ w o 2 = w 100 10 ∧ w o 3 = N 0 ∧ w o 4 = N 1 ∧ w o 5 = N 2 ∧ w o 6 = m) ∧ (0 ≤ m ∧ m ≤ 40) ∧ Cel (w 100 11) (w 100 12) (N 0) ∧ (0 ≤ N 1 ∧ N 1 ≤ 4) ∧ (0 ≤ N 2 ∧ N 2 ≤ 40)
  ∧ (∀ i : Int, 0 ≤ i → i < w 100 10 → w (o + 1) i = w 107 i ∧ w (o + 2) i = N (3 + i) ∧ w (o + 3) i = w 108 i ∧ Cel (w 100 11) (w 100 12) (N (3 + i)))
  ∧ ∀ e : Int, 0 ≤ e → e < m → w (o + 4) e = G (9 * e) ∧ w (o + 5) e = G (9 * e + 1) ∧ w (o + 6) e = G (9 * e + 2) ∧ Cel (w 100 11) (w 100 12) (G (9 * e)) ∧ (0 ≤ G (9 * e + 1) ∧ G (9 * e + 1) ≤ 4) ∧ (0 ≤ G (9 * e + 2) ∧ G (9 * e + 2) ≤ 40)
    ∧ ∀ i : Int, 0 ≤ i → i < w 100 10 → G (9 * e + 3 + i) = (if w (o + 7) e = i then w (o + 8) e else if e + 1 < m then G (9 * (e + 1) + 3 + i) else N (3 + i)) ∧ Cel (w 100 11) (w 100 12) (G (9 * e + 3 + i))
def ILn (w : Hp) : Prop := (w 3 0 = 0 ∧ w 3 1 = 0 ∧ w 3 2 = 0 ∧ w 3 3 = 0 ∧ w 3 4 = 0 ∧ w 3 5 = 0 ∧ w 3 6 = 0 ∧ w 100 10 = 0 ∧ w 100 11 = 0 ∧ w 100 12 = 0 ∧ w 109 0 = 0 ∧ w 109 1 = 0 ∧ w 109 2 = 0 ∧ w 100 23 = 0) ∨ (MdOK w ∧ LR w 3 (w 109) (w 114) (w 100 23))
def IKp (w : Hp) : Prop := ∀ k : Int, 0 ≤ k → k < 3 → (w 115 k = 0 ∧ w (73 + 9 * k) 0 = 0) ∨ (w 115 k = 1 ∧ MdOK w ∧ LR w (73 + 9 * k) (fun j => w 117 (9 * k + j)) (fun j => w 118 (360 * k + j)) (w 116 k))
def Inv (w : Hp) : Prop := Stc w ∧ ROw w ∧ IFd w ∧ ITo w ∧ IRw w ∧ ITx w ∧ ILn w ∧ IKp w
theorem LR.congr {w w' : Hp} {o : Int} {N G : Int → Int} {m : Int} (h : LR w o N G m) (h1 : ∀ q : Int, o ≤ q → q ≤ o + 8 → w' q = w q) (h2 : w' 100 10 = w 100 10 ∧ w' 100 11 = w 100 11 ∧ w' 100 12 = w 100 12) (h3 : w' 107 = w 107) (h4 : w' 108 = w 108) : LR w' o N G m := by
  unfold LR at h ⊢
  rw [h1 o (by omega) (by omega), h1 (o + 1) (by omega) (by omega), h1 (o + 2) (by omega) (by omega), h1 (o + 3) (by omega) (by omega), h1 (o + 4) (by omega) (by omega), h1 (o + 5) (by omega) (by omega), h1 (o + 6) (by omega) (by omega), h1 (o + 7) (by omega) (by omega), h1 (o + 8) (by omega) (by omega), h2.1, h2.2.1, h2.2.2, h3, h4]
  exact h
/-- the cells of lands on both sides are as they were -/
def LandSame (w w' : Hp) : Prop := (∀ q : Int, 3 ≤ q → q ≤ 11 → w' q = w q) ∧ (∀ q : Int, 73 ≤ q → q ≤ 99 → w' q = w q) ∧ (w' 100 10 = w 100 10 ∧ w' 100 11 = w 100 11 ∧ w' 100 12 = w 100 12) ∧ w' 100 23 = w 100 23 ∧ w' 107 = w 107 ∧ w' 108 = w 108 ∧ w' 109 = w 109 ∧ w' 114 = w 114 ∧ w' 115 = w 115 ∧ w' 116 = w 116 ∧ w' 117 = w 117 ∧ w' 118 = w 118
theorem MdOK.ls {w w' : Hp} (h : MdOK w) (hs : LandSame w w') : MdOK w' := by
  obtain ⟨-, -, h3, -, h5, h6, h7, -⟩ := hs
  unfold MdOK at h ⊢
  rw [h3.1, h3.2.1, h3.2.2, h5, h6, h7]
  exact h
theorem ILn.ls {w w' : Hp} (h : ILn w) (hs : LandSame w w') : ILn w' := by
  obtain ⟨h1, h2, h3, h4, h5, h6, h7, h8, h9, h10, h11, h12⟩ := id hs
  rcases h with h | ⟨ha, hb⟩
  · refine Or.inl ?_
    rw [h1 3 (by omega) (by omega), h3.1, h3.2.1, h3.2.2, h7, h4]
    exact h
  · refine Or.inr ⟨ha.ls hs, ?_⟩
    rw [h7, h8, h4]
    exact hb.congr (fun q a b => h1 q a (by omega)) h3 h5 h6
theorem IKp.ls {w w' : Hp} (h : IKp w) (hs : LandSame w w') : IKp w' := by
  obtain ⟨h1, h2, h3, h4, h5, h6, h7, h8, h9, h10, h11, h12⟩ := id hs
  intro k hk0 hk
  rw [h9, h10, h11, h12, h2 (73 + 9 * k) (by omega) (by omega)]
  rcases h k hk0 hk with h | ⟨ha, hb, hc⟩
  · exact Or.inl h
  · exact Or.inr ⟨ha, hb.ls hs, hc.congr (fun q a b => h2 q (by omega) (by omega)) h3 h5 h6⟩
theorem strip_row {w : Hp} (hT : Stc w) {r : Int} (h0 : 0 ≤ r) (h6 : r < 6) : StripAt w (53 + 2 * r) (54 + 2 * r) 40 ∧ w 1 r = 53 + 2 * r := by
  have : r = 0 ∨ r = 1 ∨ r = 2 ∨ r = 3 ∨ r = 4 ∨ r = 5 := by omega
  rcases this with rfl | rfl | rfl | rfl | rfl | rfl
  · exact ⟨⟨rfl, rfl, hT.get 65 rfl, by decide, by decide, by decide, by decide⟩, hT.get 13 rfl⟩
  · exact ⟨⟨rfl, rfl, hT.get 66 rfl, by decide, by decide, by decide, by decide⟩, hT.get 14 rfl⟩
  · exact ⟨⟨rfl, rfl, hT.get 67 rfl, by decide, by decide, by decide, by decide⟩, hT.get 15 rfl⟩
  · exact ⟨⟨rfl, rfl, hT.get 68 rfl, by decide, by decide, by decide, by decide⟩, hT.get 16 rfl⟩
  · exact ⟨⟨rfl, rfl, hT.get 69 rfl, by decide, by decide, by decide, by decide⟩, hT.get 17 rfl⟩
  · exact ⟨⟨rfl, rfl, hT.get 70 rfl, by decide, by decide, by decide, by decide⟩, hT.get 18 rfl⟩
theorem strip_text {w : Hp} (hT : Stc w) {r : Int} (h0 : 0 ≤ r) (h6 : r < 4) : StripAt w (65 + 2 * r) (66 + 2 * r) 60 ∧ w 2 r = 65 + 2 * r := by
  have : r = 0 ∨ r = 1 ∨ r = 2 ∨ r = 3 := by omega
  rcases this with rfl | rfl | rfl | rfl
  · exact ⟨⟨rfl, rfl, hT.get 71 rfl, by decide, by decide, by decide, by decide⟩, hT.get 19 rfl⟩
  · exact ⟨⟨rfl, rfl, hT.get 72 rfl, by decide, by decide, by decide, by decide⟩, hT.get 20 rfl⟩
  · exact ⟨⟨rfl, rfl, hT.get 73 rfl, by decide, by decide, by decide, by decide⟩, hT.get 21 rfl⟩
  · exact ⟨⟨rfl, rfl, hT.get 74 rfl, by decide, by decide, by decide, by decide⟩, hT.get 22 rfl⟩
/-- a refusal on both sides -/
theorem Inv.refused {w : Hp} (h : Inv w) {f : Int} (hf : 1 ≤ f ∧ f ≤ 5) : Inv (up (up (up (up w 0 13 f) 52 f (w32 (w 52 f + 1))) 100 0 f) 101 f (w32 (w 101 f + 1))) := by
  obtain ⟨h1, h2, h3, h4, h5, h6, h7, h8⟩ := h
  have hs : SameF w (up (up (up (up w 0 13 f) 52 f (w32 (w 52 f + 1))) 100 0 f) 101 f (w32 (w 101 f + 1))) [52, 101] [(0, 13), (100, 0)] := (((((SameF.rf w _ _).put (Or.inr (by decide))).put (Or.inl (by decide))).put (Or.inr (by decide))).put (Or.inl (by decide)))
  have h52 : ∀ j : Int, (up (up (up (up w 0 13 f) 52 f (w32 (w 52 f + 1))) 100 0 f) 101 f (w32 (w 101 f + 1))) 52 j = if j = f then w32 (w 52 f + 1) else w 52 j := fun j => by
    rw [up_ne (by decide), up_ne (by decide)]
    by_cases hj : j = f
    · rw [if_pos hj, hj, up_eq]
    · rw [if_neg hj, up_at hj, up_ne (by decide)]
  have h101 : ∀ j : Int, (up (up (up (up w 0 13 f) 52 f (w32 (w 52 f + 1))) 100 0 f) 101 f (w32 (w 101 f + 1))) 101 j = if j = f then w32 (w 101 f + 1) else w 101 j := fun j => by
    by_cases hj : j = f
    · rw [if_pos hj, hj, up_eq]
    · rw [if_neg hj, up_at hj, up_ne (by decide), up_ne (by decide), up_ne (by decide)]
  have h013 : (up (up (up (up w 0 13 f) 52 f (w32 (w 52 f + 1))) 100 0 f) 101 f (w32 (w 101 f + 1))) 0 13 = f := by rw [up_ne (by decide), up_ne (by decide), up_ne (by decide), up_eq]
  have h1000 : (up (up (up (up w 0 13 f) 52 f (w32 (w 52 f + 1))) 100 0 f) 101 f (w32 (w 101 f + 1))) 100 0 = f := by rw [up_ne (by decide), up_eq]
  generalize (up (up (up (up w 0 13 f) 52 f (w32 (w 52 f + 1))) 100 0 f) 101 f (w32 (w 101 f + 1))) = w' at *
  have hc : ∀ q : Int, q ≠ 0 → q ≠ 52 → q ≠ 100 → q ≠ 101 → w' q = w q := fun q a b c e => hs.cell q (by simp; omega) (fun z hz => by simp at hz; rcases hz with rfl | rfl <;> (dsimp only; omega))
  have hf1 : ∀ k : Int, k ≠ 13 → w' 0 k = w 0 k := fun k hk => hs 0 k (by decide) (by simp; omega)
  have hf2 : ∀ k : Int, k ≠ 0 → w' 100 k = w 100 k := fun k hk => hs 100 k (by decide) (by simp; omega)
  have hls : LandSame w w' := ⟨fun q a b => hc q (by omega) (by omega) (by omega) (by omega), fun q a b => hc q (by omega) (by omega) (by omega) (by omega), ⟨hf2 10 (by decide), hf2 11 (by decide), hf2 12 (by decide)⟩, hf2 23 (by decide), hc 107 (by decide) (by decide) (by decide) (by decide), hc 108 (by decide) (by decide) (by decide) (by decide), hc 109 (by decide) (by decide) (by decide) (by decide), hc 114 (by decide) (by decide) (by decide) (by decide), hc 115 (by decide) (by decide) (by decide) (by decide), hc 116 (by decide) (by decide) (by decide) (by decide), hc 117 (by decide) (by decide) (by decide) (by decide), hc 118 (by decide) (by decide) (by decide) (by decide)⟩
  refine ⟨h1.sameF hs (by decide), ?_, ?_, ?_, ?_, ?_, h7.ls hls, h8.ls hls⟩
  · unfold ROw at h2 ⊢
    rw [hc (-3) (by decide) (by decide) (by decide) (by decide), hc (-4) (by decide) (by decide) (by decide) (by decide), hc (-5) (by decide) (by decide) (by decide) (by decide)]
    exact h2
  · obtain ⟨a1, a2, a3, a4⟩ := h3
    refine ⟨by rw [h013, h1000], fun g hg1 hg5 => ?_, by rw [hc 50 (by decide) (by decide) (by decide) (by decide), hf2 3 (by decide)]; exact a3, by rw [hc 50 (by decide) (by decide) (by decide) (by decide), hf2 4 (by decide)]; exact a4⟩
    rw [h52, h101, a2 f hf.1 hf.2, a2 g hg1 hg5]
  · unfold ITo at h4 ⊢
    rw [hf1 14 (by decide), hf2 2 (by decide)]
    exact h4
  · intro r hr0 hr6
    rw [hc (53 + 2 * r) (by omega) (by omega) (by omega) (by omega), hc (54 + 2 * r) (by omega) (by omega) (by omega) (by omega), hc 102 (by decide) (by decide) (by decide) (by decide), hc 103 (by decide) (by decide) (by decide) (by decide)]
    exact h5 r hr0 hr6
  · intro r hr0 hr6
    rw [hc (65 + 2 * r) (by omega) (by omega) (by omega) (by omega), hc (66 + 2 * r) (by omega) (by omega) (by omega) (by omega), hc 105 (by decide) (by decide) (by decide) (by decide), hc 106 (by decide) (by decide) (by decide) (by decide)]
    exact h6 r hr0 hr6
end
section
/-! the public calls, one by one: class, then reference, answers alike, the invariant stands again -/
set_option maxRecDepth 20000 in
set_option maxHeartbeats 4000000 in
theorem p_asked {w : Hp} {d : Nat} (hI : Inv w) : WP SH (d + 9) 116 0 [some (vR 0)] [] w (fun v w1 => ∃ a, v = some (vI a) ∧ w1 (-2) = w (-2) ∧ WP SH (d + 9) 144 0 [some (vR 100)] [] w1 (fun v2 w2 => v2 = some (vI a) ∧ w2 (-2) = w1 (-2) ∧ Inv w2)) := by
  obtain ⟨hT, hRO, hIF, hITo, hIR, hIT, hIL, hIK⟩ := id hI
  refine wp_aload_n (pc' := 1) rfl rfl rfl (by decide) ?_
  refine wp_getI (ci := 9) (k0 := 14) (pc' := 4) rfl rfl (by decide) (by first | assumption | rfl) ?_
  refine wp_ret rfl rfl rfl ?_
  refine ⟨_, rfl, ?_, ?_⟩
  · rfl
  refine wp_aload_n (pc' := 1) rfl rfl rfl (by decide) ?_
  refine wp_getI (ci := 10) (k0 := 2) (pc' := 4) rfl rfl (by decide) (by first | assumption | rfl) ?_
  refine wp_ret rfl rfl rfl ?_
  exact ⟨by rw [hITo], rfl, hI⟩
set_option maxRecDepth 20000 in
set_option maxHeartbeats 4000000 in
theorem p_finding {w : Hp} {d : Nat} (hI : Inv w) : WP SH (d + 9) 120 0 [some (vR 0)] [] w (fun v w1 => ∃ a, v = some (vI a) ∧ w1 (-2) = w (-2) ∧ WP SH (d + 9) 141 0 [some (vR 100)] [] w1 (fun v2 w2 => v2 = some (vI a) ∧ w2 (-2) = w1 (-2) ∧ Inv w2)) := by
  obtain ⟨hT, hRO, hIF, hITo, hIR, hIT, hIL, hIK⟩ := id hI
  refine wp_aload_n (pc' := 1) rfl rfl rfl (by decide) ?_
  refine wp_getI (ci := 9) (k0 := 13) (pc' := 4) rfl rfl (by decide) (by first | assumption | rfl) ?_
  refine wp_ret rfl rfl rfl ?_
  refine ⟨_, rfl, ?_, ?_⟩
  · rfl
  refine wp_aload_n (pc' := 1) rfl rfl rfl (by decide) ?_
  refine wp_getI (ci := 10) (k0 := 0) (pc' := 4) rfl rfl (by decide) (by first | assumption | rfl) ?_
  refine wp_ret rfl rfl rfl ?_
  exact ⟨by rw [hIF.1], rfl, hI⟩
set_option maxRecDepth 20000 in
set_option maxHeartbeats 4000000 in
theorem p_upper {w : Hp} {d : Nat} (hI : Inv w) : WP SH (d + 9) 117 0 [some (vR 0)] [] w (fun v w1 => ∃ a, v = some (vL a) ∧ w1 (-2) = w (-2) ∧ WP SH (d + 9) 146 0 [some (vR 100)] [] w1 (fun v2 w2 => v2 = some (vL a) ∧ w2 (-2) = w1 (-2) ∧ Inv w2)) := by
  obtain ⟨hT, hRO, hIF, hITo, hIR, hIT, hIL, hIK⟩ := id hI
  refine wp_aload_n (pc' := 1) rfl rfl rfl (by decide) ?_
  refine wp_getR (r' := 50) (ci := 9) (k0 := 11) (pc' := 4) rfl rfl (by decide) (by first | assumption | rfl) (hT.get 11 rfl) ?_
  refine wp_getL (ci := 1) (k0 := 0) (pc' := 7) rfl rfl (by decide) (by first | assumption | rfl) ?_
  refine wp_ret rfl rfl rfl ?_
  refine ⟨_, rfl, ?_, ?_⟩
  · rfl
  refine wp_aload_n (pc' := 1) rfl rfl rfl (by decide) ?_
  refine wp_getL (ci := 10) (k0 := 3) (pc' := 4) rfl rfl (by decide) (by first | assumption | rfl) ?_
  refine wp_ret rfl rfl rfl ?_
  exact ⟨by rw [hIF.2.2.1], rfl, hI⟩
set_option maxRecDepth 20000 in
set_option maxHeartbeats 4000000 in
theorem p_lower {w : Hp} {d : Nat} (hI : Inv w) : WP SH (d + 9) 118 0 [some (vR 0)] [] w (fun v w1 => ∃ a, v = some (vL a) ∧ w1 (-2) = w (-2) ∧ WP SH (d + 9) 147 0 [some (vR 100)] [] w1 (fun v2 w2 => v2 = some (vL a) ∧ w2 (-2) = w1 (-2) ∧ Inv w2)) := by
  obtain ⟨hT, hRO, hIF, hITo, hIR, hIT, hIL, hIK⟩ := id hI
  refine wp_aload_n (pc' := 1) rfl rfl rfl (by decide) ?_
  refine wp_getR (r' := 50) (ci := 9) (k0 := 11) (pc' := 4) rfl rfl (by decide) (by first | assumption | rfl) (hT.get 11 rfl) ?_
  refine wp_getL (ci := 1) (k0 := 1) (pc' := 7) rfl rfl (by decide) (by first | assumption | rfl) ?_
  refine wp_ret rfl rfl rfl ?_
  refine ⟨_, rfl, ?_, ?_⟩
  · rfl
  refine wp_aload_n (pc' := 1) rfl rfl rfl (by decide) ?_
  refine wp_getL (ci := 10) (k0 := 4) (pc' := 4) rfl rfl (by decide) (by first | assumption | rfl) ?_
  refine wp_ret rfl rfl rfl ?_
  exact ⟨by rw [hIF.2.2.2], rfl, hI⟩
set_option maxRecDepth 20000 in
set_option maxHeartbeats 4000000 in
theorem p_findings {w : Hp} {d : Nat} {f : Int} (hI : Inv w) : WP SH (d + 9) 121 0 [some (vR 0), some (vI f)] [] w (fun v w1 => ∃ a, v = some (vI a) ∧ w1 (-2) = w (-2) ∧ WP SH (d + 9) 142 0 [some (vR 100), some (vI f)] [] w1 (fun v2 w2 => v2 = some (vI a) ∧ w2 (-2) = w1 (-2) ∧ Inv w2)) := by
  obtain ⟨hT, hRO, hIF, hITo, hIR, hIT, hIL, hIK⟩ := id hI
  refine wp_iload_n (pc' := 1) rfl rfl rfl ?_
  refine wp_iconst (a := 1) (pc' := 2) rfl rfl rfl ?_
  refine wp_icmp_lt (pc' := 5) (pt := 10) rfl rfl rfl (fun q_1 => ?_) (fun q_1 => ?_)
  · skip
    refine wp_iconst (a := -1) (pc' := 11) rfl rfl rfl ?_
    refine wp_goto (pc' := 20) rfl rfl ?_
    refine wp_ret rfl rfl rfl ?_
    refine ⟨_, rfl, ?_, ?_⟩
    · rfl
    refine wp_iload_n (pc' := 1) rfl rfl rfl ?_
    refine wp_iconst (a := 1) (pc' := 2) rfl rfl rfl ?_
    refine wp_iconst (a := 5) (pc' := 3) rfl rfl rfl ?_
    refine wp_call (pc' := 6) rfl rfl rfl rfl rfl ⟨Nat.le_of_ble_eq_true rfl, Nat.le_of_ble_eq_true rfl, Nat.le_of_ble_eq_true rfl, Nat.le_of_ble_eq_true rfl, Nat.le_of_ble_eq_true rfl⟩ rfl (c_Mod_in) ?_
    rintro v1 w9 ⟨hw9, ⟨hv1, hb1⟩ | ⟨hv1, hb1⟩⟩
    · skip
      rw [hv1, hw9]
      clear hv1 hw9 v1 w9
      dsimp only [Option.toList, List.cons_append, List.nil_append, List.append_nil]
      refine wp_if_eq (pc' := 9) (pt := 18) rfl rfl rfl (fun q_52 => absurd q_52 (by decide)) (fun q_52 => ?_)
      refine wp_aload_n (pc' := 10) rfl rfl rfl (by decide) ?_
      refine wp_getR (r' := 101) (ci := 10) (k0 := 1) (pc' := 13) rfl rfl (by decide) (by first | assumption | rfl) (hT.get 99 rfl) ?_
      refine wp_iload_n (pc' := 14) rfl rfl rfl ?_
      refine wp_iaload (pc' := 15) rfl rfl (by first | assumption | rfl) (by omega) ?_
      refine wp_goto (pc' := 19) rfl rfl ?_
      refine wp_ret rfl rfl rfl ?_
      first | (exfalso; omega) | exact ⟨rfl, rfl, hI⟩ | exact ⟨by rw [hIF.2.1 f (by omega) (by omega)], rfl, hI⟩
    · skip
      rw [hv1, hw9]
      clear hv1 hw9 v1 w9
      dsimp only [Option.toList, List.cons_append, List.nil_append, List.append_nil]
      refine wp_if_eq (pc' := 9) (pt := 18) rfl rfl rfl (fun q_53 => ?_) (fun q_53 => absurd (by decide) q_53)
      refine wp_iconst (a := -1) (pc' := 19) rfl rfl rfl ?_
      refine wp_ret rfl rfl rfl ?_
      first | (exfalso; omega) | exact ⟨rfl, rfl, hI⟩ | exact ⟨by rw [hIF.2.1 f (by omega) (by omega)], rfl, hI⟩
  · skip
    refine wp_iload_n (pc' := 6) rfl rfl rfl ?_
    refine wp_iconst (a := 5) (pc' := 7) rfl rfl rfl ?_
    refine wp_icmp_le (pc' := 10) (pt := 14) rfl rfl rfl (fun q_54 => ?_) (fun q_54 => ?_)
    · skip
      refine wp_aload_n (pc' := 15) rfl rfl rfl (by decide) ?_
      refine wp_getR (r' := 52) (ci := 9) (k0 := 12) (pc' := 18) rfl rfl (by decide) (by first | assumption | rfl) (hT.get 12 rfl) ?_
      refine wp_iload_n (pc' := 19) rfl rfl rfl ?_
      refine wp_iaload (pc' := 20) rfl rfl (by first | assumption | rfl) (by omega) ?_
      refine wp_ret rfl rfl rfl ?_
      refine ⟨_, rfl, ?_, ?_⟩
      · rfl
      refine wp_iload_n (pc' := 1) rfl rfl rfl ?_
      refine wp_iconst (a := 1) (pc' := 2) rfl rfl rfl ?_
      refine wp_iconst (a := 5) (pc' := 3) rfl rfl rfl ?_
      refine wp_call (pc' := 6) rfl rfl rfl rfl rfl ⟨Nat.le_of_ble_eq_true rfl, Nat.le_of_ble_eq_true rfl, Nat.le_of_ble_eq_true rfl, Nat.le_of_ble_eq_true rfl, Nat.le_of_ble_eq_true rfl⟩ rfl (c_Mod_in) ?_
      rintro v1 w9 ⟨hw9, ⟨hv1, hb1⟩ | ⟨hv1, hb1⟩⟩
      · skip
        rw [hv1, hw9]
        clear hv1 hw9 v1 w9
        dsimp only [Option.toList, List.cons_append, List.nil_append, List.append_nil]
        refine wp_if_eq (pc' := 9) (pt := 18) rfl rfl rfl (fun q_105 => absurd q_105 (by decide)) (fun q_105 => ?_)
        refine wp_aload_n (pc' := 10) rfl rfl rfl (by decide) ?_
        refine wp_getR (r' := 101) (ci := 10) (k0 := 1) (pc' := 13) rfl rfl (by decide) (by first | assumption | rfl) (hT.get 99 rfl) ?_
        refine wp_iload_n (pc' := 14) rfl rfl rfl ?_
        refine wp_iaload (pc' := 15) rfl rfl (by first | assumption | rfl) (by omega) ?_
        refine wp_goto (pc' := 19) rfl rfl ?_
        refine wp_ret rfl rfl rfl ?_
        first | (exfalso; omega) | exact ⟨rfl, rfl, hI⟩ | exact ⟨by rw [hIF.2.1 f (by omega) (by omega)], rfl, hI⟩
      · skip
        rw [hv1, hw9]
        clear hv1 hw9 v1 w9
        dsimp only [Option.toList, List.cons_append, List.nil_append, List.append_nil]
        refine wp_if_eq (pc' := 9) (pt := 18) rfl rfl rfl (fun q_106 => ?_) (fun q_106 => absurd (by decide) q_106)
        refine wp_iconst (a := -1) (pc' := 19) rfl rfl rfl ?_
        refine wp_ret rfl rfl rfl ?_
        first | (exfalso; omega) | exact ⟨rfl, rfl, hI⟩ | exact ⟨by rw [hIF.2.1 f (by omega) (by omega)], rfl, hI⟩
    · skip
      refine wp_iconst (a := -1) (pc' := 11) rfl rfl rfl ?_
      refine wp_goto (pc' := 20) rfl rfl ?_
      refine wp_ret rfl rfl rfl ?_
      refine ⟨_, rfl, ?_, ?_⟩
      · rfl
      refine wp_iload_n (pc' := 1) rfl rfl rfl ?_
      refine wp_iconst (a := 1) (pc' := 2) rfl rfl rfl ?_
      refine wp_iconst (a := 5) (pc' := 3) rfl rfl rfl ?_
      refine wp_call (pc' := 6) rfl rfl rfl rfl rfl ⟨Nat.le_of_ble_eq_true rfl, Nat.le_of_ble_eq_true rfl, Nat.le_of_ble_eq_true rfl, Nat.le_of_ble_eq_true rfl, Nat.le_of_ble_eq_true rfl⟩ rfl (c_Mod_in) ?_
      rintro v1 w9 ⟨hw9, ⟨hv1, hb1⟩ | ⟨hv1, hb1⟩⟩
      · skip
        rw [hv1, hw9]
        clear hv1 hw9 v1 w9
        dsimp only [Option.toList, List.cons_append, List.nil_append, List.append_nil]
        refine wp_if_eq (pc' := 9) (pt := 18) rfl rfl rfl (fun q_157 => absurd q_157 (by decide)) (fun q_157 => ?_)
        refine wp_aload_n (pc' := 10) rfl rfl rfl (by decide) ?_
        refine wp_getR (r' := 101) (ci := 10) (k0 := 1) (pc' := 13) rfl rfl (by decide) (by first | assumption | rfl) (hT.get 99 rfl) ?_
        refine wp_iload_n (pc' := 14) rfl rfl rfl ?_
        refine wp_iaload (pc' := 15) rfl rfl (by first | assumption | rfl) (by omega) ?_
        refine wp_goto (pc' := 19) rfl rfl ?_
        refine wp_ret rfl rfl rfl ?_
        first | (exfalso; omega) | exact ⟨rfl, rfl, hI⟩ | exact ⟨by rw [hIF.2.1 f (by omega) (by omega)], rfl, hI⟩
      · skip
        rw [hv1, hw9]
        clear hv1 hw9 v1 w9
        dsimp only [Option.toList, List.cons_append, List.nil_append, List.append_nil]
        refine wp_if_eq (pc' := 9) (pt := 18) rfl rfl rfl (fun q_158 => ?_) (fun q_158 => absurd (by decide) q_158)
        refine wp_iconst (a := -1) (pc' := 19) rfl rfl rfl ?_
        refine wp_ret rfl rfl rfl ?_
        first | (exfalso; omega) | exact ⟨rfl, rfl, hI⟩ | exact ⟨by rw [hIF.2.1 f (by omega) (by omega)], rfl, hI⟩
theorem recv_strip {s : Int} {j : Nat} {as : List PV} (h : shAt SH s = some (0, 7)) (hk : mKind j = 1 ∧ mCls j = 7) : recvOk SH j (vR s :: as) = true := by
  unfold recvOk
  rw [hk.1, hk.2]
  exact decide_eq_true h
theorem Stc.row {w w' : Hp} {r : Int} (h : Stc w) (h0 : 0 ≤ r) (h6 : r < 6) (hs : SameF w w' [54 + 2 * r] [(53 + 2 * r, 1)]) : Stc w' := by
  have : r = 0 ∨ r = 1 ∨ r = 2 ∨ r = 3 ∨ r = 4 ∨ r = 5 := by omega
  rcases this with rfl | rfl | rfl | rfl | rfl | rfl <;> exact h.sameF hs (by decide)
/-- what the rows' calls change -/
theorem Inv.rows {w w' : Hp} (h : Inv w) {r : Int} (h0 : 0 ≤ r) (h6 : r < 6) (hs : SameF w w' [54 + 2 * r, 102, 103] [(53 + 2 * r, 1), (0, 14), (100, 2)]) (ht : w' 0 14 = w' 100 2) (hr : w' (53 + 2 * r) 1 = w' 102 r ∧ (-1 ≤ w' 102 r ∧ w' 102 r ≤ 40) ∧ ∀ j : Int, 0 ≤ j → j < w' 102 r → w' (54 + 2 * r) j = w' 103 (40 * r + j) ∧ I32 (w' 103 (40 * r + j))) (ho : ∀ q : Int, 0 ≤ q → q < 6 → q ≠ r → w' 102 q = w 102 q ∧ ∀ j : Int, 0 ≤ j → j < 40 → w' 103 (40 * q + j) = w 103 (40 * q + j)) : Inv w' := by
  obtain ⟨h1, h2, h3, h4, h5, h6', h7, h8⟩ := h
  have hc : ∀ q : Int, q ≠ 0 → q ≠ 53 + 2 * r → q ≠ 54 + 2 * r → q ≠ 100 → q ≠ 102 → q ≠ 103 → w' q = w q := fun q a b c e f g => hs.cell q (by simp; omega) (fun z hz => by simp at hz; rcases hz with rfl | rfl | rfl <;> (dsimp only; omega))
  have hf1 : ∀ k : Int, k ≠ 14 → w' 0 k = w 0 k := fun k hk => hs 0 k (by simp; omega) (by simp; omega)
  have hf2 : ∀ k : Int, k ≠ 2 → w' 100 k = w 100 k := fun k hk => hs 100 k (by simp; omega) (by simp; omega)
  have hf3 : ∀ k : Int, k ≠ 1 → w' (53 + 2 * r) k = w (53 + 2 * r) k := fun k hk => hs _ k (by simp; omega) (by simp; omega)
  have hls : LandSame w w' := ⟨fun q a b => hc q (by omega) (by omega) (by omega) (by omega) (by omega) (by omega), fun q a b => hc q (by omega) (by omega) (by omega) (by omega) (by omega) (by omega), ⟨hf2 10 (by decide), hf2 11 (by decide), hf2 12 (by decide)⟩, hf2 23 (by decide), hc 107 (by omega) (by omega) (by omega) (by omega) (by omega) (by omega), hc 108 (by omega) (by omega) (by omega) (by omega) (by omega) (by omega), hc 109 (by omega) (by omega) (by omega) (by omega) (by omega) (by omega), hc 114 (by omega) (by omega) (by omega) (by omega) (by omega) (by omega), hc 115 (by omega) (by omega) (by omega) (by omega) (by omega) (by omega), hc 116 (by omega) (by omega) (by omega) (by omega) (by omega) (by omega), hc 117 (by omega) (by omega) (by omega) (by omega) (by omega) (by omega), hc 118 (by omega) (by omega) (by omega) (by omega) (by omega) (by omega)⟩
  refine ⟨fun q hq => ?_, ?_, ?_, ht, ?_, ?_, h7.ls hls, h8.ls hls⟩
  · have hq1 := h1 q hq
    have hz : refTab.all (fun q => decide (((q.1 < 53 ∨ 72 < q.1) ∨ q.2.1 = 0) ∧ (q.1 ≠ 0 ∨ q.2.1 ≠ 14) ∧ (q.1 ≠ 100 ∨ q.2.1 ≠ 2) ∧ q.1 ≠ 102 ∧ q.1 ≠ 103 ∧ (q.1 < 53 ∨ 72 < q.1 ∨ q.1 % 2 = 1))) = true := by decide
    have h9 := of_decide_eq_true (List.all_eq_true.mp hz q hq)
    rw [hs q.1 q.2.1 (by simp; omega) (by simp [Prod.ext_iff]; omega)]
    exact hq1
  · unfold ROw at h2 ⊢
    rw [hc (-3) (by omega) (by omega) (by omega) (by omega) (by omega) (by omega), hc (-4) (by omega) (by omega) (by omega) (by omega) (by omega) (by omega), hc (-5) (by omega) (by omega) (by omega) (by omega) (by omega) (by omega)]
    exact h2
  · unfold IFd at h3 ⊢
    rw [hf1 13 (by decide), hf2 0 (by decide), hf2 3 (by decide), hf2 4 (by decide), hc 52 (by omega) (by omega) (by omega) (by omega) (by omega) (by omega), hc 101 (by omega) (by omega) (by omega) (by omega) (by omega) (by omega), hc 50 (by omega) (by omega) (by omega) (by omega) (by omega) (by omega)]
    exact h3
  · intro q hq0 hq6
    by_cases hq : q = r
    · subst hq
      exact hr
    · obtain ⟨a1, a2⟩ := ho q hq0 hq6 hq
      obtain ⟨b1, b2, b3⟩ := h5 q hq0 hq6
      rw [hc (53 + 2 * q) (by omega) (by omega) (by omega) (by omega) (by omega) (by omega), hc (54 + 2 * q) (by omega) (by omega) (by omega) (by omega) (by omega) (by omega), a1]
      exact ⟨b1, b2, fun j x y => by rw [a2 j x (by omega)]; exact b3 j x y⟩
  · intro t ht0 ht4
    rw [hc (65 + 2 * t) (by omega) (by omega) (by omega) (by omega) (by omega) (by omega), hc (66 + 2 * t) (by omega) (by omega) (by omega) (by omega) (by omega) (by omega), hc 105 (by omega) (by omega) (by omega) (by omega) (by omega) (by omega), hc 106 (by omega) (by omega) (by omega) (by omega) (by omega) (by omega)]
    exact h6' t ht0 ht4
end
section
/-! the calls on rows -/
set_option maxRecDepth 20000 in
set_option maxHeartbeats 4000000 in
theorem l_Mrow {w : Hp} {d : Nat} {r n : Int} (hT0 : Stc w) (hr : 0 ≤ r ∧ r < 6) : ∀ (k : Nat) (i : Int) (w2 : Hp), 0 ≤ i → i + k = 40 → Same w w2 [103] → (∀ j : Int, 0 ≤ j → j < i → w2 103 (40 * r + j) = 0) → (∀ z : Int, z < 40 * r ∨ 40 * r + 40 ≤ z → w2 103 z = w 103 z) → WP SH d 150 34 [some (vR 100), some (vI r), some (vI n), some (vI i)] [] w2 (fun v w' => v = some (vI n) ∧ Same w w' [103] ∧ (∀ j : Int, 0 ≤ j → j < 40 → w' 103 (40 * r + j) = 0) ∧ (∀ z : Int, z < 40 * r ∨ 40 * r + 40 ≤ z → w' 103 z = w 103 z)) := by
  intro k
  induction k with
  | zero =>
    intro i w2 hi0 hik hS hz ho
    have hT := hT0.same hS (by decide)
    refine wp_iload_n (pc' := 35) rfl rfl rfl ?_
    refine wp_bipush (a := 40) (pc' := 37) rfl rfl rfl ?_
    refine wp_icmp_ge (pc' := 40) (pt := 58) rfl rfl rfl (fun q_1 => ?_) (fun q_1 => ?_)
    · skip
      refine wp_iload_n (pc' := 59) rfl rfl rfl ?_
      refine wp_ret rfl rfl rfl ?_
      exact ⟨rfl, hS, fun j a b => hz j a (by omega), ho⟩
    · skip
      exfalso; omega
  | succ k ih =>
    intro i w2 hi0 hik hS hz ho
    have hT := hT0.same hS (by decide)
    refine wp_iload_n (pc' := 35) rfl rfl rfl ?_
    refine wp_bipush (a := 40) (pc' := 37) rfl rfl rfl ?_
    refine wp_icmp_ge (pc' := 40) (pt := 58) rfl rfl rfl (fun q_1 => ?_) (fun q_1 => ?_)
    · skip
      exfalso; omega
    · skip
      refine wp_aload_n (pc' := 41) rfl rfl rfl (by decide) ?_
      refine wp_getR (r' := 103) (ci := 10) (k0 := 6) (pc' := 44) rfl rfl (by decide) (by first | assumption | rfl) (hT.get 101 rfl) ?_
      refine wp_bipush (a := 40) (pc' := 46) rfl rfl rfl ?_
      refine wp_iload_n (pc' := 47) rfl rfl rfl ?_
      refine wp_imul (pc' := 48) rfl rfl (by first | exact w32_id (by omega) (by omega) | rfl) ?_
      refine wp_iload_n (pc' := 49) rfl rfl rfl ?_
      refine wp_iadd (pc' := 50) rfl rfl (by first | exact w32_id (by omega) (by omega) | rfl) ?_
      refine wp_iconst (a := 0) (pc' := 51) rfl rfl rfl ?_
      refine wp_iastore (pc' := 52) rfl rfl (by first | assumption | rfl) (by omega) ?_
      refine wp_iinc (pc' := 55) rfl rfl rfl (inc_id (by omega) (by omega)) rfl ?_
      dsimp only [lset, lset2, List.set, List.getElem?_cons_zero, List.getElem?_cons_succ]
      refine wp_goto (pc' := 34) rfl rfl ?_
      refine ih _ _ (by omega) (by omega) (hS.put (by decide)) (fun j a b => ?_) (fun z hzz => ?_)
      · by_cases hj : 40 * r + j = 40 * r + i
        · rw [hj, up_eq]
        · rw [up_at hj]; exact hz j a (by omega)
      · rw [up_at (by omega)]; exact ho z hzz
set_option maxRecDepth 20000 in
set_option maxHeartbeats 4000000 in
theorem p_row {w : Hp} {d : Nat} {r : Int} {n : Int} (hI : Inv w) : WP SH (d + 9) 80 0 [some (vR 0), some (vI r), some (vI n)] [] w (fun v w1 => ∃ a, v = some (vI a) ∧ w1 (-2) = w (-2) ∧ WP SH (d + 9) 150 0 [some (vR 100), some (vI r), some (vI n), none] [] w1 (fun v2 w2 => v2 = some (vI a) ∧ w2 (-2) = w1 (-2) ∧ Inv w2)) := by
  obtain ⟨hT, hRO, hIF, hITo, hIR, hIT, hIL, hIK⟩ := id hI
  refine wp_iload_n (pc' := 1) rfl rfl rfl ?_
  refine wp_call (pc' := 4) rfl rfl rfl rfl rfl ⟨Nat.le_of_ble_eq_true rfl, Nat.le_of_ble_eq_true rfl, Nat.le_of_ble_eq_true rfl, Nat.le_of_ble_eq_true rfl, Nat.le_of_ble_eq_true rfl⟩ rfl (c_VH_isRow) ?_
  rintro v1 w9 ⟨hw9, ⟨hv1, hb1⟩ | ⟨hv1, hb1⟩⟩
  · skip
    rw [hv1, hw9]
    clear hv1 hw9 v1 w9
    have hst := strip_row hT hb1.1 hb1.2
    have hs7 := hst.1.1
    have hs1 := hst.1.2.1
    dsimp only [Option.toList, List.cons_append, List.nil_append, List.append_nil]
    refine wp_if_eq (pc' := 7) (pt := 13) rfl rfl rfl (fun q_1 => absurd q_1 (by decide)) (fun q_1 => ?_)
    refine wp_iload_n (pc' := 8) rfl rfl rfl ?_
    refine wp_bipush (a := 40) (pc' := 10) rfl rfl rfl ?_
    refine wp_icmp_le (pc' := 13) (pt := 15) rfl rfl rfl (fun q_2 => ?_) (fun q_2 => ?_)
    · skip
      refine wp_iload_n (pc' := 16) rfl rfl rfl ?_
      refine wp_if_ge (pc' := 19) (pt := 25) rfl rfl rfl (fun q_3 => ?_) (fun q_3 => ?_)
      · skip
        refine wp_aload_n (pc' := 26) rfl rfl rfl (by decide) ?_
        refine wp_getR (r' := 1) (ci := 9) (k0 := 0) (pc' := 29) rfl rfl (by decide) (by first | assumption | rfl) (hT.get 0 rfl) ?_
        refine wp_iload_n (pc' := 30) rfl rfl rfl ?_
        refine wp_aaload (r' := (53 + 2 * r)) (pc' := 31) rfl rfl (by first | assumption | rfl) rfl (by omega) (hst.2) ?_
        refine wp_iload_n (pc' := 32) rfl rfl rfl ?_
        refine wp_iconst (a := 0) (pc' := 33) rfl rfl rfl ?_
        refine wp_call (pc' := 36) rfl rfl rfl rfl rfl ⟨Nat.le_of_ble_eq_true rfl, Nat.le_of_ble_eq_true rfl, Nat.le_of_ble_eq_true rfl, Nat.le_of_ble_eq_true rfl, Nat.le_of_ble_eq_true rfl⟩ (recv_strip hs7 (by decide)) (c_Strip_renew (w := w) hst.1 (by omega)) ?_
        rintro v1 w1 ⟨hv1, hS, hn1, hz1⟩
        rw [hv1]
        clear hv1 v1
        have hT := hT.row hb1.1 hb1.2 hS
        have e2 : w1 (-2) = w (-2) := hS.cell (-2) (by simp; omega) (by simp; omega)
        dsimp only [Option.toList, List.cons_append, List.nil_append, List.append_nil]
        refine wp_iload_n (pc' := 37) rfl rfl rfl ?_
        refine wp_ret rfl rfl rfl ?_
        refine ⟨_, rfl, ?_, ?_⟩
        · first | exact e2 | rfl
        refine wp_iload_n (pc' := 1) rfl rfl rfl ?_
        refine wp_call (pc' := 4) rfl rfl rfl rfl rfl ⟨Nat.le_of_ble_eq_true rfl, Nat.le_of_ble_eq_true rfl, Nat.le_of_ble_eq_true rfl, Nat.le_of_ble_eq_true rfl, Nat.le_of_ble_eq_true rfl⟩ rfl (c_Mod_isRow) ?_
        rintro v1 w9 ⟨hw9, ⟨hv1, hb1⟩ | ⟨hv1, hb1⟩⟩
        · skip
          rw [hv1, hw9]
          clear hv1 hw9 v1 w9
          dsimp only [Option.toList, List.cons_append, List.nil_append, List.append_nil]
          refine wp_if_eq (pc' := 7) (pt := 13) rfl rfl rfl (fun q_54 => absurd q_54 (by decide)) (fun q_54 => ?_)
          refine wp_iload_n (pc' := 8) rfl rfl rfl ?_
          refine wp_bipush (a := 40) (pc' := 10) rfl rfl rfl ?_
          refine wp_icmp_le (pc' := 13) (pt := 15) rfl rfl rfl (fun q_55 => ?_) (fun q_55 => ?_)
          · skip
            refine wp_iload_n (pc' := 16) rfl rfl rfl ?_
            refine wp_if_ge (pc' := 19) (pt := 25) rfl rfl rfl (fun q_56 => ?_) (fun q_56 => ?_)
            · skip
              refine wp_aload_n (pc' := 26) rfl rfl rfl (by decide) ?_
              refine wp_getR (r' := 102) (ci := 10) (k0 := 5) (pc' := 29) rfl rfl (by decide) (by first | assumption | rfl) (hT.get 100 rfl) ?_
              refine wp_iload_n (pc' := 30) rfl rfl rfl ?_
              refine wp_iload_n (pc' := 31) rfl rfl rfl ?_
              refine wp_iastore (pc' := 32) rfl rfl (by first | assumption | rfl) (by omega) ?_
              refine wp_iconst (a := 0) (pc' := 33) rfl rfl rfl ?_
              refine wp_istore_n (pc' := 34) rfl rfl (Nat.le_of_ble_eq_true rfl) rfl ?_
              dsimp only [lset, lset2, List.set, List.getElem?_cons_zero, List.getElem?_cons_succ]
              first
              | (exfalso; omega)
              | (refine WP.mono (l_Mrow (w := up w1 102 r n) (hT.putA (by decide)) hb1 40 0 _ (by omega) (by omega) (Same.rf _ _) (fun j a b => by omega) (fun z hz => rfl)) (fun v2 w3 h3 => ?_)
                 obtain ⟨hv3, hS3, hz3, ho3⟩ := h3
                 have hSF : SameF w w3 [54 + 2 * r, 102, 103] [(53 + 2 * r, 1), (0, 14), (100, 2)] := ((hS.mono (by simp) (by simp)).put (Or.inl (by simp))).tr ((hS3.mono (by simp)).F _)
                 have e1 : ∀ q : Int, q ≠ 103 → q ≠ 102 → w3 q = w1 q := fun q a b => by rw [hS3 q (by simpa using a), up_ne b]
                 have e3 : w3 102 = (up w1 102 r n) 102 := hS3 102 (by decide)
                 have e4 : ∀ q k : Int, q ≠ 53 + 2 * r → q ≠ 54 + 2 * r → w1 q k = w q k := fun q k a b => hS q k (by simpa using b) (by simp; omega)
                 refine ⟨hv3, by rw [e1 _ (by decide) (by decide)], hI.rows hb1.1 hb1.2 hSF ?_ ⟨?_, ?_, ?_⟩ ?_⟩
                 · rw [e1 _ (by decide) (by decide), e1 _ (by decide) (by decide), e4 _ _ (by omega) (by omega), e4 _ _ (by omega) (by omega)]; exact hITo
                 · rw [e1 _ (by omega) (by omega), e3, up_eq]; exact hn1
                 · rw [e3, up_eq]; omega
                 · intro j a b
                   rw [e3, up_eq] at b
                   rw [e1 _ (by omega) (by omega), hz1 j a b, hz3 j a (by omega)]
                   exact ⟨rfl, by unfold I32; omega⟩
                 · intro q a b hq
                   refine ⟨by rw [e3, up_at hq, e4 _ _ (by omega) (by omega)], fun j x y => ?_⟩
                   rw [ho3 _ (by omega), up_ne (by decide), e4 _ _ (by omega) (by omega)])
            · skip
              refine wp_aload_n (pc' := 20) rfl rfl rfl (by decide) ?_
              refine wp_iconst (a := 5) (pc' := 21) rfl rfl rfl ?_
              refine wp_call (pc' := 24) rfl rfl rfl rfl rfl ⟨Nat.le_of_ble_eq_true rfl, Nat.le_of_ble_eq_true rfl, Nat.le_of_ble_eq_true rfl, Nat.le_of_ble_eq_true rfl, Nat.le_of_ble_eq_true rfl⟩ rfl (c_Mod_meets hT (by decide)) ?_
              rintro v1 w9 ⟨hv1, hw9⟩
              rw [hv1]
              clear hv1 v1
              dsimp only [Option.toList, List.cons_append, List.nil_append, List.append_nil]
              refine wp_ret rfl rfl rfl ?_
              first
              | (exfalso; omega)
              | exact ⟨rfl, rfl, hI⟩
              | exact ⟨rfl, by rw [hw9, up_ne (by decide), up_ne (by decide)], by
                  rw [hw9, hw1, up_ne (show (101 : Int) ≠ 52 by decide), up_ne (show (101 : Int) ≠ 0 by decide)]
                  exact hI.refused (f := 5) (by decide)⟩
          · skip
            refine wp_iconst (a := -1) (pc' := 14) rfl rfl rfl ?_
            refine wp_ret rfl rfl rfl ?_
            first
            | (exfalso; omega)
            | exact ⟨rfl, rfl, hI⟩
            | exact ⟨rfl, by rw [hw9, up_ne (by decide), up_ne (by decide)], by
                rw [hw9, hw1, up_ne (show (101 : Int) ≠ 52 by decide), up_ne (show (101 : Int) ≠ 0 by decide)]
                exact hI.refused (f := 5) (by decide)⟩
        · skip
          rw [hv1, hw9]
          clear hv1 hw9 v1 w9
          dsimp only [Option.toList, List.cons_append, List.nil_append, List.append_nil]
          refine wp_if_eq (pc' := 7) (pt := 13) rfl rfl rfl (fun q_57 => ?_) (fun q_57 => absurd (by decide) q_57)
          refine wp_iconst (a := -1) (pc' := 14) rfl rfl rfl ?_
          refine wp_ret rfl rfl rfl ?_
          first
          | (exfalso; omega)
          | exact ⟨rfl, rfl, hI⟩
          | exact ⟨rfl, by rw [hw9, up_ne (by decide), up_ne (by decide)], by
              rw [hw9, hw1, up_ne (show (101 : Int) ≠ 52 by decide), up_ne (show (101 : Int) ≠ 0 by decide)]
              exact hI.refused (f := 5) (by decide)⟩
      · skip
        refine wp_aload_n (pc' := 20) rfl rfl rfl (by decide) ?_
        refine wp_iconst (a := 5) (pc' := 21) rfl rfl rfl ?_
        refine wp_call (pc' := 24) rfl rfl rfl rfl rfl ⟨Nat.le_of_ble_eq_true rfl, Nat.le_of_ble_eq_true rfl, Nat.le_of_ble_eq_true rfl, Nat.le_of_ble_eq_true rfl, Nat.le_of_ble_eq_true rfl⟩ rfl (c_VH_refuse hT (by decide)) ?_
        rintro v1 w1 ⟨hv1, hw1⟩
        rw [hv1]
        clear hv1 v1
        have hT := (by rw [hw1]; exact (hT.putF (by decide)).putA (by decide) : Stc w1)
        have e2 : w1 (-2) = w (-2) := by rw [hw1, up_ne (by decide), up_ne (by decide)]
        have eo : ∀ q : Int, q ≠ 0 → q ≠ 52 → w1 q = w q := fun q a b => by rw [hw1, up_ne b, up_ne a]
        have eo102 := eo 102 (by decide) (by decide)
        dsimp only [Option.toList, List.cons_append, List.nil_append, List.append_nil]
        refine wp_ret rfl rfl rfl ?_
        refine ⟨_, rfl, ?_, ?_⟩
        · first | exact e2 | rfl
        refine wp_iload_n (pc' := 1) rfl rfl rfl ?_
        refine wp_call (pc' := 4) rfl rfl rfl rfl rfl ⟨Nat.le_of_ble_eq_true rfl, Nat.le_of_ble_eq_true rfl, Nat.le_of_ble_eq_true rfl, Nat.le_of_ble_eq_true rfl, Nat.le_of_ble_eq_true rfl⟩ rfl (c_Mod_isRow) ?_
        rintro v1 w9 ⟨hw9, ⟨hv1, hb1⟩ | ⟨hv1, hb1⟩⟩
        · skip
          rw [hv1, hw9]
          clear hv1 hw9 v1 w9
          dsimp only [Option.toList, List.cons_append, List.nil_append, List.append_nil]
          refine wp_if_eq (pc' := 7) (pt := 13) rfl rfl rfl (fun q_108 => absurd q_108 (by decide)) (fun q_108 => ?_)
          refine wp_iload_n (pc' := 8) rfl rfl rfl ?_
          refine wp_bipush (a := 40) (pc' := 10) rfl rfl rfl ?_
          refine wp_icmp_le (pc' := 13) (pt := 15) rfl rfl rfl (fun q_109 => ?_) (fun q_109 => ?_)
          · skip
            refine wp_iload_n (pc' := 16) rfl rfl rfl ?_
            refine wp_if_ge (pc' := 19) (pt := 25) rfl rfl rfl (fun q_110 => ?_) (fun q_110 => ?_)
            · skip
              refine wp_aload_n (pc' := 26) rfl rfl rfl (by decide) ?_
              refine wp_getR (r' := 102) (ci := 10) (k0 := 5) (pc' := 29) rfl rfl (by decide) (by first | assumption | rfl) (hT.get 100 rfl) ?_
              refine wp_iload_n (pc' := 30) rfl rfl rfl ?_
              refine wp_iload_n (pc' := 31) rfl rfl rfl ?_
              refine wp_iastore (pc' := 32) rfl rfl (by first | assumption | rfl) (by omega) ?_
              refine wp_iconst (a := 0) (pc' := 33) rfl rfl rfl ?_
              refine wp_istore_n (pc' := 34) rfl rfl (Nat.le_of_ble_eq_true rfl) rfl ?_
              dsimp only [lset, lset2, List.set, List.getElem?_cons_zero, List.getElem?_cons_succ]
              first
              | (exfalso; omega)
              | (refine WP.mono (l_Mrow (w := up w1 102 r n) (hT.putA (by decide)) hb1 40 0 _ (by omega) (by omega) (Same.rf _ _) (fun j a b => by omega) (fun z hz => rfl)) (fun v2 w3 h3 => ?_)
                 obtain ⟨hv3, hS3, hz3, ho3⟩ := h3
                 have hSF : SameF w w3 [54 + 2 * r, 102, 103] [(53 + 2 * r, 1), (0, 14), (100, 2)] := ((hS.mono (by simp) (by simp)).put (Or.inl (by simp))).tr ((hS3.mono (by simp)).F _)
                 have e1 : ∀ q : Int, q ≠ 103 → q ≠ 102 → w3 q = w1 q := fun q a b => by rw [hS3 q (by simpa using a), up_ne b]
                 have e3 : w3 102 = (up w1 102 r n) 102 := hS3 102 (by decide)
                 have e4 : ∀ q k : Int, q ≠ 53 + 2 * r → q ≠ 54 + 2 * r → w1 q k = w q k := fun q k a b => hS q k (by simpa using b) (by simp; omega)
                 refine ⟨hv3, by rw [e1 _ (by decide) (by decide)], hI.rows hb1.1 hb1.2 hSF ?_ ⟨?_, ?_, ?_⟩ ?_⟩
                 · rw [e1 _ (by decide) (by decide), e1 _ (by decide) (by decide), e4 _ _ (by omega) (by omega), e4 _ _ (by omega) (by omega)]; exact hITo
                 · rw [e1 _ (by omega) (by omega), e3, up_eq]; exact hn1
                 · rw [e3, up_eq]; omega
                 · intro j a b
                   rw [e3, up_eq] at b
                   rw [e1 _ (by omega) (by omega), hz1 j a b, hz3 j a (by omega)]
                   exact ⟨rfl, by unfold I32; omega⟩
                 · intro q a b hq
                   refine ⟨by rw [e3, up_at hq, e4 _ _ (by omega) (by omega)], fun j x y => ?_⟩
                   rw [ho3 _ (by omega), up_ne (by decide), e4 _ _ (by omega) (by omega)])
            · skip
              refine wp_aload_n (pc' := 20) rfl rfl rfl (by decide) ?_
              refine wp_iconst (a := 5) (pc' := 21) rfl rfl rfl ?_
              refine wp_call (pc' := 24) rfl rfl rfl rfl rfl ⟨Nat.le_of_ble_eq_true rfl, Nat.le_of_ble_eq_true rfl, Nat.le_of_ble_eq_true rfl, Nat.le_of_ble_eq_true rfl, Nat.le_of_ble_eq_true rfl⟩ rfl (c_Mod_meets hT (by decide)) ?_
              rintro v1 w9 ⟨hv1, hw9⟩
              rw [hv1]
              clear hv1 v1
              dsimp only [Option.toList, List.cons_append, List.nil_append, List.append_nil]
              refine wp_ret rfl rfl rfl ?_
              first
              | (exfalso; omega)
              | exact ⟨rfl, rfl, hI⟩
              | exact ⟨rfl, by rw [hw9, up_ne (by decide), up_ne (by decide)], by
                  rw [hw9, hw1, up_ne (show (101 : Int) ≠ 52 by decide), up_ne (show (101 : Int) ≠ 0 by decide)]
                  exact hI.refused (f := 5) (by decide)⟩
          · skip
            refine wp_iconst (a := -1) (pc' := 14) rfl rfl rfl ?_
            refine wp_ret rfl rfl rfl ?_
            first
            | (exfalso; omega)
            | exact ⟨rfl, rfl, hI⟩
            | exact ⟨rfl, by rw [hw9, up_ne (by decide), up_ne (by decide)], by
                rw [hw9, hw1, up_ne (show (101 : Int) ≠ 52 by decide), up_ne (show (101 : Int) ≠ 0 by decide)]
                exact hI.refused (f := 5) (by decide)⟩
        · skip
          rw [hv1, hw9]
          clear hv1 hw9 v1 w9
          dsimp only [Option.toList, List.cons_append, List.nil_append, List.append_nil]
          refine wp_if_eq (pc' := 7) (pt := 13) rfl rfl rfl (fun q_111 => ?_) (fun q_111 => absurd (by decide) q_111)
          refine wp_iconst (a := -1) (pc' := 14) rfl rfl rfl ?_
          refine wp_ret rfl rfl rfl ?_
          first
          | (exfalso; omega)
          | exact ⟨rfl, rfl, hI⟩
          | exact ⟨rfl, by rw [hw9, up_ne (by decide), up_ne (by decide)], by
              rw [hw9, hw1, up_ne (show (101 : Int) ≠ 52 by decide), up_ne (show (101 : Int) ≠ 0 by decide)]
              exact hI.refused (f := 5) (by decide)⟩
    · skip
      refine wp_iconst (a := -1) (pc' := 14) rfl rfl rfl ?_
      refine wp_ret rfl rfl rfl ?_
      refine ⟨_, rfl, ?_, ?_⟩
      · first | exact e2 | rfl
      refine wp_iload_n (pc' := 1) rfl rfl rfl ?_
      refine wp_call (pc' := 4) rfl rfl rfl rfl rfl ⟨Nat.le_of_ble_eq_true rfl, Nat.le_of_ble_eq_true rfl, Nat.le_of_ble_eq_true rfl, Nat.le_of_ble_eq_true rfl, Nat.le_of_ble_eq_true rfl⟩ rfl (c_Mod_isRow) ?_
      rintro v1 w9 ⟨hw9, ⟨hv1, hb1⟩ | ⟨hv1, hb1⟩⟩
      · skip
        rw [hv1, hw9]
        clear hv1 hw9 v1 w9
        dsimp only [Option.toList, List.cons_append, List.nil_append, List.append_nil]
        refine wp_if_eq (pc' := 7) (pt := 13) rfl rfl rfl (fun q_162 => absurd q_162 (by decide)) (fun q_162 => ?_)
        refine wp_iload_n (pc' := 8) rfl rfl rfl ?_
        refine wp_bipush (a := 40) (pc' := 10) rfl rfl rfl ?_
        refine wp_icmp_le (pc' := 13) (pt := 15) rfl rfl rfl (fun q_163 => ?_) (fun q_163 => ?_)
        · skip
          refine wp_iload_n (pc' := 16) rfl rfl rfl ?_
          refine wp_if_ge (pc' := 19) (pt := 25) rfl rfl rfl (fun q_164 => ?_) (fun q_164 => ?_)
          · skip
            refine wp_aload_n (pc' := 26) rfl rfl rfl (by decide) ?_
            refine wp_getR (r' := 102) (ci := 10) (k0 := 5) (pc' := 29) rfl rfl (by decide) (by first | assumption | rfl) (hT.get 100 rfl) ?_
            refine wp_iload_n (pc' := 30) rfl rfl rfl ?_
            refine wp_iload_n (pc' := 31) rfl rfl rfl ?_
            refine wp_iastore (pc' := 32) rfl rfl (by first | assumption | rfl) (by omega) ?_
            refine wp_iconst (a := 0) (pc' := 33) rfl rfl rfl ?_
            refine wp_istore_n (pc' := 34) rfl rfl (Nat.le_of_ble_eq_true rfl) rfl ?_
            dsimp only [lset, lset2, List.set, List.getElem?_cons_zero, List.getElem?_cons_succ]
            first
            | (exfalso; omega)
            | (refine WP.mono (l_Mrow (w := up w1 102 r n) (hT.putA (by decide)) hb1 40 0 _ (by omega) (by omega) (Same.rf _ _) (fun j a b => by omega) (fun z hz => rfl)) (fun v2 w3 h3 => ?_)
               obtain ⟨hv3, hS3, hz3, ho3⟩ := h3
               have hSF : SameF w w3 [54 + 2 * r, 102, 103] [(53 + 2 * r, 1), (0, 14), (100, 2)] := ((hS.mono (by simp) (by simp)).put (Or.inl (by simp))).tr ((hS3.mono (by simp)).F _)
               have e1 : ∀ q : Int, q ≠ 103 → q ≠ 102 → w3 q = w1 q := fun q a b => by rw [hS3 q (by simpa using a), up_ne b]
               have e3 : w3 102 = (up w1 102 r n) 102 := hS3 102 (by decide)
               have e4 : ∀ q k : Int, q ≠ 53 + 2 * r → q ≠ 54 + 2 * r → w1 q k = w q k := fun q k a b => hS q k (by simpa using b) (by simp; omega)
               refine ⟨hv3, by rw [e1 _ (by decide) (by decide)], hI.rows hb1.1 hb1.2 hSF ?_ ⟨?_, ?_, ?_⟩ ?_⟩
               · rw [e1 _ (by decide) (by decide), e1 _ (by decide) (by decide), e4 _ _ (by omega) (by omega), e4 _ _ (by omega) (by omega)]; exact hITo
               · rw [e1 _ (by omega) (by omega), e3, up_eq]; exact hn1
               · rw [e3, up_eq]; omega
               · intro j a b
                 rw [e3, up_eq] at b
                 rw [e1 _ (by omega) (by omega), hz1 j a b, hz3 j a (by omega)]
                 exact ⟨rfl, by unfold I32; omega⟩
               · intro q a b hq
                 refine ⟨by rw [e3, up_at hq, e4 _ _ (by omega) (by omega)], fun j x y => ?_⟩
                 rw [ho3 _ (by omega), up_ne (by decide), e4 _ _ (by omega) (by omega)])
          · skip
            refine wp_aload_n (pc' := 20) rfl rfl rfl (by decide) ?_
            refine wp_iconst (a := 5) (pc' := 21) rfl rfl rfl ?_
            refine wp_call (pc' := 24) rfl rfl rfl rfl rfl ⟨Nat.le_of_ble_eq_true rfl, Nat.le_of_ble_eq_true rfl, Nat.le_of_ble_eq_true rfl, Nat.le_of_ble_eq_true rfl, Nat.le_of_ble_eq_true rfl⟩ rfl (c_Mod_meets hT (by decide)) ?_
            rintro v1 w9 ⟨hv1, hw9⟩
            rw [hv1]
            clear hv1 v1
            dsimp only [Option.toList, List.cons_append, List.nil_append, List.append_nil]
            refine wp_ret rfl rfl rfl ?_
            first
            | (exfalso; omega)
            | exact ⟨rfl, rfl, hI⟩
            | exact ⟨rfl, by rw [hw9, up_ne (by decide), up_ne (by decide)], by
                rw [hw9, hw1, up_ne (show (101 : Int) ≠ 52 by decide), up_ne (show (101 : Int) ≠ 0 by decide)]
                exact hI.refused (f := 5) (by decide)⟩
        · skip
          refine wp_iconst (a := -1) (pc' := 14) rfl rfl rfl ?_
          refine wp_ret rfl rfl rfl ?_
          first
          | (exfalso; omega)
          | exact ⟨rfl, rfl, hI⟩
          | exact ⟨rfl, by rw [hw9, up_ne (by decide), up_ne (by decide)], by
              rw [hw9, hw1, up_ne (show (101 : Int) ≠ 52 by decide), up_ne (show (101 : Int) ≠ 0 by decide)]
              exact hI.refused (f := 5) (by decide)⟩
      · skip
        rw [hv1, hw9]
        clear hv1 hw9 v1 w9
        dsimp only [Option.toList, List.cons_append, List.nil_append, List.append_nil]
        refine wp_if_eq (pc' := 7) (pt := 13) rfl rfl rfl (fun q_165 => ?_) (fun q_165 => absurd (by decide) q_165)
        refine wp_iconst (a := -1) (pc' := 14) rfl rfl rfl ?_
        refine wp_ret rfl rfl rfl ?_
        first
        | (exfalso; omega)
        | exact ⟨rfl, rfl, hI⟩
        | exact ⟨rfl, by rw [hw9, up_ne (by decide), up_ne (by decide)], by
            rw [hw9, hw1, up_ne (show (101 : Int) ≠ 52 by decide), up_ne (show (101 : Int) ≠ 0 by decide)]
            exact hI.refused (f := 5) (by decide)⟩
  · skip
    rw [hv1, hw9]
    clear hv1 hw9 v1 w9
    dsimp only [Option.toList, List.cons_append, List.nil_append, List.append_nil]
    refine wp_if_eq (pc' := 7) (pt := 13) rfl rfl rfl (fun q_166 => ?_) (fun q_166 => absurd (by decide) q_166)
    refine wp_iconst (a := -1) (pc' := 14) rfl rfl rfl ?_
    refine wp_ret rfl rfl rfl ?_
    refine ⟨_, rfl, ?_, ?_⟩
    · first | exact e2 | rfl
    refine wp_iload_n (pc' := 1) rfl rfl rfl ?_
    refine wp_call (pc' := 4) rfl rfl rfl rfl rfl ⟨Nat.le_of_ble_eq_true rfl, Nat.le_of_ble_eq_true rfl, Nat.le_of_ble_eq_true rfl, Nat.le_of_ble_eq_true rfl, Nat.le_of_ble_eq_true rfl⟩ rfl (c_Mod_isRow) ?_
    rintro v1 w9 ⟨hw9, ⟨hv1, hb1⟩ | ⟨hv1, hb1⟩⟩
    · skip
      rw [hv1, hw9]
      clear hv1 hw9 v1 w9
      dsimp only [Option.toList, List.cons_append, List.nil_append, List.append_nil]
      refine wp_if_eq (pc' := 7) (pt := 13) rfl rfl rfl (fun q_217 => absurd q_217 (by decide)) (fun q_217 => ?_)
      refine wp_iload_n (pc' := 8) rfl rfl rfl ?_
      refine wp_bipush (a := 40) (pc' := 10) rfl rfl rfl ?_
      refine wp_icmp_le (pc' := 13) (pt := 15) rfl rfl rfl (fun q_218 => ?_) (fun q_218 => ?_)
      · skip
        refine wp_iload_n (pc' := 16) rfl rfl rfl ?_
        refine wp_if_ge (pc' := 19) (pt := 25) rfl rfl rfl (fun q_219 => ?_) (fun q_219 => ?_)
        · skip
          refine wp_aload_n (pc' := 26) rfl rfl rfl (by decide) ?_
          refine wp_getR (r' := 102) (ci := 10) (k0 := 5) (pc' := 29) rfl rfl (by decide) (by first | assumption | rfl) (hT.get 100 rfl) ?_
          refine wp_iload_n (pc' := 30) rfl rfl rfl ?_
          refine wp_iload_n (pc' := 31) rfl rfl rfl ?_
          refine wp_iastore (pc' := 32) rfl rfl (by first | assumption | rfl) (by omega) ?_
          refine wp_iconst (a := 0) (pc' := 33) rfl rfl rfl ?_
          refine wp_istore_n (pc' := 34) rfl rfl (Nat.le_of_ble_eq_true rfl) rfl ?_
          dsimp only [lset, lset2, List.set, List.getElem?_cons_zero, List.getElem?_cons_succ]
          first
          | (exfalso; omega)
          | (refine WP.mono (l_Mrow (w := up w1 102 r n) (hT.putA (by decide)) hb1 40 0 _ (by omega) (by omega) (Same.rf _ _) (fun j a b => by omega) (fun z hz => rfl)) (fun v2 w3 h3 => ?_)
             obtain ⟨hv3, hS3, hz3, ho3⟩ := h3
             have hSF : SameF w w3 [54 + 2 * r, 102, 103] [(53 + 2 * r, 1), (0, 14), (100, 2)] := ((hS.mono (by simp) (by simp)).put (Or.inl (by simp))).tr ((hS3.mono (by simp)).F _)
             have e1 : ∀ q : Int, q ≠ 103 → q ≠ 102 → w3 q = w1 q := fun q a b => by rw [hS3 q (by simpa using a), up_ne b]
             have e3 : w3 102 = (up w1 102 r n) 102 := hS3 102 (by decide)
             have e4 : ∀ q k : Int, q ≠ 53 + 2 * r → q ≠ 54 + 2 * r → w1 q k = w q k := fun q k a b => hS q k (by simpa using b) (by simp; omega)
             refine ⟨hv3, by rw [e1 _ (by decide) (by decide)], hI.rows hb1.1 hb1.2 hSF ?_ ⟨?_, ?_, ?_⟩ ?_⟩
             · rw [e1 _ (by decide) (by decide), e1 _ (by decide) (by decide), e4 _ _ (by omega) (by omega), e4 _ _ (by omega) (by omega)]; exact hITo
             · rw [e1 _ (by omega) (by omega), e3, up_eq]; exact hn1
             · rw [e3, up_eq]; omega
             · intro j a b
               rw [e3, up_eq] at b
               rw [e1 _ (by omega) (by omega), hz1 j a b, hz3 j a (by omega)]
               exact ⟨rfl, by unfold I32; omega⟩
             · intro q a b hq
               refine ⟨by rw [e3, up_at hq, e4 _ _ (by omega) (by omega)], fun j x y => ?_⟩
               rw [ho3 _ (by omega), up_ne (by decide), e4 _ _ (by omega) (by omega)])
        · skip
          refine wp_aload_n (pc' := 20) rfl rfl rfl (by decide) ?_
          refine wp_iconst (a := 5) (pc' := 21) rfl rfl rfl ?_
          refine wp_call (pc' := 24) rfl rfl rfl rfl rfl ⟨Nat.le_of_ble_eq_true rfl, Nat.le_of_ble_eq_true rfl, Nat.le_of_ble_eq_true rfl, Nat.le_of_ble_eq_true rfl, Nat.le_of_ble_eq_true rfl⟩ rfl (c_Mod_meets hT (by decide)) ?_
          rintro v1 w9 ⟨hv1, hw9⟩
          rw [hv1]
          clear hv1 v1
          dsimp only [Option.toList, List.cons_append, List.nil_append, List.append_nil]
          refine wp_ret rfl rfl rfl ?_
          first
          | (exfalso; omega)
          | exact ⟨rfl, rfl, hI⟩
          | exact ⟨rfl, by rw [hw9, up_ne (by decide), up_ne (by decide)], by
              rw [hw9, hw1, up_ne (show (101 : Int) ≠ 52 by decide), up_ne (show (101 : Int) ≠ 0 by decide)]
              exact hI.refused (f := 5) (by decide)⟩
      · skip
        refine wp_iconst (a := -1) (pc' := 14) rfl rfl rfl ?_
        refine wp_ret rfl rfl rfl ?_
        first
        | (exfalso; omega)
        | exact ⟨rfl, rfl, hI⟩
        | exact ⟨rfl, by rw [hw9, up_ne (by decide), up_ne (by decide)], by
            rw [hw9, hw1, up_ne (show (101 : Int) ≠ 52 by decide), up_ne (show (101 : Int) ≠ 0 by decide)]
            exact hI.refused (f := 5) (by decide)⟩
    · skip
      rw [hv1, hw9]
      clear hv1 hw9 v1 w9
      dsimp only [Option.toList, List.cons_append, List.nil_append, List.append_nil]
      refine wp_if_eq (pc' := 7) (pt := 13) rfl rfl rfl (fun q_220 => ?_) (fun q_220 => absurd (by decide) q_220)
      refine wp_iconst (a := -1) (pc' := 14) rfl rfl rfl ?_
      refine wp_ret rfl rfl rfl ?_
      first
      | (exfalso; omega)
      | exact ⟨rfl, rfl, hI⟩
      | exact ⟨rfl, by rw [hw9, up_ne (by decide), up_ne (by decide)], by
          rw [hw9, hw1, up_ne (show (101 : Int) ≠ 52 by decide), up_ne (show (101 : Int) ≠ 0 by decide)]
          exact hI.refused (f := 5) (by decide)⟩
end
