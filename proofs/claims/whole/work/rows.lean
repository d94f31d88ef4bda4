section
-- ===== PART A: goes FIRST, ahead of the names: the tables' words, and 'selects' of the private methods out of them =====
/-- a private method of a class that the tables say can be made, by its rows of tables_1 -/
def lw_okq (q : MethodName × Nat) : Prop := (q.1.cls ≠ "java/lang/invoke/MethodHandle" ∧ q.1.cls ≠ "java/lang/invoke/VarHandle") ∧ Cond.instantiable q.1.cls q.2 ∈ tables_1 ∧ Cond.privateMethod q.1 ∈ tables_1 ∧ Cond.instanceMethod q.1 ∈ tables_1
theorem lw_p0 : lw_okq (⟨"VoteWalls", "refusalOfCells", "(IIII)I"⟩, 12) := ⟨⟨by decide +kernel, by decide +kernel⟩, List.mem_of_getElem? (i := 14) (by decide +kernel), List.mem_of_getElem? (i := 227) (by decide +kernel), List.mem_of_getElem? (i := 228) (by decide +kernel)⟩
theorem lw_p1 : lw_okq (⟨"VoteWalls", "failed", "(I)I"⟩, 12) := ⟨⟨by decide +kernel, by decide +kernel⟩, List.mem_of_getElem? (i := 14) (by decide +kernel), List.mem_of_getElem? (i := 245) (by decide +kernel), List.mem_of_getElem? (i := 246) (by decide +kernel)⟩
theorem lw_p2 : lw_okq (⟨"VoteWalls$TextReader", "takeInches", "(LVoteWalls$Yard;)Z"⟩, 4) := ⟨⟨by decide +kernel, by decide +kernel⟩, List.mem_of_getElem? (i := 24) (by decide +kernel), List.mem_of_getElem? (i := 253) (by decide +kernel), List.mem_of_getElem? (i := 254) (by decide +kernel)⟩
theorem lw_p3 : lw_okq (⟨"VoteWalls$TextReader", "takeCode", "(I)Z"⟩, 4) := ⟨⟨by decide +kernel, by decide +kernel⟩, List.mem_of_getElem? (i := 24) (by decide +kernel), List.mem_of_getElem? (i := 257) (by decide +kernel), List.mem_of_getElem? (i := 258) (by decide +kernel)⟩
theorem lw_p4 : lw_okq (⟨"VoteWalls$TextReader", "code", "()I"⟩, 4) := ⟨⟨by decide +kernel, by decide +kernel⟩, List.mem_of_getElem? (i := 24) (by decide +kernel), List.mem_of_getElem? (i := 261) (by decide +kernel), List.mem_of_getElem? (i := 262) (by decide +kernel)⟩
theorem lw_p5 : lw_okq (⟨"VoteWalls$TextReader", "takeNumber", "(II)I"⟩, 4) := ⟨⟨by decide +kernel, by decide +kernel⟩, List.mem_of_getElem? (i := 24) (by decide +kernel), List.mem_of_getElem? (i := 269) (by decide +kernel), List.mem_of_getElem? (i := 270) (by decide +kernel)⟩
theorem lw_p6 : lw_okq (⟨"VoteWalls$TextReader", "takeDigit", "(IIII)I"⟩, 4) := ⟨⟨by decide +kernel, by decide +kernel⟩, List.mem_of_getElem? (i := 24) (by decide +kernel), List.mem_of_getElem? (i := 273) (by decide +kernel), List.mem_of_getElem? (i := 274) (by decide +kernel)⟩
theorem lw_p7 : lw_okq (⟨"VoteWalls$TextReader", "takeBoards", "(LVoteWalls$Yard;)Z"⟩, 4) := ⟨⟨by decide +kernel, by decide +kernel⟩, List.mem_of_getElem? (i := 24) (by decide +kernel), List.mem_of_getElem? (i := 281) (by decide +kernel), List.mem_of_getElem? (i := 282) (by decide +kernel)⟩
theorem lw_p8 : lw_okq (⟨"VoteWalls$TextReader", "takePrisoners", "(LVoteWalls$Yard;)Z"⟩, 4) := ⟨⟨by decide +kernel, by decide +kernel⟩, List.mem_of_getElem? (i := 24) (by decide +kernel), List.mem_of_getElem? (i := 285) (by decide +kernel), List.mem_of_getElem? (i := 286) (by decide +kernel)⟩
theorem lw_p9 : lw_okq (⟨"VoteWalls$TextReader", "takeKind", "()I"⟩, 4) := ⟨⟨by decide +kernel, by decide +kernel⟩, List.mem_of_getElem? (i := 24) (by decide +kernel), List.mem_of_getElem? (i := 289) (by decide +kernel), List.mem_of_getElem? (i := 290) (by decide +kernel)⟩
theorem lw_p10 : lw_okq (⟨"VoteWalls", "forgetRules", "()V"⟩, 12) := ⟨⟨by decide +kernel, by decide +kernel⟩, List.mem_of_getElem? (i := 14) (by decide +kernel), List.mem_of_getElem? (i := 293) (by decide +kernel), List.mem_of_getElem? (i := 294) (by decide +kernel)⟩
theorem lw_p11 : lw_okq (⟨"VoteWalls", "isPrisoner", "(I)Z"⟩, 12) := ⟨⟨by decide +kernel, by decide +kernel⟩, List.mem_of_getElem? (i := 14) (by decide +kernel), List.mem_of_getElem? (i := 313) (by decide +kernel), List.mem_of_getElem? (i := 314) (by decide +kernel)⟩
theorem lw_p12 : lw_okq (⟨"VoteWalls", "hasYard", "()Z"⟩, 12) := ⟨⟨by decide +kernel, by decide +kernel⟩, List.mem_of_getElem? (i := 14) (by decide +kernel), List.mem_of_getElem? (i := 324) (by decide +kernel), List.mem_of_getElem? (i := 325) (by decide +kernel)⟩
theorem lw_p13 : lw_okq (⟨"VoteWalls", "isBoard", "(I)Z"⟩, 12) := ⟨⟨by decide +kernel, by decide +kernel⟩, List.mem_of_getElem? (i := 14) (by decide +kernel), List.mem_of_getElem? (i := 332) (by decide +kernel), List.mem_of_getElem? (i := 333) (by decide +kernel)⟩
theorem lw_p14 : lw_okq (⟨"VoteWalls", "reckonAsItIs", "(I)V"⟩, 12) := ⟨⟨by decide +kernel, by decide +kernel⟩, List.mem_of_getElem? (i := 14) (by decide +kernel), List.mem_of_getElem? (i := 369) (by decide +kernel), List.mem_of_getElem? (i := 370) (by decide +kernel)⟩
theorem lw_p15 : lw_okq (⟨"VoteWalls", "reckonWith", "(III)V"⟩, 12) := ⟨⟨by decide +kernel, by decide +kernel⟩, List.mem_of_getElem? (i := 14) (by decide +kernel), List.mem_of_getElem? (i := 373) (by decide +kernel), List.mem_of_getElem? (i := 374) (by decide +kernel)⟩
def lw_privs_1 : List (MethodName × Nat) := [(⟨"VoteWalls", "refusalOfCells", "(IIII)I"⟩, 12), (⟨"VoteWalls", "failed", "(I)I"⟩, 12), (⟨"VoteWalls$TextReader", "takeInches", "(LVoteWalls$Yard;)Z"⟩, 4), (⟨"VoteWalls$TextReader", "takeCode", "(I)Z"⟩, 4), (⟨"VoteWalls$TextReader", "code", "()I"⟩, 4), (⟨"VoteWalls$TextReader", "takeNumber", "(II)I"⟩, 4), (⟨"VoteWalls$TextReader", "takeDigit", "(IIII)I"⟩, 4), (⟨"VoteWalls$TextReader", "takeBoards", "(LVoteWalls$Yard;)Z"⟩, 4), (⟨"VoteWalls$TextReader", "takePrisoners", "(LVoteWalls$Yard;)Z"⟩, 4), (⟨"VoteWalls$TextReader", "takeKind", "()I"⟩, 4), (⟨"VoteWalls", "forgetRules", "()V"⟩, 12), (⟨"VoteWalls", "isPrisoner", "(I)Z"⟩, 12), (⟨"VoteWalls", "hasYard", "()Z"⟩, 12), (⟨"VoteWalls", "isBoard", "(I)Z"⟩, 12), (⟨"VoteWalls", "reckonAsItIs", "(I)V"⟩, 12), (⟨"VoteWalls", "reckonWith", "(III)V"⟩, 12)]
theorem lw_r1 : ∀ q ∈ lw_privs_1, lw_okq q := List.forall_mem_cons.mpr ⟨lw_p0, List.forall_mem_cons.mpr ⟨lw_p1, List.forall_mem_cons.mpr ⟨lw_p2, List.forall_mem_cons.mpr ⟨lw_p3, List.forall_mem_cons.mpr ⟨lw_p4, List.forall_mem_cons.mpr ⟨lw_p5, List.forall_mem_cons.mpr ⟨lw_p6, List.forall_mem_cons.mpr ⟨lw_p7, List.forall_mem_cons.mpr ⟨lw_p8, List.forall_mem_cons.mpr ⟨lw_p9, List.forall_mem_cons.mpr ⟨lw_p10, List.forall_mem_cons.mpr ⟨lw_p11, List.forall_mem_cons.mpr ⟨lw_p12, List.forall_mem_cons.mpr ⟨lw_p13, List.forall_mem_cons.mpr ⟨lw_p14, List.forall_mem_cons.mpr ⟨lw_p15, fun _ h => absurd h List.not_mem_nil⟩⟩⟩⟩⟩⟩⟩⟩⟩⟩⟩⟩⟩⟩⟩⟩
theorem lw_p16 : lw_okq (⟨"VoteWalls$Weeks", "begin", "(LVoteWalls$Yard;)V"⟩, 7) := ⟨⟨by decide +kernel, by decide +kernel⟩, List.mem_of_getElem? (i := 97) (by decide +kernel), List.mem_of_getElem? (i := 381) (by decide +kernel), List.mem_of_getElem? (i := 382) (by decide +kernel)⟩
theorem lw_p17 : lw_okq (⟨"VoteWalls$Weeks", "countVotes", "(LVoteWalls$Yard;I)V"⟩, 7) := ⟨⟨by decide +kernel, by decide +kernel⟩, List.mem_of_getElem? (i := 97) (by decide +kernel), List.mem_of_getElem? (i := 388) (by decide +kernel), List.mem_of_getElem? (i := 389) (by decide +kernel)⟩
theorem lw_p18 : lw_okq (⟨"VoteWalls$Weeks", "pushAll", "(II)Z"⟩, 7) := ⟨⟨by decide +kernel, by decide +kernel⟩, List.mem_of_getElem? (i := 97) (by decide +kernel), List.mem_of_getElem? (i := 397) (by decide +kernel), List.mem_of_getElem? (i := 398) (by decide +kernel)⟩
theorem lw_p19 : lw_okq (⟨"VoteWalls$Weeks", "pushOne", "(I)Z"⟩, 7) := ⟨⟨by decide +kernel, by decide +kernel⟩, List.mem_of_getElem? (i := 97) (by decide +kernel), List.mem_of_getElem? (i := 401) (by decide +kernel), List.mem_of_getElem? (i := 402) (by decide +kernel)⟩
theorem lw_p20 : lw_okq (⟨"VoteWalls$Weeks", "votesFromTo", "(II)I"⟩, 7) := ⟨⟨by decide +kernel, by decide +kernel⟩, List.mem_of_getElem? (i := 97) (by decide +kernel), List.mem_of_getElem? (i := 405) (by decide +kernel), List.mem_of_getElem? (i := 406) (by decide +kernel)⟩
theorem lw_p21 : lw_okq (⟨"VoteWalls", "whereIs", "(II)I"⟩, 12) := ⟨⟨by decide +kernel, by decide +kernel⟩, List.mem_of_getElem? (i := 14) (by decide +kernel), List.mem_of_getElem? (i := 421) (by decide +kernel), List.mem_of_getElem? (i := 422) (by decide +kernel)⟩
theorem lw_p22 : lw_okq (⟨"VoteWalls", "isCell", "(I)Z"⟩, 12) := ⟨⟨by decide +kernel, by decide +kernel⟩, List.mem_of_getElem? (i := 14) (by decide +kernel), List.mem_of_getElem? (i := 434) (by decide +kernel), List.mem_of_getElem? (i := 435) (by decide +kernel)⟩
theorem lw_p23 : lw_okq (⟨"VoteWalls", "thoseInCells", "(II)I"⟩, 12) := ⟨⟨by decide +kernel, by decide +kernel⟩, List.mem_of_getElem? (i := 14) (by decide +kernel), List.mem_of_getElem? (i := 446) (by decide +kernel), List.mem_of_getElem? (i := 447) (by decide +kernel)⟩
theorem lw_p24 : lw_okq (⟨"VoteWalls", "firstTogether", "(II)I"⟩, 12) := ⟨⟨by decide +kernel, by decide +kernel⟩, List.mem_of_getElem? (i := 14) (by decide +kernel), List.mem_of_getElem? (i := 455) (by decide +kernel), List.mem_of_getElem? (i := 456) (by decide +kernel)⟩
theorem lw_p25 : lw_okq (⟨"VoteWalls", "widestBehind", "(I)I"⟩, 12) := ⟨⟨by decide +kernel, by decide +kernel⟩, List.mem_of_getElem? (i := 14) (by decide +kernel), List.mem_of_getElem? (i := 488) (by decide +kernel), List.mem_of_getElem? (i := 489) (by decide +kernel)⟩
theorem lw_p26 : lw_okq (⟨"VoteWalls", "cellsNear", "(II)I"⟩, 12) := ⟨⟨by decide +kernel, by decide +kernel⟩, List.mem_of_getElem? (i := 14) (by decide +kernel), List.mem_of_getElem? (i := 497) (by decide +kernel), List.mem_of_getElem? (i := 498) (by decide +kernel)⟩
theorem lw_p27 : lw_okq (⟨"VoteWalls", "stepsOfWalk", "(LVoteWalls$Sheet;II)I"⟩, 12) := ⟨⟨by decide +kernel, by decide +kernel⟩, List.mem_of_getElem? (i := 14) (by decide +kernel), List.mem_of_getElem? (i := 506) (by decide +kernel), List.mem_of_getElem? (i := 507) (by decide +kernel)⟩
theorem lw_p28 : lw_okq (⟨"VoteWalls", "readingsAreSo", "()Z"⟩, 12) := ⟨⟨by decide +kernel, by decide +kernel⟩, List.mem_of_getElem? (i := 14) (by decide +kernel), List.mem_of_getElem? (i := 525) (by decide +kernel), List.mem_of_getElem? (i := 526) (by decide +kernel)⟩
theorem lw_p29 : lw_okq (⟨"VoteWalls$Sheet", "cut", "(I)I"⟩, 3) := ⟨⟨by decide +kernel, by decide +kernel⟩, List.mem_of_getElem? (i := 168) (by decide +kernel), List.mem_of_getElem? (i := 564) (by decide +kernel), List.mem_of_getElem? (i := 565) (by decide +kernel)⟩
theorem lw_p30 : lw_okq (⟨"VoteWalls", "bullyTells", "(I)I"⟩, 12) := ⟨⟨by decide +kernel, by decide +kernel⟩, List.mem_of_getElem? (i := 14) (by decide +kernel), List.mem_of_getElem? (i := 581) (by decide +kernel), List.mem_of_getElem? (i := 582) (by decide +kernel)⟩
theorem lw_p31 : lw_okq (⟨"VoteWalls", "leave", "(I)V"⟩, 12) := ⟨⟨by decide +kernel, by decide +kernel⟩, List.mem_of_getElem? (i := 14) (by decide +kernel), List.mem_of_getElem? (i := 585) (by decide +kernel), List.mem_of_getElem? (i := 586) (by decide +kernel)⟩
def lw_privs_2 : List (MethodName × Nat) := [(⟨"VoteWalls$Weeks", "begin", "(LVoteWalls$Yard;)V"⟩, 7), (⟨"VoteWalls$Weeks", "countVotes", "(LVoteWalls$Yard;I)V"⟩, 7), (⟨"VoteWalls$Weeks", "pushAll", "(II)Z"⟩, 7), (⟨"VoteWalls$Weeks", "pushOne", "(I)Z"⟩, 7), (⟨"VoteWalls$Weeks", "votesFromTo", "(II)I"⟩, 7), (⟨"VoteWalls", "whereIs", "(II)I"⟩, 12), (⟨"VoteWalls", "isCell", "(I)Z"⟩, 12), (⟨"VoteWalls", "thoseInCells", "(II)I"⟩, 12), (⟨"VoteWalls", "firstTogether", "(II)I"⟩, 12), (⟨"VoteWalls", "widestBehind", "(I)I"⟩, 12), (⟨"VoteWalls", "cellsNear", "(II)I"⟩, 12), (⟨"VoteWalls", "stepsOfWalk", "(LVoteWalls$Sheet;II)I"⟩, 12), (⟨"VoteWalls", "readingsAreSo", "()Z"⟩, 12), (⟨"VoteWalls$Sheet", "cut", "(I)I"⟩, 3), (⟨"VoteWalls", "bullyTells", "(I)I"⟩, 12), (⟨"VoteWalls", "leave", "(I)V"⟩, 12)]
theorem lw_r2 : ∀ q ∈ lw_privs_2, lw_okq q := List.forall_mem_cons.mpr ⟨lw_p16, List.forall_mem_cons.mpr ⟨lw_p17, List.forall_mem_cons.mpr ⟨lw_p18, List.forall_mem_cons.mpr ⟨lw_p19, List.forall_mem_cons.mpr ⟨lw_p20, List.forall_mem_cons.mpr ⟨lw_p21, List.forall_mem_cons.mpr ⟨lw_p22, List.forall_mem_cons.mpr ⟨lw_p23, List.forall_mem_cons.mpr ⟨lw_p24, List.forall_mem_cons.mpr ⟨lw_p25, List.forall_mem_cons.mpr ⟨lw_p26, List.forall_mem_cons.mpr ⟨lw_p27, List.forall_mem_cons.mpr ⟨lw_p28, List.forall_mem_cons.mpr ⟨lw_p29, List.forall_mem_cons.mpr ⟨lw_p30, List.forall_mem_cons.mpr ⟨lw_p31, fun _ h => absurd h List.not_mem_nil⟩⟩⟩⟩⟩⟩⟩⟩⟩⟩⟩⟩⟩⟩⟩⟩
theorem lw_p32 : lw_okq (⟨"VoteWalls", "tallTells", "(I)I"⟩, 12) := ⟨⟨by decide +kernel, by decide +kernel⟩, List.mem_of_getElem? (i := 14) (by decide +kernel), List.mem_of_getElem? (i := 589) (by decide +kernel), List.mem_of_getElem? (i := 590) (by decide +kernel)⟩
theorem lw_p33 : lw_okq (⟨"VoteWalls", "prisonerTells", "(I)I"⟩, 12) := ⟨⟨by decide +kernel, by decide +kernel⟩, List.mem_of_getElem? (i := 14) (by decide +kernel), List.mem_of_getElem? (i := 593) (by decide +kernel), List.mem_of_getElem? (i := 594) (by decide +kernel)⟩
theorem lw_p34 : lw_okq (⟨"VoteWallsModel", "against", "(IIII)I"⟩, 35) := ⟨⟨by decide +kernel, by decide +kernel⟩, List.mem_of_getElem? (i := 617) (by decide +kernel), List.mem_of_getElem? (i := 742) (by decide +kernel), List.mem_of_getElem? (i := 743) (by decide +kernel)⟩
theorem lw_p35 : lw_okq (⟨"VoteWallsModel", "fails", "(I)I"⟩, 35) := ⟨⟨by decide +kernel, by decide +kernel⟩, List.mem_of_getElem? (i := 617) (by decide +kernel), List.mem_of_getElem? (i := 746) (by decide +kernel), List.mem_of_getElem? (i := 747) (by decide +kernel)⟩
theorem lw_p36 : lw_okq (⟨"VoteWallsModel", "readYard", "(I)Z"⟩, 35) := ⟨⟨by decide +kernel, by decide +kernel⟩, List.mem_of_getElem? (i := 617) (by decide +kernel), List.mem_of_getElem? (i := 750) (by decide +kernel), List.mem_of_getElem? (i := 751) (by decide +kernel)⟩
theorem lw_p37 : lw_okq (⟨"VoteWallsModel", "isSign", "(II)Z"⟩, 35) := ⟨⟨by decide +kernel, by decide +kernel⟩, List.mem_of_getElem? (i := 617) (by decide +kernel), List.mem_of_getElem? (i := 754) (by decide +kernel), List.mem_of_getElem? (i := 755) (by decide +kernel)⟩
theorem lw_p38 : lw_okq (⟨"VoteWallsModel", "number", "(III)I"⟩, 35) := ⟨⟨by decide +kernel, by decide +kernel⟩, List.mem_of_getElem? (i := 617) (by decide +kernel), List.mem_of_getElem? (i := 758) (by decide +kernel), List.mem_of_getElem? (i := 759) (by decide +kernel)⟩
theorem lw_p39 : lw_okq (⟨"VoteWallsModel", "digit", "(III)I"⟩, 35) := ⟨⟨by decide +kernel, by decide +kernel⟩, List.mem_of_getElem? (i := 617) (by decide +kernel), List.mem_of_getElem? (i := 762) (by decide +kernel), List.mem_of_getElem? (i := 763) (by decide +kernel)⟩
theorem lw_p40 : lw_okq (⟨"VoteWallsModel", "readBoard", "(I)Z"⟩, 35) := ⟨⟨by decide +kernel, by decide +kernel⟩, List.mem_of_getElem? (i := 617) (by decide +kernel), List.mem_of_getElem? (i := 766) (by decide +kernel), List.mem_of_getElem? (i := 767) (by decide +kernel)⟩
theorem lw_p41 : lw_okq (⟨"VoteWallsModel", "readPrisoner", "(I)Z"⟩, 35) := ⟨⟨by decide +kernel, by decide +kernel⟩, List.mem_of_getElem? (i := 617) (by decide +kernel), List.mem_of_getElem? (i := 770) (by decide +kernel), List.mem_of_getElem? (i := 771) (by decide +kernel)⟩
theorem lw_p42 : lw_okq (⟨"VoteWallsModel", "isPrisoner", "(I)Z"⟩, 35) := ⟨⟨by decide +kernel, by decide +kernel⟩, List.mem_of_getElem? (i := 617) (by decide +kernel), List.mem_of_getElem? (i := 778) (by decide +kernel), List.mem_of_getElem? (i := 779) (by decide +kernel)⟩
theorem lw_p43 : lw_okq (⟨"VoteWallsModel", "votes", "(I)I"⟩, 35) := ⟨⟨by decide +kernel, by decide +kernel⟩, List.mem_of_getElem? (i := 617) (by decide +kernel), List.mem_of_getElem? (i := 782) (by decide +kernel), List.mem_of_getElem? (i := 783) (by decide +kernel)⟩
theorem lw_p44 : lw_okq (⟨"VoteWallsModel", "isYard", "()Z"⟩, 35) := ⟨⟨by decide +kernel, by decide +kernel⟩, List.mem_of_getElem? (i := 617) (by decide +kernel), List.mem_of_getElem? (i := 790) (by decide +kernel), List.mem_of_getElem? (i := 791) (by decide +kernel)⟩
theorem lw_p45 : lw_okq (⟨"VoteWallsModel", "isBoard", "(I)Z"⟩, 35) := ⟨⟨by decide +kernel, by decide +kernel⟩, List.mem_of_getElem? (i := 617) (by decide +kernel), List.mem_of_getElem? (i := 798) (by decide +kernel), List.mem_of_getElem? (i := 799) (by decide +kernel)⟩
theorem lw_p46 : lw_okq (⟨"VoteWallsModel", "goTo", "(I)V"⟩, 35) := ⟨⟨by decide +kernel, by decide +kernel⟩, List.mem_of_getElem? (i := 617) (by decide +kernel), List.mem_of_getElem? (i := 827) (by decide +kernel), List.mem_of_getElem? (i := 828) (by decide +kernel)⟩
theorem lw_p47 : lw_okq (⟨"VoteWallsModel", "begin", "()V"⟩, 35) := ⟨⟨by decide +kernel, by decide +kernel⟩, List.mem_of_getElem? (i := 617) (by decide +kernel), List.mem_of_getElem? (i := 831) (by decide +kernel), List.mem_of_getElem? (i := 832) (by decide +kernel)⟩
def lw_privs_3 : List (MethodName × Nat) := [(⟨"VoteWalls", "tallTells", "(I)I"⟩, 12), (⟨"VoteWalls", "prisonerTells", "(I)I"⟩, 12), (⟨"VoteWallsModel", "against", "(IIII)I"⟩, 35), (⟨"VoteWallsModel", "fails", "(I)I"⟩, 35), (⟨"VoteWallsModel", "readYard", "(I)Z"⟩, 35), (⟨"VoteWallsModel", "isSign", "(II)Z"⟩, 35), (⟨"VoteWallsModel", "number", "(III)I"⟩, 35), (⟨"VoteWallsModel", "digit", "(III)I"⟩, 35), (⟨"VoteWallsModel", "readBoard", "(I)Z"⟩, 35), (⟨"VoteWallsModel", "readPrisoner", "(I)Z"⟩, 35), (⟨"VoteWallsModel", "isPrisoner", "(I)Z"⟩, 35), (⟨"VoteWallsModel", "votes", "(I)I"⟩, 35), (⟨"VoteWallsModel", "isYard", "()Z"⟩, 35), (⟨"VoteWallsModel", "isBoard", "(I)Z"⟩, 35), (⟨"VoteWallsModel", "goTo", "(I)V"⟩, 35), (⟨"VoteWallsModel", "begin", "()V"⟩, 35)]
theorem lw_r3 : ∀ q ∈ lw_privs_3, lw_okq q := List.forall_mem_cons.mpr ⟨lw_p32, List.forall_mem_cons.mpr ⟨lw_p33, List.forall_mem_cons.mpr ⟨lw_p34, List.forall_mem_cons.mpr ⟨lw_p35, List.forall_mem_cons.mpr ⟨lw_p36, List.forall_mem_cons.mpr ⟨lw_p37, List.forall_mem_cons.mpr ⟨lw_p38, List.forall_mem_cons.mpr ⟨lw_p39, List.forall_mem_cons.mpr ⟨lw_p40, List.forall_mem_cons.mpr ⟨lw_p41, List.forall_mem_cons.mpr ⟨lw_p42, List.forall_mem_cons.mpr ⟨lw_p43, List.forall_mem_cons.mpr ⟨lw_p44, List.forall_mem_cons.mpr ⟨lw_p45, List.forall_mem_cons.mpr ⟨lw_p46, List.forall_mem_cons.mpr ⟨lw_p47, fun _ h => absurd h List.not_mem_nil⟩⟩⟩⟩⟩⟩⟩⟩⟩⟩⟩⟩⟩⟩⟩⟩
theorem lw_p48 : lw_okq (⟨"VoteWallsModel", "goSunday", "(I)V"⟩, 35) := ⟨⟨by decide +kernel, by decide +kernel⟩, List.mem_of_getElem? (i := 617) (by decide +kernel), List.mem_of_getElem? (i := 835) (by decide +kernel), List.mem_of_getElem? (i := 836) (by decide +kernel)⟩
theorem lw_p49 : lw_okq (⟨"VoteWallsModel", "lockedOn", "(I)I"⟩, 35) := ⟨⟨by decide +kernel, by decide +kernel⟩, List.mem_of_getElem? (i := 617) (by decide +kernel), List.mem_of_getElem? (i := 839) (by decide +kernel), List.mem_of_getElem? (i := 840) (by decide +kernel)⟩
theorem lw_p50 : lw_okq (⟨"VoteWallsModel", "strikingOn", "(I)I"⟩, 35) := ⟨⟨by decide +kernel, by decide +kernel⟩, List.mem_of_getElem? (i := 617) (by decide +kernel), List.mem_of_getElem? (i := 843) (by decide +kernel), List.mem_of_getElem? (i := 844) (by decide +kernel)⟩
theorem lw_p51 : lw_okq (⟨"VoteWallsModel", "push", "(II)V"⟩, 35) := ⟨⟨by decide +kernel, by decide +kernel⟩, List.mem_of_getElem? (i := 617) (by decide +kernel), List.mem_of_getElem? (i := 847) (by decide +kernel), List.mem_of_getElem? (i := 848) (by decide +kernel)⟩
theorem lw_p52 : lw_okq (⟨"VoteWallsModel", "votesIn", "(II)I"⟩, 35) := ⟨⟨by decide +kernel, by decide +kernel⟩, List.mem_of_getElem? (i := 617) (by decide +kernel), List.mem_of_getElem? (i := 851) (by decide +kernel), List.mem_of_getElem? (i := 852) (by decide +kernel)⟩
theorem lw_p53 : lw_okq (⟨"VoteWallsModel", "cellNow", "(I)I"⟩, 35) := ⟨⟨by decide +kernel, by decide +kernel⟩, List.mem_of_getElem? (i := 617) (by decide +kernel), List.mem_of_getElem? (i := 855) (by decide +kernel), List.mem_of_getElem? (i := 856) (by decide +kernel)⟩
theorem lw_p54 : lw_okq (⟨"VoteWallsModel", "edge", "(I)I"⟩, 35) := ⟨⟨by decide +kernel, by decide +kernel⟩, List.mem_of_getElem? (i := 617) (by decide +kernel), List.mem_of_getElem? (i := 859) (by decide +kernel), List.mem_of_getElem? (i := 860) (by decide +kernel)⟩
theorem lw_p55 : lw_okq (⟨"VoteWallsModel", "isCell", "(I)Z"⟩, 35) := ⟨⟨by decide +kernel, by decide +kernel⟩, List.mem_of_getElem? (i := 617) (by decide +kernel), List.mem_of_getElem? (i := 871) (by decide +kernel), List.mem_of_getElem? (i := 872) (by decide +kernel)⟩
theorem lw_p56 : lw_okq (⟨"VoteWallsModel", "wideNow", "(I)I"⟩, 35) := ⟨⟨by decide +kernel, by decide +kernel⟩, List.mem_of_getElem? (i := 617) (by decide +kernel), List.mem_of_getElem? (i := 875) (by decide +kernel), List.mem_of_getElem? (i := 876) (by decide +kernel)⟩
theorem lw_p57 : lw_okq (⟨"VoteWallsModel", "meetIn", "(II)I"⟩, 35) := ⟨⟨by decide +kernel, by decide +kernel⟩, List.mem_of_getElem? (i := 617) (by decide +kernel), List.mem_of_getElem? (i := 887) (by decide +kernel), List.mem_of_getElem? (i := 888) (by decide +kernel)⟩
theorem lw_p58 : lw_okq (⟨"VoteWallsModel", "areTwo", "(II)Z"⟩, 35) := ⟨⟨by decide +kernel, by decide +kernel⟩, List.mem_of_getElem? (i := 617) (by decide +kernel), List.mem_of_getElem? (i := 899) (by decide +kernel), List.mem_of_getElem? (i := 900) (by decide +kernel)⟩
theorem lw_p59 : lw_okq (⟨"VoteWallsModel", "mostWide", "()I"⟩, 35) := ⟨⟨by decide +kernel, by decide +kernel⟩, List.mem_of_getElem? (i := 617) (by decide +kernel), List.mem_of_getElem? (i := 918) (by decide +kernel), List.mem_of_getElem? (i := 919) (by decide +kernel)⟩
theorem lw_p60 : lw_okq (⟨"VoteWallsModel", "spread", "(I)I"⟩, 35) := ⟨⟨by decide +kernel, by decide +kernel⟩, List.mem_of_getElem? (i := 617) (by decide +kernel), List.mem_of_getElem? (i := 926) (by decide +kernel), List.mem_of_getElem? (i := 927) (by decide +kernel)⟩
theorem lw_p61 : lw_okq (⟨"VoteWallsModel", "walked", "(II)I"⟩, 35) := ⟨⟨by decide +kernel, by decide +kernel⟩, List.mem_of_getElem? (i := 617) (by decide +kernel), List.mem_of_getElem? (i := 934) (by decide +kernel), List.mem_of_getElem? (i := 935) (by decide +kernel)⟩
theorem lw_p62 : lw_okq (⟨"VoteWallsModel", "areSo", "()Z"⟩, 35) := ⟨⟨by decide +kernel, by decide +kernel⟩, List.mem_of_getElem? (i := 617) (by decide +kernel), List.mem_of_getElem? (i := 950) (by decide +kernel), List.mem_of_getElem? (i := 951) (by decide +kernel)⟩
theorem lw_p63 : lw_okq (⟨"VoteWallsModel", "lost", "(I)J"⟩, 35) := ⟨⟨by decide +kernel, by decide +kernel⟩, List.mem_of_getElem? (i := 617) (by decide +kernel), List.mem_of_getElem? (i := 986) (by decide +kernel), List.mem_of_getElem? (i := 987) (by decide +kernel)⟩
def lw_privs_4 : List (MethodName × Nat) := [(⟨"VoteWallsModel", "goSunday", "(I)V"⟩, 35), (⟨"VoteWallsModel", "lockedOn", "(I)I"⟩, 35), (⟨"VoteWallsModel", "strikingOn", "(I)I"⟩, 35), (⟨"VoteWallsModel", "push", "(II)V"⟩, 35), (⟨"VoteWallsModel", "votesIn", "(II)I"⟩, 35), (⟨"VoteWallsModel", "cellNow", "(I)I"⟩, 35), (⟨"VoteWallsModel", "edge", "(I)I"⟩, 35), (⟨"VoteWallsModel", "isCell", "(I)Z"⟩, 35), (⟨"VoteWallsModel", "wideNow", "(I)I"⟩, 35), (⟨"VoteWallsModel", "meetIn", "(II)I"⟩, 35), (⟨"VoteWallsModel", "areTwo", "(II)Z"⟩, 35), (⟨"VoteWallsModel", "mostWide", "()I"⟩, 35), (⟨"VoteWallsModel", "spread", "(I)I"⟩, 35), (⟨"VoteWallsModel", "walked", "(II)I"⟩, 35), (⟨"VoteWallsModel", "areSo", "()Z"⟩, 35), (⟨"VoteWallsModel", "lost", "(I)J"⟩, 35)]
theorem lw_r4 : ∀ q ∈ lw_privs_4, lw_okq q := List.forall_mem_cons.mpr ⟨lw_p48, List.forall_mem_cons.mpr ⟨lw_p49, List.forall_mem_cons.mpr ⟨lw_p50, List.forall_mem_cons.mpr ⟨lw_p51, List.forall_mem_cons.mpr ⟨lw_p52, List.forall_mem_cons.mpr ⟨lw_p53, List.forall_mem_cons.mpr ⟨lw_p54, List.forall_mem_cons.mpr ⟨lw_p55, List.forall_mem_cons.mpr ⟨lw_p56, List.forall_mem_cons.mpr ⟨lw_p57, List.forall_mem_cons.mpr ⟨lw_p58, List.forall_mem_cons.mpr ⟨lw_p59, List.forall_mem_cons.mpr ⟨lw_p60, List.forall_mem_cons.mpr ⟨lw_p61, List.forall_mem_cons.mpr ⟨lw_p62, List.forall_mem_cons.mpr ⟨lw_p63, fun _ h => absurd h List.not_mem_nil⟩⟩⟩⟩⟩⟩⟩⟩⟩⟩⟩⟩⟩⟩⟩⟩
theorem lw_p64 : lw_okq (⟨"VoteWallsModel", "begins", "(I)V"⟩, 35) := ⟨⟨by decide +kernel, by decide +kernel⟩, List.mem_of_getElem? (i := 617) (by decide +kernel), List.mem_of_getElem? (i := 998) (by decide +kernel), List.mem_of_getElem? (i := 999) (by decide +kernel)⟩
def lw_privs_5 : List (MethodName × Nat) := [(⟨"VoteWallsModel", "begins", "(I)V"⟩, 35)]
theorem lw_r5 : ∀ q ∈ lw_privs_5, lw_okq q := List.forall_mem_cons.mpr ⟨lw_p64, fun _ h => absurd h List.not_mem_nil⟩
def lw_privs : List (MethodName × Nat) := lw_privs_1 ++ (lw_privs_2 ++ (lw_privs_3 ++ (lw_privs_4 ++ (lw_privs_5))))
def lw_tbl : List Cond := k2_sels lw_privs ++ tables_1
theorem lw_privs_ok : ∀ q ∈ lw_privs, lw_okq q := by
  show ∀ q ∈ lw_privs_1 ++ (lw_privs_2 ++ (lw_privs_3 ++ (lw_privs_4 ++ (lw_privs_5)))), lw_okq q
  exact List.forall_mem_append.mpr ⟨lw_r1, List.forall_mem_append.mpr ⟨lw_r2, List.forall_mem_append.mpr ⟨lw_r3, List.forall_mem_append.mpr ⟨lw_r4, lw_r5⟩⟩⟩⟩
end
section
/-! names and tables, printed by wip/gen.py out of the claim's own texts -/
def RX0 : String := "VoteWalls$Calendar"
def TX0 : u_T := fun k => match k with
  | 0 => ("VoteWalls$Calendar", "locked", "[I", true)
  | 1 => ("VoteWalls$Calendar", "silent", "[I", true)
  | _ => ("VoteWalls$Calendar", "steadyFrom", "I", false)
def tyX0 : Nat → FieldType := fun k => match k with
  | 0 => .array .int
  | 1 => .array .int
  | _ => .int
theorem nmX0 : ∀ a, a < 3 → ∀ b, b < 3 → a ≠ b → (TX0 a).2.1 ≠ (TX0 b).2.1 := by decide +kernel
theorem tyX0_ok : ∀ k, k < 3 → parseFieldDescriptor (TX0 k).2.2.1 = some (tyX0 k) := by decide +kernel
def RX1 : String := "VoteWalls$Sheet"
def TX1 : u_T := fun k => match k with
  | 0 => ("VoteWalls$Sheet", "numbers", "[I", true)
  | 1 => ("VoteWalls$Sheet", "lane", "I", false)
  | _ => ("VoteWalls$Sheet", "length", "I", false)
def tyX1 : Nat → FieldType := fun k => match k with
  | 0 => .array .int
  | 1 => .int
  | _ => .int
theorem nmX1 : ∀ a, a < 3 → ∀ b, b < 3 → a ≠ b → (TX1 a).2.1 ≠ (TX1 b).2.1 := by decide +kernel
theorem tyX1_ok : ∀ k, k < 3 → parseFieldDescriptor (TX1 k).2.2.1 = some (tyX1 k) := by decide +kernel
def RX2 : String := "VoteWalls$TextReader"
def TX2 : u_T := fun k => match k with
  | 0 => ("VoteWalls$TextReader", "sheet", "LVoteWalls$Sheet;", false)
  | 1 => ("VoteWalls$TextReader", "start", "I", false)
  | 2 => ("VoteWalls$TextReader", "count", "I", false)
  | _ => ("VoteWalls$TextReader", "at", "I", false)
def tyX2 : Nat → FieldType := fun k => match k with
  | 0 => .object "VoteWalls$Sheet"
  | 1 => .int
  | 2 => .int
  | _ => .int
theorem nmX2 : ∀ a, a < 4 → ∀ b, b < 4 → a ≠ b → (TX2 a).2.1 ≠ (TX2 b).2.1 := by decide +kernel
theorem tyX2_ok : ∀ k, k < 4 → parseFieldDescriptor (TX2 k).2.2.1 = some (tyX2 k) := by decide +kernel
def RX3 : String := "VoteWalls$Triples"
def TX3 : u_T := fun k => match k with
  | 0 => ("VoteWalls$Triples", "first", "[I", true)
  | 1 => ("VoteWalls$Triples", "second", "[I", true)
  | 2 => ("VoteWalls$Triples", "third", "[I", true)
  | 3 => ("VoteWalls$Triples", "most", "I", true)
  | _ => ("VoteWalls$Triples", "count", "I", false)
def tyX3 : Nat → FieldType := fun k => match k with
  | 0 => .array .int
  | 1 => .array .int
  | 2 => .array .int
  | 3 => .int
  | _ => .int
theorem nmX3 : ∀ a, a < 5 → ∀ b, b < 5 → a ≠ b → (TX3 a).2.1 ≠ (TX3 b).2.1 := by decide +kernel
theorem tyX3_ok : ∀ k, k < 5 → parseFieldDescriptor (TX3 k).2.2.1 = some (tyX3 k) := by decide +kernel
def RX4 : String := "VoteWalls$Weeks"
def TX4 : u_T := fun k => match k with
  | 0 => ("VoteWalls$Weeks", "rows", "[I", true)
  | 1 => ("VoteWalls$Weeks", "gaps", "[I", true)
  | 2 => ("VoteWalls$Weeks", "votesBelow", "[I", true)
  | 3 => ("VoteWalls$Weeks", "boards", "I", false)
  | 4 => ("VoteWalls$Weeks", "inches", "I", false)
  | 5 => ("VoteWalls$Weeks", "lastReckoned", "I", false)
  | _ => ("VoteWalls$Weeks", "lastMove", "I", false)
def tyX4 : Nat → FieldType := fun k => match k with
  | 0 => .array .int
  | 1 => .array .int
  | 2 => .array .int
  | 3 => .int
  | 4 => .int
  | 5 => .int
  | _ => .int
theorem nmX4 : ∀ a, a < 7 → ∀ b, b < 7 → a ≠ b → (TX4 a).2.1 ≠ (TX4 b).2.1 := by decide +kernel
theorem tyX4_ok : ∀ k, k < 7 → parseFieldDescriptor (TX4 k).2.2.1 = some (tyX4 k) := by decide +kernel
def RX5 : String := "VoteWalls$Yard"
def TX5 : u_T := fun k => match k with
  | 0 => ("VoteWalls$Yard", "gaps", "[I", true)
  | 1 => ("VoteWalls$Yard", "kinds", "[I", true)
  | 2 => ("VoteWalls$Yard", "places", "[I", true)
  | 3 => ("VoteWalls$Yard", "inches", "I", false)
  | 4 => ("VoteWalls$Yard", "boards", "I", false)
  | _ => ("VoteWalls$Yard", "prisoners", "I", false)
def tyX5 : Nat → FieldType := fun k => match k with
  | 0 => .array .int
  | 1 => .array .int
  | 2 => .array .int
  | 3 => .int
  | 4 => .int
  | _ => .int
theorem nmX5 : ∀ a, a < 6 → ∀ b, b < 6 → a ≠ b → (TX5 a).2.1 ≠ (TX5 b).2.1 := by decide +kernel
theorem tyX5_ok : ∀ k, k < 6 → parseFieldDescriptor (TX5 k).2.2.1 = some (tyX5 k) := by decide +kernel
def RX6 : String := "VoteWalls"
def TX6 : u_T := fun k => match k with
  | 0 => ("VoteWalls", "sheets", "[LVoteWalls$Sheet;", true)
  | 1 => ("VoteWalls", "reader", "LVoteWalls$TextReader;", true)
  | 2 => ("VoteWalls", "locks", "LVoteWalls$Triples;", true)
  | 3 => ("VoteWalls", "strikes", "LVoteWalls$Triples;", true)
  | 4 => ("VoteWalls", "readings", "LVoteWalls$Triples;", true)
  | 5 => ("VoteWalls", "calendar", "LVoteWalls$Calendar;", true)
  | 6 => ("VoteWalls", "weeks", "LVoteWalls$Weeks;", true)
  | 7 => ("VoteWalls", "site", "LVoteWalls$Yard;", false)
  | 8 => ("VoteWalls", "spare", "LVoteWalls$Yard;", false)
  | 9 => ("VoteWalls", "lawNow", "I", false)
  | 10 => ("VoteWalls", "traceNow", "I", false)
  | _ => ("VoteWalls", "lastFault", "I", false)
def tyX6 : Nat → FieldType := fun k => match k with
  | 0 => .array (.object "VoteWalls$Sheet")
  | 1 => .object "VoteWalls$TextReader"
  | 2 => .object "VoteWalls$Triples"
  | 3 => .object "VoteWalls$Triples"
  | 4 => .object "VoteWalls$Triples"
  | 5 => .object "VoteWalls$Calendar"
  | 6 => .object "VoteWalls$Weeks"
  | 7 => .object "VoteWalls$Yard"
  | 8 => .object "VoteWalls$Yard"
  | 9 => .int
  | 10 => .int
  | _ => .int
theorem nmX6 : ∀ a, a < 12 → ∀ b, b < 12 → a ≠ b → (TX6 a).2.1 ≠ (TX6 b).2.1 := by decide +kernel
theorem tyX6_ok : ∀ k, k < 12 → parseFieldDescriptor (TX6 k).2.2.1 = some (tyX6 k) := by decide +kernel
def RX7 : String := "VoteWallsModel"
def TX7 : u_T := fun k => match k with
  | 0 => ("VoteWallsModel", "fault", "I", false)
  | 1 => ("VoteWallsModel", "trace", "I", false)
  | 2 => ("VoteWallsModel", "sorts", "[I", true)
  | 3 => ("VoteWallsModel", "sheetLong", "[I", true)
  | 4 => ("VoteWallsModel", "cells", "[I", true)
  | 5 => ("VoteWallsModel", "inches", "I", false)
  | 6 => ("VoteWallsModel", "boards", "I", false)
  | 7 => ("VoteWallsModel", "prisoners", "I", false)
  | 8 => ("VoteWallsModel", "gapAt", "[I", true)
  | 9 => ("VoteWallsModel", "kind", "[I", true)
  | 10 => ("VoteWallsModel", "place", "[I", true)
  | 11 => ("VoteWallsModel", "law", "I", false)
  | 12 => ("VoteWallsModel", "at", "I", false)
  | 13 => ("VoteWallsModel", "readInches", "I", false)
  | 14 => ("VoteWallsModel", "readBoards", "I", false)
  | 15 => ("VoteWallsModel", "readMany", "I", false)
  | 16 => ("VoteWallsModel", "readGap", "[I", true)
  | 17 => ("VoteWallsModel", "readKind", "[I", true)
  | 18 => ("VoteWallsModel", "readPlace", "[I", true)
  | 19 => ("VoteWallsModel", "locks", "I", false)
  | 20 => ("VoteWallsModel", "lockOn", "[I", true)
  | 21 => ("VoteWallsModel", "lockFrom", "[I", true)
  | 22 => ("VoteWallsModel", "lockTo", "[I", true)
  | 23 => ("VoteWallsModel", "strikes", "I", false)
  | 24 => ("VoteWallsModel", "strikeOf", "[I", true)
  | 25 => ("VoteWallsModel", "strikeFrom", "[I", true)
  | 26 => ("VoteWallsModel", "strikeTo", "[I", true)
  | 27 => ("VoteWallsModel", "lockedToo", "I", false)
  | 28 => ("VoteWallsModel", "strikingToo", "I", false)
  | 29 => ("VoteWallsModel", "gapOf", "[I", true)
  | 30 => ("VoteWallsModel", "hasMoved", "Z", false)
  | 31 => ("VoteWallsModel", "readings", "I", false)
  | 32 => ("VoteWallsModel", "readBoardOf", "[I", true)
  | 33 => ("VoteWallsModel", "readSunday", "[I", true)
  | _ => ("VoteWallsModel", "readGapOf", "[I", true)
def tyX7 : Nat → FieldType := fun k => match k with
  | 0 => .int
  | 1 => .int
  | 2 => .array .int
  | 3 => .array .int
  | 4 => .array .int
  | 5 => .int
  | 6 => .int
  | 7 => .int
  | 8 => .array .int
  | 9 => .array .int
  | 10 => .array .int
  | 11 => .int
  | 12 => .int
  | 13 => .int
  | 14 => .int
  | 15 => .int
  | 16 => .array .int
  | 17 => .array .int
  | 18 => .array .int
  | 19 => .int
  | 20 => .array .int
  | 21 => .array .int
  | 22 => .array .int
  | 23 => .int
  | 24 => .array .int
  | 25 => .array .int
  | 26 => .array .int
  | 27 => .int
  | 28 => .int
  | 29 => .array .int
  | 30 => .boolean
  | 31 => .int
  | 32 => .array .int
  | 33 => .array .int
  | _ => .array .int
theorem nmX7 : ∀ a, a < 35 → ∀ b, b < 35 → a ≠ b → (TX7 a).2.1 ≠ (TX7 b).2.1 := by decide +kernel
theorem tyX7_ok : ∀ k, k < 35 → parseFieldDescriptor (TX7 k).2.2.1 = some (tyX7 k) := by decide +kernel
def vx_cl : List vw_C := [(RX0, TX0, 3), (RX1, TX1, 3), (RX2, TX2, 4), (RX3, TX3, 5), (RX4, TX4, 7), (RX5, TX5, 6), (RX6, TX6, 12), (RX7, TX7, 35)]
def vx_cn : List String := ["VoteWalls$Calendar", "VoteWalls$Sheet", "VoteWalls$TextReader", "VoteWalls$Triples", "VoteWalls$Weeks", "VoteWalls$Yard", "VoteWalls", "VoteWallsModel", "VoteWallsLaw", "java/lang/Integer", "java/util/Arrays"]
def vx_ty : Nat → Nat → FieldType := fun ci => match ci with
  | 0 => tyX0
  | 1 => tyX1
  | 2 => tyX2
  | 3 => tyX3
  | 4 => tyX4
  | 5 => tyX5
  | 6 => tyX6
  | _ => tyX7
def vx_TB : List Cond := lw_tbl.filter goodWord
def vx_at (i : Nat) (w : Cond) : Bool := decide (lw_tbl[i]? = some w) && goodWord w
theorem vx_at_mem {i : Nat} {w : Cond} (h : vx_at i w = true) : w ∈ vx_TB := by
  simp only [vx_at, Bool.and_eq_true, decide_eq_true_eq] at h
  exact List.mem_filter.mpr ⟨List.mem_of_getElem? h.1, h.2⟩
theorem vx_zip {ws : List Cond} {ps : List Nat} (h : (ws.zip ps).all (fun q => vx_at q.2 q.1) = true) (hl : ws.length = ps.length) : ∀ w ∈ ws, w ∈ vx_TB := by
  intro w hw
  obtain ⟨i, hi⟩ := List.getElem?_of_mem hw
  have hlt := (List.getElem?_eq_some_iff.mp hi).1
  have hm : (w, ps[i]'(by omega)) ∈ ws.zip ps := by
    refine List.mem_of_getElem? (i := i) ?_
    rw [List.getElem?_zip_eq_some]
    exact ⟨hi, List.getElem?_eq_getElem (by omega)⟩
  exact vx_at_mem (List.all_eq_true.mp h _ hm)
theorem vx_u0 : ((u_ws RX0 TX0 3).zip [154, 156, 158]).all (fun q => vx_at q.2 q.1) = true := by decide +kernel
theorem vx_v0 : ∀ w ∈ u_ws RX0 TX0 3, w ∈ vx_TB := vx_zip vx_u0 (by decide +kernel)
theorem vx_u1 : ((u_ws RX1 TX1 3).zip [243, 245, 247]).all (fun q => vx_at q.2 q.1) = true := by decide +kernel
theorem vx_v1 : ∀ w ∈ u_ws RX1 TX1 3, w ∈ vx_TB := vx_zip vx_u1 (by decide +kernel)
theorem vx_u2 : ((u_ws RX2 TX2 4).zip [99, 101, 103, 105]).all (fun q => vx_at q.2 q.1) = true := by decide +kernel
theorem vx_v2 : ∀ w ∈ u_ws RX2 TX2 4, w ∈ vx_TB := vx_zip vx_u2 (by decide +kernel)
theorem vx_u3 : ((u_ws RX3 TX3 5).zip [130, 132, 134, 136, 138]).all (fun q => vx_at q.2 q.1) = true := by decide +kernel
theorem vx_v3 : ∀ w ∈ u_ws RX3 TX3 5, w ∈ vx_TB := vx_zip vx_u3 (by decide +kernel)
theorem vx_u4 : ((u_ws RX4 TX4 7).zip [176, 178, 180, 182, 184, 186, 188]).all (fun q => vx_at q.2 q.1) = true := by decide +kernel
theorem vx_v4 : ∀ w ∈ u_ws RX4 TX4 7, w ∈ vx_TB := vx_zip vx_u4 (by decide +kernel)
theorem vx_u5 : ((u_ws RX5 TX5 6).zip [220, 222, 224, 226, 228, 230]).all (fun q => vx_at q.2 q.1) = true := by decide +kernel
theorem vx_v5 : ∀ w ∈ u_ws RX5 TX5 6, w ∈ vx_TB := vx_zip vx_u5 (by decide +kernel)
theorem vx_u6 : ((u_ws RX6 TX6 12).zip [262, 264, 266, 268, 270, 272, 274, 276, 278, 280, 282, 284]).all (fun q => vx_at q.2 q.1) = true := by decide +kernel
theorem vx_v6 : ∀ w ∈ u_ws RX6 TX6 12, w ∈ vx_TB := vx_zip vx_u6 (by decide +kernel)
theorem vx_u7 : ((u_ws RX7 TX7 35).zip [722, 724, 726, 728, 730, 732, 734, 736, 738, 740, 742, 744, 746, 748, 750, 752, 754, 756, 758, 760, 762, 764, 766, 768, 770, 772, 774, 776, 778, 780, 782, 784, 786, 788, 790]).all (fun q => vx_at q.2 q.1) = true := by decide +kernel
theorem vx_v7 : ∀ w ∈ u_ws RX7 TX7 35, w ∈ vx_TB := vx_zip vx_u7 (by decide +kernel)
theorem vx_inst : (vx_cl.zip [(143, 70), (233, 73), (89, 67), (109, 68), (162, 71), (192, 72), (79, 66), (682, 74)]).all (fun q => vx_at q.2.1 (.instantiable q.1.1 q.1.2.2) && vx_at q.2.2 (.initialized q.1.1)) = true := by decide +kernel
/-- what is known of a class of the table -/
def vx_cf (ci : Nat) (q : vw_C) : Prop := (∀ w ∈ u_ws q.1 q.2.1 q.2.2, w ∈ vx_TB) ∧ (∀ k, k < q.2.2 → parseFieldDescriptor (q.2.1 k).2.2.1 = some (vx_ty ci k)) ∧ (∀ a, a < q.2.2 → ∀ b, b < q.2.2 → a ≠ b → (q.2.1 a).2.1 ≠ (q.2.1 b).2.1) ∧ Cond.instantiable q.1 q.2.2 ∈ vx_TB ∧ Cond.initialized q.1 ∈ vx_TB ∧ q.1 ∈ vx_cn
theorem vx_cf0 : vx_cf 0 (RX0, TX0, 3) := ⟨vx_v0, tyX0_ok, nmX0, vx_at_mem (i := 143) (by decide +kernel), vx_at_mem (i := 70) (by decide +kernel), by decide +kernel⟩
theorem vx_cf1 : vx_cf 1 (RX1, TX1, 3) := ⟨vx_v1, tyX1_ok, nmX1, vx_at_mem (i := 233) (by decide +kernel), vx_at_mem (i := 73) (by decide +kernel), by decide +kernel⟩
theorem vx_cf2 : vx_cf 2 (RX2, TX2, 4) := ⟨vx_v2, tyX2_ok, nmX2, vx_at_mem (i := 89) (by decide +kernel), vx_at_mem (i := 67) (by decide +kernel), by decide +kernel⟩
theorem vx_cf3 : vx_cf 3 (RX3, TX3, 5) := ⟨vx_v3, tyX3_ok, nmX3, vx_at_mem (i := 109) (by decide +kernel), vx_at_mem (i := 68) (by decide +kernel), by decide +kernel⟩
theorem vx_cf4 : vx_cf 4 (RX4, TX4, 7) := ⟨vx_v4, tyX4_ok, nmX4, vx_at_mem (i := 162) (by decide +kernel), vx_at_mem (i := 71) (by decide +kernel), by decide +kernel⟩
theorem vx_cf5 : vx_cf 5 (RX5, TX5, 6) := ⟨vx_v5, tyX5_ok, nmX5, vx_at_mem (i := 192) (by decide +kernel), vx_at_mem (i := 72) (by decide +kernel), by decide +kernel⟩
theorem vx_cf6 : vx_cf 6 (RX6, TX6, 12) := ⟨vx_v6, tyX6_ok, nmX6, vx_at_mem (i := 79) (by decide +kernel), vx_at_mem (i := 66) (by decide +kernel), by decide +kernel⟩
theorem vx_cf7 : vx_cf 7 (RX7, TX7, 35) := ⟨vx_v7, tyX7_ok, nmX7, vx_at_mem (i := 682) (by decide +kernel), vx_at_mem (i := 74) (by decide +kernel), by decide +kernel⟩
theorem vx_cfs {ci : Nat} {q : vw_C} (h : vx_cl[ci]? = some q) : vx_cf ci q := by
  match ci, h with
  | 0, h => cases h; exact vx_cf0
  | 1, h => cases h; exact vx_cf1
  | 2, h => cases h; exact vx_cf2
  | 3, h => cases h; exact vx_cf3
  | 4, h => cases h; exact vx_cf4
  | 5, h => cases h; exact vx_cf5
  | 6, h => cases h; exact vx_cf6
  | 7, h => cases h; exact vx_cf7
  | n + 8, h => simp [vx_cl] at h
/-- own class, entry, class of the object, field, place of the word -/
def vx_fl : List (Nat × Nat × Nat × Nat × Nat) := [(6, 13, 6, 0, 250), (6, 20, 6, 1, 251), (6, 29, 6, 2, 252), (6, 33, 6, 3, 253), (6, 36, 6, 4, 254), (6, 42, 6, 5, 255), (6, 49, 6, 6, 256), (6, 56, 6, 7, 257), (6, 60, 6, 8, 258), (6, 63, 6, 9, 259), (6, 67, 6, 10, 260), (6, 70, 6, 11, 261), (0, 9, 0, 0, 148), (0, 15, 0, 1, 150), (0, 18, 0, 2, 152), (1, 9, 1, 0, 238), (1, 15, 1, 1, 240), (1, 19, 1, 2, 242), (2, 9, 2, 1, 95), (2, 15, 2, 2, 96), (2, 18, 2, 3, 97), (2, 21, 2, 0, 94), (3, 9, 3, 0, 117), (3, 15, 3, 1, 120), (3, 18, 3, 2, 123), (3, 21, 3, 4, 127), (3, 31, 3, 3, 126), (4, 9, 4, 0, 167), (4, 15, 4, 1, 168), (4, 18, 4, 2, 169), (4, 21, 4, 3, 170), (4, 25, 4, 4, 171), (4, 28, 4, 5, 172), (4, 31, 4, 6, 174), (5, 9, 5, 0, 197), (5, 15, 5, 1, 200), (5, 18, 5, 2, 204), (5, 21, 5, 3, 208), (5, 25, 5, 4, 212), (5, 28, 5, 5, 216), (7, 9, 7, 2, 689), (7, 13, 7, 3, 690), (7, 16, 7, 4, 691), (7, 19, 7, 8, 695), (7, 22, 7, 9, 696), (7, 25, 7, 10, 697), (7, 28, 7, 16, 703), (7, 31, 7, 17, 704), (7, 34, 7, 18, 705), (7, 37, 7, 20, 707), (7, 40, 7, 21, 708), (7, 43, 7, 22, 709), (7, 46, 7, 24, 711), (7, 49, 7, 25, 712), (7, 52, 7, 26, 713), (7, 55, 7, 29, 716), (7, 58, 7, 32, 719), (7, 61, 7, 33, 720), (7, 64, 7, 34, 721), (7, 67, 7, 0, 687), (7, 77, 7, 6, 693), (7, 80, 7, 7, 694), (7, 83, 7, 12, 699), (7, 108, 7, 13, 700), (7, 111, 7, 5, 692), (7, 114, 7, 14, 701), (7, 117, 7, 15, 702), (7, 120, 7, 11, 698), (7, 123, 7, 19, 706), (7, 126, 7, 23, 710), (7, 129, 7, 31, 718), (7, 164, 7, 27, 714), (7, 167, 7, 28, 715), (7, 180, 7, 30, 717), (7, 243, 7, 1, 688)]
def vx_fn : List (Nat × Nat × Nat × Nat × Nat) := [(6, 82, 2, 3, 98), (6, 88, 5, 5, 217), (6, 95, 5, 1, 201), (6, 99, 5, 2, 205), (6, 153, 4, 6, 175), (6, 156, 5, 4, 215), (6, 166, 5, 3, 211), (6, 210, 1, 1, 241), (6, 222, 1, 0, 239), (6, 243, 3, 4, 129), (6, 254, 4, 5, 173), (6, 265, 3, 0, 119), (6, 268, 3, 1, 122), (6, 271, 3, 2, 125), (0, 32, 3, 4, 128), (0, 37, 3, 2, 124), (0, 46, 3, 1, 121), (0, 52, 3, 0, 118), (2, 43, 5, 3, 210), (2, 48, 5, 4, 214), (2, 55, 5, 0, 199), (2, 59, 5, 5, 219), (2, 62, 5, 1, 203), (2, 68, 5, 2, 207), (4, 38, 0, 1, 151), (4, 47, 0, 0, 149), (4, 60, 0, 2, 153), (4, 63, 5, 4, 213), (4, 66, 5, 3, 209), (4, 67, 5, 0, 198), (4, 74, 5, 5, 218), (4, 77, 5, 2, 206), (4, 83, 5, 1, 202)]
def vx_fw (q : Nat × Nat × Nat × Nat × Nat) : Bool := match vx_cn[q.1]?, vx_cl[q.2.2.1]? with
  | some o, some c => decide (q.2.2.2.1 < c.2.2) && vx_at q.2.2.2.2 (.fieldLink o q.2.1 (c.2.1 q.2.2.2.1).1 (c.2.1 q.2.2.2.1).2.1 (c.2.1 q.2.2.2.1).2.2.1)
  | _, _ => false
def vx_fw2 (q : Nat × Nat × Nat × Nat × Nat) : Bool := match vx_cn[q.1]?, vx_cl[q.2.2.1]? with
  | some o, some c => decide (q.2.2.2.1 < c.2.2) && decide (lw_tbl[q.2.2.2.2]? = some (.fieldLinkNest o q.2.1 (c.2.1 q.2.2.2.1).1 (c.2.1 q.2.2.2.1).2.1 (c.2.1 q.2.2.2.1).2.2.1 "VoteWalls"))
  | _, _ => false
set_option maxRecDepth 100000 in
theorem vx_fl_ok : vx_fl.all vx_fw = true := by decide +kernel
set_option maxRecDepth 100000 in
theorem vx_fn_ok : vx_fn.all vx_fw2 = true := by decide +kernel
abbrev vx_M : Type := MethodName × ByteArray × Nat × Option FieldType × Nat × Nat × Nat × Nat × Nat
/-- the methods: name, bytes, maxLocals, answer, level (frames, 40 words of locals each), cells, slots, arguments, kind (0 of an object, 1 static, 2 constructor) -/
def vx_mt0 : List vx_M := [(⟨"VoteWalls", "<init>", "()V"⟩, prog_1_method_1_code, 2, none, 2, 37, 802, 0, 2),
  (⟨"VoteWalls$TextReader", "<init>", "()V"⟩, prog_4_method_1_code, 1, none, 1, 0, 0, 0, 2),
  (⟨"VoteWalls$Triples", "<init>", "(I)V"⟩, prog_5_method_1_code, 2, none, 1, 3, 24, 1, 2),
  (⟨"VoteWalls$Calendar", "<init>", "()V"⟩, prog_2_method_1_code, 1, none, 1, 2, 100, 0, 2),
  (⟨"VoteWalls$Weeks", "<init>", "()V"⟩, prog_6_method_1_code, 1, none, 1, 3, 291, 0, 2),
  (⟨"VoteWalls$Yard", "<init>", "()V"⟩, prog_7_method_1_code, 1, none, 1, 3, 21, 0, 2),
  (⟨"VoteWalls$Sheet", "<init>", "()V"⟩, prog_3_method_1_code, 1, none, 1, 1, 60, 0, 2),
  (⟨"VoteWalls", "yard", "(IIII)I"⟩, prog_1_method_2_code, 7, (some .int), 6, 0, 0, 4, 0),
  (⟨"VoteWalls", "refusalOfCells", "(IIII)I"⟩, prog_1_method_51_code, 6, (some .int), 2, 0, 0, 4, 0),
  (⟨"VoteWalls", "isSheet", "(I)Z"⟩, prog_1_method_42_code, 1, (some .boolean), 0, 0, 0, 1, 1),
  (⟨"VoteWalls", "isLane", "(I)Z"⟩, prog_1_method_43_code, 1, (some .boolean), 0, 0, 0, 1, 1),
  (⟨"VoteWalls$Sheet", "faultOfCells", "(III)I"⟩, prog_3_method_4_code, 4, (some .int), 1, 0, 0, 3, 0),
  (⟨"VoteWalls$Sheet", "holds", "(II)Z"⟩, prog_3_method_3_code, 3, (some .boolean), 0, 0, 0, 2, 0),
  (⟨"VoteWalls", "failed", "(I)I"⟩, prog_1_method_50_code, 2, (some .int), 0, 0, 0, 1, 0),
  (⟨"VoteWalls$TextReader", "takes", "(LVoteWalls$Sheet;IILVoteWalls$Yard;)Z"⟩, prog_4_method_2_code, 5, (some .boolean), 5, 0, 0, 4, 0),
  (⟨"VoteWalls$TextReader", "takeInches", "(LVoteWalls$Yard;)Z"⟩, prog_4_method_3_code, 2, (some .boolean), 4, 0, 0, 1, 0),
  (⟨"VoteWalls$TextReader", "takeCode", "(I)Z"⟩, prog_4_method_7_code, 2, (some .boolean), 2, 0, 0, 1, 0),
  (⟨"VoteWalls$TextReader", "code", "()I"⟩, prog_4_method_6_code, 1, (some .int), 1, 0, 0, 0, 0),
  (⟨"VoteWalls$Sheet", "numberAt", "(I)I"⟩, prog_3_method_5_code, 2, (some .int), 0, 0, 0, 1, 0),
  (⟨"VoteWalls$TextReader", "takeNumber", "(II)I"⟩, prog_4_method_9_code, 4, (some .int), 3, 0, 0, 2, 0),
  (⟨"VoteWalls$TextReader", "takeDigit", "(IIII)I"⟩, prog_4_method_10_code, 8, (some .int), 2, 0, 0, 4, 0),
  (⟨"VoteWalls$TextReader", "takeBoards", "(LVoteWalls$Yard;)Z"⟩, prog_4_method_4_code, 4, (some .boolean), 4, 0, 0, 1, 0),
  (⟨"VoteWalls$TextReader", "takePrisoners", "(LVoteWalls$Yard;)Z"⟩, prog_4_method_5_code, 3, (some .boolean), 4, 0, 0, 1, 0),
  (⟨"VoteWalls$TextReader", "takeKind", "()I"⟩, prog_4_method_8_code, 1, (some .int), 3, 0, 0, 0, 0),
  (⟨"VoteWalls", "forgetRules", "()V"⟩, prog_1_method_52_code, 1, none, 3, 0, 0, 0, 0),
  (⟨"VoteWalls$Calendar", "mark", "(LVoteWalls$Triples;LVoteWalls$Triples;)V"⟩, prog_2_method_2_code, 4, none, 2, 0, 0, 2, 0),
  (⟨"VoteWalls$Calendar", "markSets", "([ILVoteWalls$Triples;)V"⟩, prog_2_method_3_code, 5, none, 1, 0, 0, 2, 1),
  (⟨"java/util/Arrays", "fill", "([II)V"⟩, prog_13_method_103_code, 4, none, 0, 0, 0, 2, 1),
  (⟨"VoteWalls", "ofPrisoner", "(II)I"⟩, prog_1_method_3_code, 3, (some .int), 1, 0, 0, 2, 0),
  (⟨"VoteWalls", "isPrisoner", "(I)Z"⟩, prog_1_method_40_code, 2, (some .boolean), 0, 0, 0, 1, 0),
  (⟨"VoteWalls", "votesOfKind", "(I)I"⟩, prog_1_method_49_code, 1, (some .int), 0, 0, 0, 1, 1),
  (⟨"VoteWalls", "law", "(I)I"⟩, prog_1_method_4_code, 3, (some .int), 1, 0, 0, 1, 0),
  (⟨"VoteWalls", "hasYard", "()Z"⟩, prog_1_method_38_code, 1, (some .boolean), 0, 0, 0, 0, 0),
  (⟨"VoteWalls", "lock", "(III)I"⟩, prog_1_method_5_code, 5, (some .int), 3, 0, 0, 3, 0),
  (⟨"VoteWalls", "isBoard", "(I)Z"⟩, prog_1_method_39_code, 2, (some .boolean), 0, 0, 0, 1, 0),
  (⟨"VoteWalls", "isSpan", "(II)Z"⟩, prog_1_method_46_code, 2, (some .boolean), 1, 0, 0, 2, 1),
  (⟨"VoteWalls", "isSunday", "(I)Z"⟩, prog_1_method_44_code, 1, (some .boolean), 0, 0, 0, 1, 1),
  (⟨"VoteWalls$Triples", "add", "(III)I"⟩, prog_5_method_2_code, 4, (some .int), 0, 0, 0, 3, 0),
  (⟨"VoteWalls", "unlock", "(I)I"⟩, prog_1_method_6_code, 3, (some .int), 3, 0, 0, 1, 0),
  (⟨"VoteWalls$Triples", "drop", "(I)I"⟩, prog_5_method_3_code, 2, (some .int), 0, 0, 0, 1, 0)]
def vx_mt1 : List vx_M := [(⟨"VoteWalls", "strike", "(III)I"⟩, prog_1_method_7_code, 5, (some .int), 3, 0, 0, 3, 0),
  (⟨"VoteWalls", "eat", "(I)I"⟩, prog_1_method_8_code, 3, (some .int), 3, 0, 0, 1, 0),
  (⟨"VoteWalls", "gap", "(II)I"⟩, prog_1_method_9_code, 3, (some .int), 6, 0, 0, 2, 0),
  (⟨"VoteWalls", "isSundayOrFirst", "(I)Z"⟩, prog_1_method_45_code, 1, (some .boolean), 1, 0, 0, 1, 1),
  (⟨"VoteWalls", "reckonAsItIs", "(I)V"⟩, prog_1_method_53_code, 2, none, 5, 0, 0, 1, 0),
  (⟨"VoteWalls", "reckonWith", "(III)V"⟩, prog_1_method_54_code, 4, none, 4, 0, 0, 3, 0),
  (⟨"VoteWalls$Weeks", "reckon", "(LVoteWalls$Yard;LVoteWalls$Calendar;IIII)V"⟩, prog_6_method_2_code, 11, none, 3, 0, 0, 6, 0),
  (⟨"VoteWalls$Weeks", "begin", "(LVoteWalls$Yard;)V"⟩, prog_6_method_3_code, 2, none, 1, 0, 0, 1, 0),
  (⟨"VoteWalls$Weeks", "countVotes", "(LVoteWalls$Yard;I)V"⟩, prog_6_method_4_code, 5, none, 1, 0, 0, 2, 0),
  (⟨"VoteWalls", "isIn", "(II)Z"⟩, prog_1_method_47_code, 2, (some .boolean), 0, 0, 0, 2, 1),
  (⟨"VoteWalls$Weeks", "pushAll", "(II)Z"⟩, prog_6_method_5_code, 6, (some .boolean), 2, 0, 0, 2, 0),
  (⟨"VoteWalls$Weeks", "pushOne", "(I)Z"⟩, prog_6_method_6_code, 8, (some .boolean), 1, 0, 0, 1, 0),
  (⟨"VoteWalls$Weeks", "votesFromTo", "(II)I"⟩, prog_6_method_7_code, 3, (some .int), 0, 0, 0, 2, 0),
  (⟨"java/lang/Integer", "compare", "(II)I"⟩, prog_10_method_40_code, 2, (some .int), 0, 0, 0, 2, 1),
  (⟨"VoteWalls$Weeks", "gapAt", "(II)I"⟩, prog_6_method_8_code, 4, (some .int), 1, 0, 0, 2, 0),
  (⟨"VoteWalls", "cellOf", "(II)I"⟩, prog_1_method_10_code, 3, (some .int), 6, 0, 0, 2, 0),
  (⟨"VoteWalls", "whereIs", "(II)I"⟩, prog_1_method_55_code, 3, (some .int), 3, 0, 0, 2, 0),
  (⟨"VoteWalls$Weeks", "cellAt", "(II)I"⟩, prog_6_method_9_code, 5, (some .int), 2, 0, 0, 2, 0),
  (⟨"VoteWalls", "wide", "(II)I"⟩, prog_1_method_11_code, 3, (some .int), 6, 0, 0, 2, 0),
  (⟨"VoteWalls", "isCell", "(I)Z"⟩, prog_1_method_41_code, 2, (some .boolean), 1, 0, 0, 1, 0),
  (⟨"VoteWalls$Weeks", "widthAt", "(II)I"⟩, prog_6_method_10_code, 5, (some .int), 2, 0, 0, 2, 0),
  (⟨"VoteWalls", "with", "(II)I"⟩, prog_1_method_12_code, 3, (some .int), 6, 0, 0, 2, 0),
  (⟨"VoteWalls", "thoseInCells", "(II)I"⟩, prog_1_method_57_code, 5, (some .int), 4, 0, 0, 2, 0),
  (⟨"VoteWalls", "meet", "(II)I"⟩, prog_1_method_13_code, 3, (some .int), 6, 0, 0, 2, 0),
  (⟨"VoteWalls", "firstTogether", "(II)I"⟩, prog_1_method_56_code, 4, (some .int), 4, 0, 0, 2, 0),
  (⟨"VoteWalls", "rests", "()I"⟩, prog_1_method_14_code, 1, (some .int), 6, 0, 0, 0, 0),
  (⟨"VoteWalls", "apart", "(II)I"⟩, prog_1_method_15_code, 6, (some .int), 5, 0, 0, 2, 0),
  (⟨"VoteWalls", "isFewer", "(II)Z"⟩, prog_1_method_48_code, 2, (some .boolean), 1, 0, 0, 2, 1),
  (⟨"java/lang/Integer", "bitCount", "(I)I"⟩, prog_10_method_49_code, 1, (some .int), 0, 0, 0, 1, 1),
  (⟨"VoteWalls", "joined", "(II)I"⟩, prog_1_method_16_code, 5, (some .int), 5, 0, 0, 2, 0),
  (⟨"VoteWalls", "pushed", "(III)I"⟩, prog_1_method_17_code, 7, (some .int), 5, 0, 0, 3, 0),
  (⟨"VoteWalls", "game", "(I)I"⟩, prog_1_method_18_code, 6, (some .int), 6, 0, 0, 1, 0),
  (⟨"VoteWalls", "widestBehind", "(I)I"⟩, prog_1_method_59_code, 4, (some .int), 5, 0, 0, 1, 0),
  (⟨"VoteWalls", "knocks", "(III)I"⟩, prog_1_method_19_code, 6, (some .int), 6, 0, 0, 3, 0),
  (⟨"VoteWalls", "cellsNear", "(II)I"⟩, prog_1_method_58_code, 6, (some .int), 4, 0, 0, 2, 0),
  (⟨"VoteWalls", "walk", "(IIII)I"⟩, prog_1_method_20_code, 7, (some .int), 7, 0, 0, 4, 0),
  (⟨"VoteWalls", "stepsOfWalk", "(LVoteWalls$Sheet;II)I"⟩, prog_1_method_60_code, 8, (some .int), 6, 0, 0, 3, 0),
  (⟨"VoteWalls", "reading", "(III)I"⟩, prog_1_method_21_code, 4, (some .int), 1, 0, 0, 3, 0),
  (⟨"VoteWalls", "back", "(I)I"⟩, prog_1_method_22_code, 2, (some .int), 1, 0, 0, 1, 0),
  (⟨"VoteWalls", "struck", "()I"⟩, prog_1_method_23_code, 3, (some .int), 5, 0, 0, 0, 0)]
def vx_mt2 : List vx_M := [(⟨"VoteWalls", "readingsAreSo", "()Z"⟩, prog_1_method_61_code, 2, (some .boolean), 2, 0, 0, 0, 0),
  (⟨"VoteWalls", "laws", "()I"⟩, prog_1_method_24_code, 3, (some .int), 4, 0, 0, 0, 0),
  (⟨"VoteWalls", "stood", "(I)I"⟩, prog_1_method_25_code, 5, (some .int), 6, 0, 0, 1, 0),
  (⟨"VoteWalls", "odds", "(IIII)J"⟩, prog_1_method_26_code, 9, (some .long), 5, 0, 0, 4, 0),
  (⟨"VoteWalls", "sheet", "(III)I"⟩, prog_1_method_27_code, 4, (some .int), 2, 0, 0, 3, 0),
  (⟨"VoteWalls$Sheet", "renew", "(II)V"⟩, prog_3_method_2_code, 3, none, 1, 0, 0, 2, 0),
  (⟨"VoteWalls", "lose", "(I)I"⟩, prog_1_method_28_code, 3, (some .int), 2, 0, 0, 1, 0),
  (⟨"VoteWalls", "put", "(III)I"⟩, prog_1_method_29_code, 4, (some .int), 2, 0, 0, 3, 0),
  (⟨"VoteWalls$Sheet", "setNumber", "(II)V"⟩, prog_3_method_6_code, 3, none, 1, 0, 0, 2, 0),
  (⟨"VoteWalls$Sheet", "cut", "(I)I"⟩, prog_3_method_7_code, 2, (some .int), 0, 0, 0, 1, 0),
  (⟨"VoteWalls", "cell", "(III)J"⟩, prog_1_method_30_code, 4, (some .long), 2, 0, 0, 3, 0),
  (⟨"VoteWalls", "copy", "(IIIII)I"⟩, prog_1_method_31_code, 8, (some .int), 1, 0, 0, 5, 0),
  (⟨"VoteWalls", "tell", "(I)I"⟩, prog_1_method_32_code, 2, (some .int), 4, 0, 0, 1, 0),
  (⟨"VoteWalls", "bullyTells", "(I)I"⟩, prog_1_method_65_code, 3, (some .int), 3, 0, 0, 1, 0),
  (⟨"VoteWalls", "leave", "(I)V"⟩, prog_1_method_62_code, 2, none, 0, 0, 0, 1, 0),
  (⟨"VoteWalls", "tallTells", "(I)I"⟩, prog_1_method_64_code, 2, (some .int), 2, 0, 0, 1, 0),
  (⟨"VoteWalls", "prisonerTells", "(I)I"⟩, prog_1_method_63_code, 2, (some .int), 1, 0, 0, 1, 0),
  (⟨"VoteWalls", "visit", "(I)I"⟩, prog_1_method_33_code, 2, (some .int), 1, 0, 0, 1, 0),
  (⟨"VoteWalls", "as", "(II)I"⟩, prog_1_method_34_code, 3, (some .int), 1, 0, 0, 2, 0),
  (⟨"VoteWalls", "trace", "()I"⟩, prog_1_method_35_code, 1, (some .int), 0, 0, 0, 0, 0),
  (⟨"VoteWalls", "fault", "()I"⟩, prog_1_method_36_code, 1, (some .int), 0, 0, 0, 0, 0),
  (⟨"VoteWalls", "many", "(I)I"⟩, prog_1_method_37_code, 2, (some .int), 0, 0, 0, 1, 0),
  (⟨"VoteWallsModel", "<init>", "()V"⟩, prog_9_method_1_code, 1, none, 1, 19, 355, 0, 2),
  (⟨"VoteWallsModel", "yard", "(IIII)I"⟩, prog_9_method_16_code, 8, (some .int), 5, 0, 0, 4, 0),
  (⟨"VoteWallsModel", "isSheet", "(I)Z"⟩, prog_9_method_6_code, 1, (some .boolean), 1, 0, 0, 1, 1),
  (⟨"VoteWallsModel", "within", "(III)Z"⟩, prog_9_method_5_code, 3, (some .boolean), 0, 0, 0, 3, 1),
  (⟨"VoteWallsModel", "isSort", "(I)Z"⟩, prog_9_method_7_code, 1, (some .boolean), 1, 0, 0, 1, 1),
  (⟨"VoteWallsModel", "against", "(IIII)I"⟩, prog_9_method_8_code, 5, (some .int), 0, 0, 0, 4, 0),
  (⟨"VoteWallsModel", "fails", "(I)I"⟩, prog_9_method_3_code, 2, (some .int), 0, 0, 0, 1, 0),
  (⟨"VoteWallsModel", "readYard", "(I)Z"⟩, prog_9_method_17_code, 2, (some .boolean), 4, 0, 0, 1, 0),
  (⟨"VoteWallsModel", "isSign", "(II)Z"⟩, prog_9_method_13_code, 3, (some .boolean), 0, 0, 0, 2, 0),
  (⟨"VoteWallsModel", "number", "(III)I"⟩, prog_9_method_15_code, 8, (some .int), 2, 0, 0, 3, 0),
  (⟨"VoteWallsModel", "digit", "(III)I"⟩, prog_9_method_14_code, 4, (some .int), 1, 0, 0, 3, 0),
  (⟨"VoteWallsModel", "readBoard", "(I)Z"⟩, prog_9_method_18_code, 3, (some .boolean), 3, 0, 0, 1, 0),
  (⟨"VoteWallsModel", "readPrisoner", "(I)Z"⟩, prog_9_method_19_code, 4, (some .boolean), 3, 0, 0, 1, 0),
  (⟨"VoteWallsModel", "ofPrisoner", "(II)I"⟩, prog_9_method_21_code, 3, (some .int), 1, 0, 0, 2, 0),
  (⟨"VoteWallsModel", "isPrisoner", "(I)Z"⟩, prog_9_method_10_code, 2, (some .boolean), 0, 0, 0, 1, 0),
  (⟨"VoteWallsModel", "votes", "(I)I"⟩, prog_9_method_20_code, 2, (some .int), 0, 0, 0, 1, 0),
  (⟨"VoteWallsModel", "law", "(I)I"⟩, prog_9_method_22_code, 3, (some .int), 1, 0, 0, 1, 0),
  (⟨"VoteWallsModel", "isYard", "()Z"⟩, prog_9_method_11_code, 1, (some .boolean), 0, 0, 0, 0, 0)]
def vx_mt3 : List vx_M := [(⟨"VoteWallsModel", "lock", "(III)I"⟩, prog_9_method_24_code, 4, (some .int), 3, 0, 0, 3, 0),
  (⟨"VoteWallsModel", "isBoard", "(I)Z"⟩, prog_9_method_9_code, 2, (some .boolean), 0, 0, 0, 1, 0),
  (⟨"VoteWallsModel", "isSpan", "(II)Z"⟩, prog_9_method_23_code, 2, (some .boolean), 2, 0, 0, 2, 1),
  (⟨"VoteWallsModel", "isSunday", "(I)Z"⟩, prog_9_method_12_code, 1, (some .boolean), 1, 0, 0, 1, 1),
  (⟨"VoteWallsModel", "unlock", "(I)I"⟩, prog_9_method_25_code, 2, (some .int), 1, 0, 0, 1, 0),
  (⟨"VoteWallsModel", "strike", "(III)I"⟩, prog_9_method_26_code, 4, (some .int), 3, 0, 0, 3, 0),
  (⟨"VoteWallsModel", "eat", "(I)I"⟩, prog_9_method_27_code, 2, (some .int), 1, 0, 0, 1, 0),
  (⟨"VoteWallsModel", "gap", "(II)I"⟩, prog_9_method_38_code, 3, (some .int), 5, 0, 0, 2, 0),
  (⟨"VoteWallsModel", "isEnd", "(I)Z"⟩, prog_9_method_37_code, 1, (some .boolean), 1, 0, 0, 1, 1),
  (⟨"VoteWallsModel", "goTo", "(I)V"⟩, prog_9_method_36_code, 3, none, 4, 0, 0, 1, 0),
  (⟨"VoteWallsModel", "begin", "()V"⟩, prog_9_method_35_code, 2, none, 0, 0, 0, 0, 0),
  (⟨"VoteWallsModel", "goSunday", "(I)V"⟩, prog_9_method_34_code, 6, none, 3, 0, 0, 1, 0),
  (⟨"VoteWallsModel", "lockedOn", "(I)I"⟩, prog_9_method_28_code, 4, (some .int), 1, 0, 0, 1, 0),
  (⟨"VoteWallsModel", "strikingOn", "(I)I"⟩, prog_9_method_29_code, 4, (some .int), 1, 0, 0, 1, 0),
  (⟨"VoteWallsModel", "push", "(II)V"⟩, prog_9_method_33_code, 5, none, 2, 0, 0, 2, 0),
  (⟨"VoteWallsModel", "votesIn", "(II)I"⟩, prog_9_method_32_code, 5, (some .int), 1, 0, 0, 2, 0),
  (⟨"VoteWallsModel", "cellNow", "(I)I"⟩, prog_9_method_31_code, 3, (some .int), 0, 0, 0, 1, 0),
  (⟨"VoteWallsModel", "edge", "(I)I"⟩, prog_9_method_30_code, 2, (some .int), 0, 0, 0, 1, 0),
  (⟨"VoteWallsModel", "cellOf", "(II)I"⟩, prog_9_method_39_code, 3, (some .int), 5, 0, 0, 2, 0),
  (⟨"VoteWallsModel", "wide", "(II)I"⟩, prog_9_method_42_code, 3, (some .int), 5, 0, 0, 2, 0),
  (⟨"VoteWallsModel", "isCell", "(I)Z"⟩, prog_9_method_40_code, 2, (some .boolean), 1, 0, 0, 1, 0),
  (⟨"VoteWallsModel", "wideNow", "(I)I"⟩, prog_9_method_41_code, 2, (some .int), 1, 0, 0, 1, 0),
  (⟨"VoteWallsModel", "with", "(II)I"⟩, prog_9_method_43_code, 5, (some .int), 5, 0, 0, 2, 0),
  (⟨"VoteWallsModel", "meet", "(II)I"⟩, prog_9_method_45_code, 3, (some .int), 5, 0, 0, 2, 0),
  (⟨"VoteWallsModel", "meetIn", "(II)I"⟩, prog_9_method_44_code, 4, (some .int), 4, 0, 0, 2, 0),
  (⟨"VoteWallsModel", "rests", "()I"⟩, prog_9_method_46_code, 3, (some .int), 4, 0, 0, 0, 0),
  (⟨"VoteWallsModel", "apart", "(II)I"⟩, prog_9_method_49_code, 5, (some .int), 5, 0, 0, 2, 0),
  (⟨"VoteWallsModel", "areTwo", "(II)Z"⟩, prog_9_method_48_code, 3, (some .boolean), 1, 0, 0, 2, 0),
  (⟨"VoteWallsModel", "size", "(I)I"⟩, prog_9_method_47_code, 3, (some .int), 0, 0, 0, 1, 1),
  (⟨"VoteWallsModel", "joined", "(II)I"⟩, prog_9_method_50_code, 5, (some .int), 5, 0, 0, 2, 0),
  (⟨"VoteWallsModel", "pushed", "(III)I"⟩, prog_9_method_51_code, 6, (some .int), 5, 0, 0, 3, 0),
  (⟨"VoteWallsModel", "game", "(I)I"⟩, prog_9_method_53_code, 6, (some .int), 6, 0, 0, 1, 0),
  (⟨"VoteWallsModel", "mostWide", "()I"⟩, prog_9_method_52_code, 3, (some .int), 5, 0, 0, 0, 0),
  (⟨"VoteWallsModel", "knocks", "(III)I"⟩, prog_9_method_55_code, 6, (some .int), 4, 0, 0, 3, 0),
  (⟨"VoteWallsModel", "spread", "(I)I"⟩, prog_9_method_54_code, 5, (some .int), 1, 0, 0, 1, 0),
  (⟨"VoteWallsModel", "walk", "(IIII)I"⟩, prog_9_method_56_code, 8, (some .int), 5, 0, 0, 4, 0),
  (⟨"VoteWallsModel", "walked", "(II)I"⟩, prog_9_method_57_code, 6, (some .int), 4, 0, 0, 2, 0),
  (⟨"VoteWallsModel", "reading", "(III)I"⟩, prog_9_method_58_code, 4, (some .int), 2, 0, 0, 3, 0),
  (⟨"VoteWallsModel", "back", "(I)I"⟩, prog_9_method_59_code, 2, (some .int), 1, 0, 0, 1, 0),
  (⟨"VoteWallsModel", "struck", "()I"⟩, prog_9_method_61_code, 3, (some .int), 6, 0, 0, 0, 0)]
def vx_mt4 : List vx_M := [(⟨"VoteWallsModel", "areSo", "()Z"⟩, prog_9_method_60_code, 2, (some .boolean), 5, 0, 0, 0, 0),
  (⟨"VoteWallsModel", "laws", "()I"⟩, prog_9_method_62_code, 4, (some .int), 6, 0, 0, 0, 0),
  (⟨"VoteWallsModel", "stood", "(I)I"⟩, prog_9_method_63_code, 5, (some .int), 6, 0, 0, 1, 0),
  (⟨"VoteWallsModel", "odds", "(IIII)J"⟩, prog_9_method_65_code, 7, (some .long), 5, 0, 0, 4, 0),
  (⟨"VoteWallsModel", "inLeastTerms", "(JJI)J"⟩, prog_9_method_64_code, 11, (some .long), 0, 0, 0, 3, 1),
  (⟨"VoteWallsModel", "sheet", "(III)I"⟩, prog_9_method_66_code, 5, (some .int), 2, 0, 0, 3, 0),
  (⟨"VoteWallsModel", "lose", "(I)I"⟩, prog_9_method_67_code, 3, (some .int), 2, 0, 0, 1, 0),
  (⟨"VoteWallsModel", "put", "(III)I"⟩, prog_9_method_68_code, 4, (some .int), 2, 0, 0, 3, 0),
  (⟨"VoteWallsModel", "cell", "(III)J"⟩, prog_9_method_69_code, 4, (some .long), 2, 0, 0, 3, 0),
  (⟨"VoteWallsModel", "lost", "(I)J"⟩, prog_9_method_4_code, 2, (some .long), 0, 0, 0, 1, 0),
  (⟨"VoteWallsModel", "copy", "(IIIII)I"⟩, prog_9_method_70_code, 10, (some .int), 2, 0, 0, 5, 0),
  (⟨"VoteWallsModel", "tell", "(I)I"⟩, prog_9_method_72_code, 3, (some .int), 1, 0, 0, 1, 0),
  (⟨"VoteWallsModel", "begins", "(I)V"⟩, prog_9_method_71_code, 2, none, 0, 0, 0, 1, 0),
  (⟨"VoteWallsModel", "visit", "(I)I"⟩, prog_9_method_73_code, 2, (some .int), 1, 0, 0, 1, 0),
  (⟨"VoteWallsModel", "as", "(II)I"⟩, prog_9_method_74_code, 3, (some .int), 1, 0, 0, 2, 0),
  (⟨"VoteWallsModel", "trace", "()I"⟩, prog_9_method_75_code, 1, (some .int), 0, 0, 0, 0, 0),
  (⟨"VoteWallsModel", "fault", "()I"⟩, prog_9_method_76_code, 1, (some .int), 0, 0, 0, 0, 0),
  (⟨"VoteWallsModel", "many", "(I)I"⟩, prog_9_method_77_code, 2, (some .int), 0, 0, 0, 1, 0)]
def vx_mt : List vx_M := vx_mt0 ++ (vx_mt1 ++ (vx_mt2 ++ (vx_mt3 ++ (vx_mt4))))
def vx_mb (M : vx_M) (p : Nat × Nat × Nat × Nat) : Bool := vx_at p.1 (.code M.1 M.2.1 M.2.2.1 M.2.2.2.1) && vx_at p.2.1 (.initialized M.1.cls) && decide (M.1.cls ≠ "java/lang/invoke/MethodHandle") && decide (M.1.cls ≠ "java/lang/invoke/VarHandle") && decide ((parseMethodDescriptor M.1.desc).map (fun d => d.parameters.length) = some M.2.2.2.2.2.2.2.1) && plainName M.1.cls &&
  (match M.2.2.2.2.2.2.2.2 with
   | 0 => vx_at p.2.2.1 (.instanceMethod M.1) && vx_at p.2.2.2 (.selects M.1.cls M.1 M.1) && decide (∃ c ∈ vx_cl, c.1 = M.1.cls)
   | 1 => vx_at p.2.2.1 (.static M.1)
   | 2 => vx_at p.2.2.1 (.instanceMethod M.1) && decide (M.1.name = "<init>") && decide (M.2.2.2.1 = none)
   | _ => false)
set_option maxRecDepth 100000 in
theorem vx_mb0 : (vx_mt0.zip [(82, 66, 81, 0), (92, 67, 91, 0), (112, 68, 111, 0), (146, 70, 145, 0), (165, 71, 164, 0), (195, 72, 194, 0), (236, 73, 235, 0), (290, 66, 288, 289), (294, 66, 293, 0), (297, 66, 296, 0), (300, 66, 299, 0), (304, 73, 302, 303), (308, 73, 306, 307), (312, 66, 311, 1), (316, 67, 314, 315), (320, 67, 319, 2), (324, 67, 323, 3), (328, 67, 327, 4), (332, 73, 330, 331), (336, 67, 335, 5), (340, 67, 339, 6), (348, 67, 347, 7), (352, 67, 351, 8), (356, 67, 355, 9), (360, 66, 359, 10), (364, 70, 362, 363), (367, 70, 366, 0), (370, 75, 369, 0), (376, 66, 374, 375), (380, 66, 379, 11), (383, 66, 382, 0), (387, 66, 385, 386), (391, 66, 390, 12), (395, 66, 393, 394), (399, 66, 398, 13), (402, 66, 401, 0), (405, 66, 404, 0), (409, 68, 407, 408), (413, 66, 411, 412), (417, 68, 415, 416)]).all (fun q => vx_mb q.1 q.2) = true := by decide +kernel
set_option maxRecDepth 100000 in
theorem vx_mb1 : (vx_mt1.zip [(421, 66, 419, 420), (425, 66, 423, 424), (429, 66, 427, 428), (432, 66, 431, 0), (436, 66, 435, 14), (440, 66, 439, 15), (444, 71, 442, 443), (448, 71, 447, 16), (455, 71, 454, 17), (459, 66, 458, 0), (464, 71, 463, 18), (468, 71, 467, 19), (472, 71, 471, 20), (475, 77, 474, 0), (479, 71, 477, 478), (484, 66, 482, 483), (488, 66, 487, 21), (492, 71, 490, 491), (497, 66, 495, 496), (501, 66, 500, 22), (505, 71, 503, 504), (509, 66, 507, 508), (513, 66, 512, 23), (518, 66, 516, 517), (522, 66, 521, 24), (526, 66, 524, 525), (530, 66, 528, 529), (533, 66, 532, 0), (536, 77, 535, 0), (543, 66, 541, 542), (547, 66, 545, 546), (551, 66, 549, 550), (555, 66, 554, 25), (560, 66, 558, 559), (564, 66, 563, 26), (568, 66, 566, 567), (573, 66, 572, 27), (580, 66, 578, 579), (584, 66, 582, 583), (588, 66, 586, 587)]).all (fun q => vx_mb q.1 q.2) = true := by decide +kernel
set_option maxRecDepth 100000 in
theorem vx_mb2 : (vx_mt2.zip [(592, 66, 591, 28), (596, 66, 594, 595), (600, 66, 598, 599), (604, 66, 602, 603), (609, 66, 607, 608), (613, 73, 611, 612), (618, 66, 616, 617), (622, 66, 620, 621), (627, 73, 625, 626), (631, 73, 630, 29), (635, 66, 633, 634), (639, 66, 637, 638), (644, 66, 642, 643), (648, 66, 647, 30), (652, 66, 651, 31), (656, 66, 655, 32), (660, 66, 659, 33), (664, 66, 662, 663), (668, 66, 666, 667), (672, 66, 670, 671), (676, 66, 674, 675), (680, 66, 678, 679), (685, 74, 684, 0), (796, 74, 794, 795), (799, 74, 798, 0), (802, 74, 801, 0), (805, 74, 804, 0), (809, 74, 808, 34), (813, 74, 812, 35), (817, 74, 816, 36), (821, 74, 820, 37), (825, 74, 824, 38), (829, 74, 828, 39), (833, 74, 832, 40), (837, 74, 836, 41), (841, 74, 839, 840), (845, 74, 844, 42), (849, 74, 848, 43), (853, 74, 851, 852), (857, 74, 856, 44)]).all (fun q => vx_mb q.1 q.2) = true := by decide +kernel
set_option maxRecDepth 100000 in
theorem vx_mb3 : (vx_mt3.zip [(861, 74, 859, 860), (865, 74, 864, 45), (868, 74, 867, 0), (871, 74, 870, 0), (875, 74, 873, 874), (879, 74, 877, 878), (883, 74, 881, 882), (887, 74, 885, 886), (890, 74, 889, 0), (894, 74, 893, 46), (898, 74, 897, 47), (902, 74, 901, 48), (906, 74, 905, 49), (910, 74, 909, 50), (914, 74, 913, 51), (918, 74, 917, 52), (922, 74, 921, 53), (926, 74, 925, 54), (930, 74, 928, 929), (934, 74, 932, 933), (938, 74, 937, 55), (942, 74, 941, 56), (946, 74, 944, 945), (950, 74, 948, 949), (954, 74, 953, 57), (958, 74, 956, 957), (962, 74, 960, 961), (966, 74, 965, 58), (969, 74, 968, 0), (973, 74, 971, 972), (977, 74, 975, 976), (981, 74, 979, 980), (985, 74, 984, 59), (989, 74, 987, 988), (993, 74, 992, 60), (997, 74, 995, 996), (1001, 74, 1000, 61), (1005, 74, 1003, 1004), (1009, 74, 1007, 1008), (1013, 74, 1011, 1012)]).all (fun q => vx_mb q.1 q.2) = true := by decide +kernel
set_option maxRecDepth 100000 in
theorem vx_mb4 : (vx_mt4.zip [(1017, 74, 1016, 62), (1021, 74, 1019, 1020), (1025, 74, 1023, 1024), (1029, 74, 1027, 1028), (1033, 74, 1032, 0), (1037, 74, 1035, 1036), (1041, 74, 1039, 1040), (1045, 74, 1043, 1044), (1049, 74, 1047, 1048), (1053, 74, 1052, 63), (1057, 74, 1055, 1056), (1061, 74, 1059, 1060), (1065, 74, 1064, 64), (1069, 74, 1067, 1068), (1073, 74, 1071, 1072), (1077, 74, 1075, 1076), (1081, 74, 1079, 1080), (1085, 74, 1083, 1084)]).all (fun q => vx_mb q.1 q.2) = true := by decide +kernel
theorem vx_zipm {l : List vx_M} {ps : List (Nat × Nat × Nat × Nat)} (h : (l.zip ps).all (fun q => vx_mb q.1 q.2) = true) (hl : l.length = ps.length) : ∀ M ∈ l, ∃ p, vx_mb M p = true := by
  intro M hM
  obtain ⟨i, hi⟩ := List.getElem?_of_mem hM
  have hlt := (List.getElem?_eq_some_iff.mp hi).1
  have hm : (M, ps[i]'(by omega)) ∈ l.zip ps := by
    refine List.mem_of_getElem? (i := i) ?_
    rw [List.getElem?_zip_eq_some]
    exact ⟨hi, List.getElem?_eq_getElem (by omega)⟩
  exact ⟨_, List.all_eq_true.mp h _ hm⟩
theorem vx_mok : ∀ M ∈ vx_mt, ∃ p, vx_mb M p = true := List.forall_mem_append.mpr ⟨vx_zipm vx_mb0 (by decide +kernel), List.forall_mem_append.mpr ⟨vx_zipm vx_mb1 (by decide +kernel), List.forall_mem_append.mpr ⟨vx_zipm vx_mb2 (by decide +kernel), List.forall_mem_append.mpr ⟨vx_zipm vx_mb3 (by decide +kernel), vx_zipm vx_mb4 (by decide +kernel)⟩⟩⟩⟩
/-- own class, entry, method, place of the word -/
def vx_ml : List (Nat × Nat × Nat × Nat) := [(6, 26, 2, 110), (6, 74, 8, 291), (6, 78, 14, 313), (6, 85, 24, 357), (6, 91, 29, 377), (6, 102, 30, 381), (6, 106, 32, 388), (6, 110, 34, 396), (6, 113, 35, 400), (6, 117, 37, 406), (6, 121, 25, 361), (6, 125, 39, 414), (6, 128, 43, 430), (6, 131, 44, 433), (6, 134, 54, 476), (6, 138, 56, 485), (6, 141, 59, 498), (6, 144, 60, 502), (6, 147, 62, 510), (6, 150, 64, 519), (6, 159, 67, 531), (6, 162, 45, 437), (6, 169, 36, 403), (6, 172, 72, 552), (6, 175, 74, 561), (6, 178, 49, 514), (6, 181, 18, 569), (6, 184, 76, 570), (6, 188, 80, 589), (6, 191, 46, 441), (6, 197, 9, 295), (6, 200, 10, 298), (6, 203, 13, 309), (6, 206, 85, 610), (6, 213, 12, 623), (6, 216, 88, 624), (6, 219, 11, 301), (6, 231, 93, 645), (6, 234, 95, 653), (6, 237, 96, 657), (6, 240, 94, 649), (6, 246, 68, 534), (6, 251, 57, 489), (0, 22, 26, 365), (0, 26, 27, 368), (1, 22, 27, 614), (1, 28, 12, 305), (1, 32, 89, 628), (2, 25, 15, 317), (2, 29, 21, 345), (2, 32, 22, 349), (2, 35, 16, 321), (2, 39, 19, 333), (2, 51, 17, 325), (2, 65, 23, 353), (2, 71, 18, 329), (2, 77, 20, 337), (4, 34, 47, 445), (4, 43, 48, 452), (4, 50, 50, 461), (4, 68, 27, 456), (4, 90, 51, 465), (4, 94, 52, 469), (4, 98, 53, 473), (4, 108, 54, 493), (8, 9, 0, 80), (8, 12, 102, 683), (8, 13, 7, 287), (8, 17, 103, 793), (8, 18, 28, 373), (8, 22, 115, 838), (8, 23, 31, 384), (8, 27, 118, 850), (8, 28, 33, 392), (8, 32, 120, 858), (8, 33, 38, 410), (8, 36, 124, 872), (8, 37, 40, 418), (8, 40, 125, 876), (8, 41, 41, 422), (8, 44, 126, 880), (8, 45, 42, 426), (8, 48, 127, 884), (8, 49, 55, 481), (8, 52, 138, 927), (8, 53, 58, 494), (8, 56, 139, 931), (8, 57, 61, 506), (8, 60, 142, 943), (8, 61, 63, 515), (8, 64, 143, 947), (8, 65, 65, 523), (8, 69, 145, 955), (8, 70, 66, 527), (8, 73, 146, 959), (8, 74, 69, 540), (8, 77, 149, 970), (8, 78, 70, 544), (8, 81, 150, 974), (8, 82, 71, 548), (8, 85, 151, 978), (8, 86, 73, 557), (8, 89, 153, 986), (8, 90, 75, 565), (8, 93, 155, 994), (8, 94, 77, 577), (8, 97, 157, 1002), (8, 98, 78, 581), (8, 101, 158, 1006), (8, 102, 79, 585), (8, 105, 159, 1010), (8, 106, 81, 593), (8, 109, 161, 1018), (8, 110, 82, 597), (8, 113, 162, 1022), (8, 114, 83, 601), (8, 118, 163, 1026), (8, 119, 84, 606), (8, 122, 165, 1034), (8, 123, 86, 615), (8, 126, 166, 1038), (8, 127, 87, 619), (8, 130, 167, 1042), (8, 131, 90, 632), (8, 135, 168, 1046), (8, 136, 91, 636), (8, 140, 170, 1054), (8, 141, 92, 641), (8, 144, 171, 1058), (8, 145, 97, 661), (8, 148, 173, 1066), (8, 149, 98, 665), (8, 152, 174, 1070), (8, 153, 99, 669), (8, 156, 175, 1074), (8, 157, 100, 673), (8, 160, 176, 1078), (8, 161, 101, 677), (8, 164, 177, 1082), (7, 73, 105, 800), (7, 86, 112, 826), (7, 90, 104, 797), (7, 94, 106, 803), (7, 97, 107, 806), (7, 101, 108, 810), (7, 105, 109, 814), (7, 132, 110, 818), (7, 136, 111, 822), (7, 139, 113, 830), (7, 142, 114, 834), (7, 145, 116, 842), (7, 148, 117, 846), (7, 151, 119, 854), (7, 155, 123, 869), (7, 158, 121, 862), (7, 161, 122, 866), (7, 170, 136, 919), (7, 173, 135, 915), (7, 177, 137, 923), (7, 184, 132, 903), (7, 187, 133, 907), (7, 190, 134, 911), (7, 194, 130, 895), (7, 197, 131, 899), (7, 201, 128, 888), (7, 204, 129, 891), (7, 207, 140, 935), (7, 210, 141, 939), (7, 213, 144, 951), (7, 216, 147, 963), (7, 219, 148, 967), (7, 222, 152, 982), (7, 226, 154, 990), (7, 229, 156, 998), (7, 232, 160, 1014), (7, 235, 164, 1031), (7, 239, 169, 1050), (7, 246, 172, 1062)]
def vx_mn : List (Nat × Nat × Nat × Nat) := [(6, 19, 1, 90), (6, 41, 3, 144), (6, 48, 4, 163), (6, 55, 5, 193), (6, 73, 6, 234), (4, 80, 49, 457), (4, 86, 30, 460)]
/-- links to Object.<init>, arraycopy, min, max, abs -/
def vx_ms : List (Nat × Nat × Nat × Nat) := [(6, 3, 0, 83), (6, 225, 1, 640), (6, 257, 3, 556), (6, 262, 4, 574), (0, 3, 0, 147), (0, 40, 2, 371), (0, 49, 3, 372), (1, 3, 0, 237), (2, 3, 0, 93), (2, 81, 3, 341), (2, 86, 2, 344), (3, 3, 0, 113), (3, 25, 2, 114), (4, 3, 0, 166), (4, 54, 1, 449), (4, 103, 2, 480), (5, 3, 0, 196), (7, 1, 0, 686)]
def vx_mw (q : Nat × Nat × Nat × Nat) : Bool := match vx_cn[q.1]?, vx_mt[q.2.2.1]? with
  | some o, some M => vx_at q.2.2.2 (.methodLink o q.2.1 M.1)
  | _, _ => false
def vx_mw2 (q : Nat × Nat × Nat × Nat) : Bool := match vx_cn[q.1]?, vx_mt[q.2.2.1]? with
  | some o, some M => decide (lw_tbl[q.2.2.2]? = some (.methodLinkNest o q.2.1 M.1 "VoteWalls"))
  | _, _ => false
def vx_sn : List MethodName := [objectInit, arraycopyName, Lib.Math.min.name, Lib.Math.max.name, Lib.Math.abs.name]
def vx_mw3 (q : Nat × Nat × Nat × Nat) : Bool := match vx_cn[q.1]?, vx_sn[q.2.2.1]? with
  | some o, some y => vx_at q.2.2.2 (.methodLink o q.2.1 y)
  | _, _ => false
set_option maxRecDepth 100000 in
theorem vx_ml_ok : vx_ml.all vx_mw = true := by decide +kernel
set_option maxRecDepth 100000 in
theorem vx_mn_ok : vx_mn.all vx_mw2 = true := by decide +kernel
set_option maxRecDepth 100000 in
theorem vx_ms_ok : vx_ms.all vx_mw3 = true := by decide +kernel
theorem vx_oi : Cond.instanceMethod objectInit ∈ vx_TB ∧ Cond.code objectInit ⟨#[0xb1]⟩ 1 none ∈ vx_TB := ⟨vx_at_mem (i := 84) (by decide +kernel), vx_at_mem (i := 85) (by decide +kernel)⟩
theorem vx_ac : Cond.native arraycopyName ∈ vx_TB ∧ Cond.static arraycopyName ∈ vx_TB ∧ Cond.initialized "java/lang/System" ∈ vx_TB := ⟨vx_at_mem (i := 451) (by decide +kernel), vx_at_mem (i := 450) (by decide +kernel), vx_at_mem (i := 76) (by decide +kernel)⟩
theorem vx_min : Cond.static Lib.Math.min.name ∈ vx_TB ∧ Cond.initialized "java/lang/Math" ∈ vx_TB ∧ Cond.code Lib.Math.min.name Lib.Math.min.code 2 (some .int) ∈ vx_TB := ⟨vx_at_mem (i := 115) (by decide +kernel), vx_at_mem (i := 69) (by decide +kernel), vx_at_mem (i := 116) (by decide +kernel)⟩
theorem vx_max : Cond.static Lib.Math.max.name ∈ vx_TB ∧ Cond.initialized "java/lang/Math" ∈ vx_TB ∧ Cond.code Lib.Math.max.name Lib.Math.max.code 2 (some .int) ∈ vx_TB := ⟨vx_at_mem (i := 342) (by decide +kernel), vx_at_mem (i := 69) (by decide +kernel), vx_at_mem (i := 343) (by decide +kernel)⟩
theorem vx_abs : Cond.static Lib.Math.abs.name ∈ vx_TB ∧ Cond.initialized "java/lang/Math" ∈ vx_TB ∧ Cond.code Lib.Math.abs.name Lib.Math.abs.code 1 (some .int) ∈ vx_TB := ⟨vx_at_mem (i := 575) (by decide +kernel), vx_at_mem (i := 69) (by decide +kernel), vx_at_mem (i := 576) (by decide +kernel)⟩
theorem vx_ac1 : Cond.arrayClass .int ∈ vx_TB := vx_at_mem (i := 141) (by decide +kernel)
/-- class links: own class, entry, class, place -/
def vx_kc : List (Nat × Nat × Nat × Nat) := [(6, 11, 1, 86), (6, 17, 2, 88), (6, 24, 3, 108), (6, 39, 0, 142), (6, 46, 4, 161), (6, 53, 5, 191), (8, 7, 6, 78), (8, 10, 7, 681)]
def vx_kw (q : Nat × Nat × Nat × Nat) : Bool := match vx_cn[q.1]?, vx_cn[q.2.2.1]? with
  | some o, some y => vx_at q.2.2.2 (.classLink o q.2.1 y)
  | _, _ => false
set_option maxRecDepth 100000 in
theorem vx_kc_ok : vx_kc.all vx_kw = true := by decide +kernel
def vx_ki : List (Nat × Nat × Int32 × Nat) := [(9, 265, 1431655765, 537), (9, 266, 858993459, 538), (9, 267, 252645135, 539)]
def vx_kl : List (Nat × Nat × Int64 × Nat) := [(6, 195, -9223372036854775808, 605), (7, 71, -9223372036854775808, 1030)]
def vx_iw (q : Nat × Nat × Int32 × Nat) : Bool := match vx_cn[q.1]? with
  | some o => vx_at q.2.2.2 (.constant o q.2.1 q.2.2.1)
  | _ => false
def vx_lw (q : Nat × Nat × Int64 × Nat) : Bool := match vx_cn[q.1]? with
  | some o => vx_at q.2.2.2 (.constantLong o q.2.1 q.2.2.1)
  | _ => false
theorem vx_ki_ok : vx_ki.all vx_iw = true := by decide +kernel
theorem vx_kl_ok : vx_kl.all vx_lw = true := by decide +kernel
end
section
/-! the abstract machine: cells by number, a step per instruction, and what its truth says of the machine -/
abbrev vx_C : Type := (Nat × (Nat → Int32)) ⊕ ((Nat × (Nat → Option Nat)) ⊕ (Nat × List Value))
abbrev vx_H : Type := Nat → Option vx_C
abbrev vx_L : Type := List (Option Value)
abbrev vx_Z : Type := Nat × Nat
abbrev vx_I : Type := Instr × Nat × Nat × Nat × Value × List (Int32 × Nat)
abbrev vx_K : Type := vx_L → List Value → vx_Z → vx_H → Prop
abbrev vx_ia (n : Nat) (f : Nat → Int32) : vx_C := Sum.inl (n, f)
abbrev vx_ra (n : Nat) (f : Nat → Option Nat) : vx_C := Sum.inr (Sum.inl (n, f))
abbrev vx_ob (c : Nat) (fs : List Value) : vx_C := Sum.inr (Sum.inr (c, fs))
def vx_up (h : vx_H) (k : Nat) (c : vx_C) : vx_H := fun j => if j = k then some c else h j
theorem vx_up_s (h : vx_H) (k : Nat) (c : vx_C) : vx_up h k c k = some c := if_pos rfl
theorem vx_up_n (h : vx_H) {k j : Nat} (c : vx_C) (hn : j ≠ k) : vx_up h k c j = h j := if_neg hn
theorem vx_up_up (h : vx_H) (k : Nat) (c d : vx_C) : vx_up (vx_up h k c) k d = vx_up h k d := by
  funext j
  by_cases hj : j = k <;> simp [vx_up, hj]
/-! what numbers stand for -/
def vx_v (base b : Nat) : Value → Value
  | .ref k => .ref (base + k)
  | .float _ => .ref b
  | v => v
def vx_e (base b : Nat) (cI cS : ClassId) : vx_C → va_E
  | .inl (n, f) => .inl (cI, n, .inl f)
  | .inr (.inl (n, f)) => .inl (cS, n, .inr (.inr (.inr (.inr (fun j => (f j).map (base + ·))))))
  | .inr (.inr (c, fs)) => .inr (c, fs.map (vx_v base b))
def vx_w (base b : Nat) (cI cS : ClassId) (sz : Nat) (h : vx_H) : va_W := (List.range sz).map (fun k => (base + k, vx_e base b cI cS ((h k).getD (.inl (0, fun _ => 0)))))
theorem vx_w_get {base b : Nat} {cI cS : ClassId} {sz : Nat} {h : vx_H} {k : Nat} {e : vx_C} (hk : k < sz) (he : h k = some e) : (vx_w base b cI cS sz h)[k]? = some (base + k, vx_e base b cI cS e) := by
  simp [vx_w, hk, he]
theorem vx_w_set {base b : Nat} {cI cS : ClassId} {sz : Nat} {h : vx_H} {k : Nat} {e : vx_C} (hk : k < sz) : (vx_w base b cI cS sz h).set k (base + k, vx_e base b cI cS e) = vx_w base b cI cS sz (vx_up h k e) := by
  apply List.ext_getElem?
  intro j
  by_cases hj : j = k
  · subst hj
    simp [vx_w, hk, vx_up]
  · rw [List.getElem?_set_ne (Ne.symm hj)]
    by_cases hl : j < sz
    · simp [vx_w, vx_up, hj, hl]
    · simp [vx_w, hl]
theorem vx_w_push {base b : Nat} {cI cS : ClassId} {sz : Nat} {h : vx_H} {e : vx_C} : vx_w base b cI cS sz h ++ [(base + sz, vx_e base b cI cS e)] = vx_w base b cI cS (sz + 1) (vx_up h sz e) := by
  unfold vx_w
  rw [List.range_succ, List.map_append]
  congr 1
  · apply List.map_congr_left
    intro k hk
    have : k ≠ sz := by have := List.mem_range.mp hk; omega
    simp [vx_up, this]
  · simp [vx_up]
theorem vx_w_D (base b : Nat) (cI cS : ClassId) (sz : Nat) (h : vx_H) : va_D (fun q => base ≤ q) (vx_w base b cI cS sz h) := by
  refine ⟨fun i j x y hi hj hxy => ?_, fun k q hk => ?_⟩
  · simp only [vx_w, List.getElem?_map, Option.map_eq_some_iff] at hi hj
    obtain ⟨i', hi1, rfl⟩ := hi
    obtain ⟨j', hj1, rfl⟩ := hj
    have e1 := (List.getElem?_eq_some_iff.mp hi1).2
    have e2 := (List.getElem?_eq_some_iff.mp hj1).2
    simp at e1 e2
    simp at hxy
    omega
  · simp only [vx_w, List.getElem?_map, Option.map_eq_some_iff] at hk
    obtain ⟨k', _, rfl⟩ := hk
    simp
theorem vx_v_cat (base b : Nat) (v : Value) : (vx_v base b v).category = v.category := by cases v <;> rfl
def vx_sel : List (Int32 × Nat) → Nat → Int32 → Nat
  | [], d, _ => d
  | (k, t) :: r, d, x => if x = k then t else vx_sel r d x
def vx_nl (L : vx_L) (a : Nat) : Prop := match a with
  | 0 => True
  | j + 1 => match L[j]? with
    | some (some (.long _)) => False
    | some (some (.double _)) => False
    | _ => True
/-- the fields of a new object -/
def vx_df (ci : Nat) : List Value := match vx_cl[ci]? with
  | some q => (List.range q.2.2).map (fun j => defaultValue (vx_ty ci j))
  | none => []
def vx_isob (c : Option vx_C) (ci : Nat) : Prop := match c with
  | some (.inr (.inr (d, _))) => d = ci
  | _ => False
/-! contracts -/
def vx_NW (U : State) : Prop :=
  (∀ q ∈ vx_fn, ∀ (o : String) (c : vw_C), vx_cn[q.1]? = some o → vx_cl[q.2.2.1]? = some c → va_Nw (.fieldLinkNest o q.2.1 (c.2.1 q.2.2.2.1).1 (c.2.1 q.2.2.2.1).2.1 (c.2.1 q.2.2.2.1).2.2.1 "VoteWalls") U) ∧
  (∀ q ∈ vx_mn, ∀ (o : String) (M : vx_M), vx_cn[q.1]? = some o → vx_mt[q.2.2.1]? = some M → va_Nw (.methodLinkNest o q.2.1 M.1 "VoteWalls") U) ∧ va_AO RX1 U
theorem vx_NW.warm {s U : State} (hW : s.WarmedH U.vm) (h : vx_NW s) : vx_NW U :=
  ⟨fun q hq o c h1 h2 => va_Nw.warmF hW (h.1 q hq o c h1 h2), fun q hq o M h1 h2 => va_Nw.warmM hW (h.2.1 q hq o M h1 h2), va_AO.moved hW.alike h.2.2⟩
theorem vx_NW.same {u U : State} (e : u.vm = U.vm) (h : vx_NW u) : vx_NW U :=
  ⟨fun q hq o c h1 h2 => va_Nw.same rfl e (h.1 q hq o c h1 h2), fun q hq o M h1 h2 => va_Nw.same rfl e (h.2.1 q hq o M h1 h2), va_AO.moved (by rw [e]; exact Vm.Alike.refl _) h.2.2⟩
abbrev vx_tys (cI cS : ClassId) : List (ClassId × FieldType) := [(cI, .int), (cS, .object RX1)]
def vx_Pc (base b : Nat) (cI cS : ClassId) (D : va_G) (As : List Value) (sz : Nat) (h : vx_H) : Array Value → State → Prop := fun v U =>
  v = (As.map (vx_v base b)).toArray ∧ U.heap.size = base + sz ∧ (∀ k, (h k).isSome = true ↔ k < sz) ∧ va_P D vx_cl (vx_w base b cI cS sz h) U.heap ∧ va_K D vx_cl (vx_tys cI cS) U ∧ vx_NW U
def vx_Qc (base b : Nat) (cI cS : ClassId) (D : va_G) (sz : Nat) (P : Option Value → vx_H → Prop) : Array Value → State → Outcome → State → Prop := fun _ st oc t =>
  (∃ (r : Option Value) (h : vx_H), P r h ∧ oc = .returned (r.map (vx_v base b)) ∧ (∀ k, (h k).isSome = true ↔ k < sz) ∧ va_P D vx_cl (vx_w base b cI cS sz h) t.heap) ∧ va_F (fun q => base ≤ q) st t
def vx_Ok (n : Nat) (As : List Value) (sz : Nat) (h : vx_H) (P : Option Value → vx_H → Prop) : Prop :=
  ∀ M : vx_M, vx_mt[n]? = some M → ∀ (l : Launch) (base b : Nat) (cI cS : ClassId) (D : va_G),
    Met l M.1 (.code M.1 M.2.1 M.2.2.1 M.2.2.2.1 :: vx_TB) { frames := M.2.2.2.2.1, cells := M.2.2.2.2.2.1, slots := M.2.2.2.2.2.2.1, locals := 40 * M.2.2.2.2.1 } (vx_Pc base b cI cS D As sz h) (vx_Qc base b cI cS D (sz + M.2.2.2.2.2.1) P) M.2.2.2.2.2.1 M.2.2.2.2.2.2.1 (fun q => base ≤ q)
theorem vx_Pc.blind (base b : Nat) (cI cS : ClassId) (D : va_G) (As : List Value) (sz : Nat) (h : vx_H) : FrameBlind (vx_Pc base b cI cS D As sz h) := by
  intro a U g mk q
  obtain ⟨q0, q1, q2, q3, q4, q5⟩ := q
  exact ⟨q0, q1, q2, q3, va_K.moved (u := U) (U := U.calling g mk a) (Vm.Alike.refl U.vm) q4, vx_NW.same (u := U) (U := U.calling g mk a) rfl q5⟩
/-! the step -/
def vx_st (sc : Option (Nat × (Nat → Int32))) (lim : vx_Z) (it : vx_I) (L : vx_L) (S : List Value) (z : vx_Z) (h : vx_H) (J : Nat → vx_K) (Q : Option Value → vx_Z → vx_H → Prop) (k : vx_K) : Prop :=
  match it with
  | (i, _, a, b, v, ps) =>
    match i with
    | .iconst _ => k L (v :: S) z h
    | .bipush _ => k L (v :: S) z h
    | .sipush _ => k L (v :: S) z h
    | .lconst _ => k L (v :: S) z h
    | .ldc_w _ => k L (v :: S) z h
    | .ldc2_w _ => k L (v :: S) z h
    | .iload _ => match L[a]? with | some (some (.int x)) => k L (.int x :: S) z h | _ => False
    | .iload_n _ => match L[a]? with | some (some (.int x)) => k L (.int x :: S) z h | _ => False
    | .lload _ => match L[a]? with | some (some (.long x)) => k L (.long x :: S) z h | _ => False
    | .lload_n _ => match L[a]? with | some (some (.long x)) => k L (.long x :: S) z h | _ => False
    | .aload _ => match L[a]? with | some (some (.ref x)) => k L (.ref x :: S) z h | some (some (.float x)) => k L (.float x :: S) z h | _ => False
    | .aload_n _ => match L[a]? with | some (some (.ref x)) => k L (.ref x :: S) z h | some (some (.float x)) => k L (.float x :: S) z h | _ => False
    | .istore _ => match S with | .int x :: S => vx_nl L a ∧ k (L.set a (some (.int x))) S z h | _ => False
    | .istore_n _ => match S with | .int x :: S => vx_nl L a ∧ k (L.set a (some (.int x))) S z h | _ => False
    | .astore _ => match S with | .ref x :: S => vx_nl L a ∧ k (L.set a (some (.ref x))) S z h | _ => False
    | .astore_n _ => match S with | .ref x :: S => vx_nl L a ∧ k (L.set a (some (.ref x))) S z h | _ => False
    | .lstore _ => match S with | .long x :: S => vx_nl L a ∧ k ((L.set a (some (.long x))).set (a + 1) none) S z h | _ => False
    | .iinc _ _ => match L[a]?, v with | some (some (.int x)), .int c => vx_nl L a ∧ k (L.set a (some (.int (x + c)))) S z h | _, _ => False
    | .iadd => match S with | .int y :: .int x :: S => k L (.int (x + y) :: S) z h | _ => False
    | .isub => match S with | .int y :: .int x :: S => k L (.int (x - y) :: S) z h | _ => False
    | .imul => match S with | .int y :: .int x :: S => k L (.int (x * y) :: S) z h | _ => False
    | .iand => match S with | .int y :: .int x :: S => k L (.int (x &&& y) :: S) z h | _ => False
    | .ior => match S with | .int y :: .int x :: S => k L (.int (x ||| y) :: S) z h | _ => False
    | .ishl => match S with | .int y :: .int x :: S => k L (.int (x <<< (y &&& 31)) :: S) z h | _ => False
    | .ishr => match S with | .int y :: .int x :: S => k L (.int (x >>> (y &&& 31)) :: S) z h | _ => False
    | .iushr => match S with | .int y :: .int x :: S => k L (.int ((x.toUInt32 >>> (y.toUInt32 &&& Int32.toUInt32 31)).toInt32) :: S) z h | _ => False
    | .idiv => match S with | .int y :: .int x :: S => ¬ y = 0 ∧ k L (.int (x / y) :: S) z h | _ => False
    | .irem => match S with | .int y :: .int x :: S => ¬ y = 0 ∧ k L (.int (x - x / y * y) :: S) z h | _ => False
    | .ineg => match S with | .int x :: S => k L (.int (-x) :: S) z h | _ => False
    | .ldiv => match S with | .long y :: .long x :: S => ¬ y = 0 ∧ k L (.long (x / y) :: S) z h | _ => False
    | .lrem => match S with | .long y :: .long x :: S => ¬ y = 0 ∧ k L (.long (x - x / y * y) :: S) z h | _ => False
    | .lshl => match S with | .int y :: .long x :: S => k L (.long (x <<< (y.toInt64 &&& 63)) :: S) z h | _ => False
    | .lcmp => match S with | .long y :: .long x :: S => k L (.int (lg_cmp x y) :: S) z h | _ => False
    | .i2l => match S with | .int x :: S => k L (.long x.toInt64 :: S) z h | _ => False
    | .i2b => match S with | .int x :: S => k L (.int x.toInt8.toInt32 :: S) z h | _ => False
    | .i2s => match S with | .int x :: S => k L (.int x.toInt16.toInt32 :: S) z h | _ => False
    | .dup => match S with | .int x :: S => k L (.int x :: .int x :: S) z h | .ref x :: S => k L (.ref x :: .ref x :: S) z h | _ => False
    | .dup2 => match S with | .int y :: .ref x :: S => k L (.int y :: .ref x :: .int y :: .ref x :: S) z h | _ => False
    | .ifCond .eq _ => match S with | .int x :: S => (x = 0 → J a L S z h) ∧ (¬ x = 0 → k L S z h) | _ => False
    | .ifCond .ne _ => match S with | .int x :: S => (¬ x = 0 → J a L S z h) ∧ (x = 0 → k L S z h) | _ => False
    | .ifCond .lt _ => match S with | .int x :: S => (x < 0 → J a L S z h) ∧ (¬ x < 0 → k L S z h) | _ => False
    | .ifCond .ge _ => match S with | .int x :: S => (0 ≤ x → J a L S z h) ∧ (¬ 0 ≤ x → k L S z h) | _ => False
    | .ifCond .gt _ => match S with | .int x :: S => (0 < x → J a L S z h) ∧ (¬ 0 < x → k L S z h) | _ => False
    | .ifCond .le _ => match S with | .int x :: S => (x ≤ 0 → J a L S z h) ∧ (¬ x ≤ 0 → k L S z h) | _ => False
    | .if_icmp .eq _ => match S with | .int y :: .int x :: S => (x = y → J a L S z h) ∧ (¬ x = y → k L S z h) | _ => False
    | .if_icmp .ne _ => match S with | .int y :: .int x :: S => (¬ x = y → J a L S z h) ∧ (x = y → k L S z h) | _ => False
    | .if_icmp .lt _ => match S with | .int y :: .int x :: S => (x < y → J a L S z h) ∧ (¬ x < y → k L S z h) | _ => False
    | .if_icmp .ge _ => match S with | .int y :: .int x :: S => (y ≤ x → J a L S z h) ∧ (¬ y ≤ x → k L S z h) | _ => False
    | .if_icmp .gt _ => match S with | .int y :: .int x :: S => (y < x → J a L S z h) ∧ (¬ y < x → k L S z h) | _ => False
    | .if_icmp .le _ => match S with | .int y :: .int x :: S => (x ≤ y → J a L S z h) ∧ (¬ x ≤ y → k L S z h) | _ => False
    | .ifnull _ => match S with | .ref _ :: S => k L S z h | .null :: S => J a L S z h | _ => False
    | .goto _ => J a L S z h
    | .tableswitch _ _ _ _ => match S with | .int x :: S => J (vx_sel ps a x) L S z h | _ => False
    | .lookupswitch _ _ => match S with | .int x :: S => J (vx_sel ps a x) L S z h | _ => False
    | .getfield _ => match S with
      | .ref x :: S => match h x with
        | some (.inr (.inr (c, fs))) => c = a ∧ (match fs[b]? with | some v => k L (v :: S) z h | none => False)
        | _ => False
      | _ => False
    | .putfield _ => match v with
      | .int _ => match S with
        | .int y :: .ref x :: S => match h x with
          | some (.inr (.inr (c, fs))) => c = a ∧ b < fs.length ∧ k L S z (vx_up h x (.inr (.inr (c, fs.set b (.int y)))))
          | _ => False
        | _ => False
      | .long _ => match S with
        | .int y :: .ref x :: S => match h x with
          | some (.inr (.inr (c, fs))) => c = a ∧ b < fs.length ∧ (y = 0 ∨ y = 1) ∧ k L S z (vx_up h x (.inr (.inr (c, fs.set b (.int y)))))
          | _ => False
        | _ => False
      | .null => match S with
        | .ref y :: .ref x :: S => match h x with
          | some (.inr (.inr (c, fs))) => c = a ∧ b < fs.length ∧ k L S z (vx_up h x (.inr (.inr (c, fs.set b (.ref y)))))
          | _ => False
        | _ => False
      | _ => False
    | .new _ => z.1 + 1 ≤ lim.1 ∧ z.2 + b ≤ lim.2 ∧ k L (.ref z.1 :: S) (z.1 + 1, z.2 + b) (vx_up h z.1 (.inr (.inr (a, vx_df a))))
    | .newarray _ => match S with
      | .int n :: S => n = Int32.ofNat b ∧ b ≤ 100000 ∧ z.1 + 1 ≤ lim.1 ∧ z.2 + b ≤ lim.2 ∧ k L (.ref z.1 :: S) (z.1 + 1, z.2 + b) (vx_up h z.1 (.inl (b, fun _ => 0)))
      | _ => False
    | .anewarray _ => match S with
      | .int n :: S => n = Int32.ofNat b ∧ b ≤ 100000 ∧ z.1 + 1 ≤ lim.1 ∧ z.2 + b ≤ lim.2 ∧ k L (.ref z.1 :: S) (z.1 + 1, z.2 + b) (vx_up h z.1 (.inr (.inl (b, fun _ => none))))
      | _ => False
    | .iaload => match S with
      | .int j :: .ref x :: S => match h x with
        | some (.inl (n, f)) => vp_in j n ∧ k L (.int (f j.toNatClampNeg) :: S) z h
        | _ => False
      | .int j :: .float _ :: S => match sc with
        | some q => vp_in j q.1 ∧ k L (.int (q.2 j.toNatClampNeg) :: S) z h
        | none => False
      | _ => False
    | .iastore => match S with
      | .int y :: .int j :: .ref x :: S => match h x with
        | some (.inl (n, f)) => vp_in j n ∧ k L S z (vx_up h x (.inl (n, upd f j.toNatClampNeg y)))
        | _ => False
      | _ => False
    | .aaload => match S with
      | .int j :: .ref x :: S => match h x with
        | some (.inr (.inl (n, f))) => vp_in j n ∧ (match f j.toNatClampNeg with | some y => k L (.ref y :: S) z h | none => False)
        | _ => False
      | _ => False
    | .aastore => match S with
      | .ref y :: .int j :: .ref x :: S => match h x with
        | some (.inr (.inl (n, f))) => vp_in j n ∧ vx_isob (h y) 1 ∧ k L S z (vx_up h x (.inr (.inl (n, va_up f j.toNatClampNeg (some y)))))
        | _ => False
      | _ => False
    | .arraylength => match S with
      | .ref x :: S => match h x with
        | some (.inl (n, _)) => k L (.int (Int32.ofNat n) :: S) z h
        | _ => False
      | .float _ :: S => match sc with
        | some q => k L (.int (Int32.ofNat q.1) :: S) z h
        | none => False
      | _ => False
    | .invokevirtual _ => match (S.take (b + 1)).reverse with
      | .ref x :: As => As.length = b ∧ (S.drop (b + 1)).length ≤ 4 ∧ vx_isob (h x) ps.length ∧ ∃ P, vx_Ok a (.ref x :: As) z.1 h P ∧ ∀ r h', P r h' → k L (r.toList ++ S.drop (b + 1)) z h'
      | _ => False
    | .invokestatic _ => match v with
      | .int _ => match S with
        | .int n :: .int dp :: .ref y :: .int sp :: .ref x :: S => match h x, h y with
          | some (.inl (n0, f)), some (.inl (n1, g)) => S.length ≤ 4 ∧ ¬ sp < 0 ∧ ¬ dp < 0 ∧ ¬ n < 0 ∧ sp.toNatClampNeg + n.toNatClampNeg ≤ n0 ∧ dp.toNatClampNeg + n.toNatClampNeg ≤ n1 ∧ k L S z (vx_up h y (.inl (n1, va_cpy f g sp.toNatClampNeg dp.toNatClampNeg n.toNatClampNeg)))
          | _, _ => False
        | _ => False
      | .long _ => match S with
        | .int y :: .int x :: S => S.length ≤ 4 ∧ k L (.int (if y < x then y else x) :: S) z h
        | _ => False
      | .float _ => match S with
        | .int y :: .int x :: S => S.length ≤ 4 ∧ k L (.int (if x < y then y else x) :: S) z h
        | _ => False
      | .double _ => match S with
        | .int x :: S => S.length ≤ 4 ∧ k L (.int (if 0 ≤ x then x else 0 - x) :: S) z h
        | _ => False
      | _ => (S.take b).length = b ∧ (S.drop b).length ≤ 4 ∧ ∃ P, vx_Ok a (S.take b).reverse z.1 h P ∧ ∀ r h', P r h' → k L (r.toList ++ S.drop b) z h'
    | .invokespecial _ => match v with
      | .int _ => match S with
        | .ref _ :: S => S.length ≤ 4 ∧ k L S z h
        | _ => False
      | _ => match (S.take (b + 1)).reverse with
        | .ref x :: As => As.length = b ∧ (S.drop (b + 1)).length ≤ 4 ∧ z.1 + (ps.map (·.2)).headD 0 ≤ lim.1 ∧ z.2 + ((ps.map (·.2)).getLastD 0) ≤ lim.2 ∧ ∃ P, vx_Ok a (.ref x :: As) z.1 h P ∧ ∀ r h', P r h' → k L (r.toList ++ S.drop (b + 1)) (z.1 + (ps.map (·.2)).headD 0, z.2 + (ps.map (·.2)).getLastD 0) h'
        | _ => False
    | .ireturn => match S with | [.int x] => (a = 1 → x = 0 ∨ x = 1) ∧ Q (some (.int x)) z h | _ => False
    | .lreturn => match S with | [.long x] => Q (some (.long x)) z h | _ => False
    | .return_ => match S with | [] => Q none z h | _ => False
    | _ => False
def vx_b (sc : Option (Nat × (Nat → Int32))) (lim : vx_Z) (J : Nat → vx_K) (Q : Option Value → vx_Z → vx_H → Prop) : Nat → List vx_I → vx_K
  | pc, [] => J pc
  | pc, it :: is => fun L S z h => vx_st sc lim it L S z h J Q (vx_b sc lim J Q (pc + it.2.1) is)
end
section
/-! the step is sound -/
def vx_RL (base b nL : Nat) (L : vx_L) (ls : Array Slot) : Prop := L.length = nL ∧ ls.size = nL ∧ lv_wf ls ∧ ∀ (i : Nat) (v : Value), L[i]? = some (some v) → ls[i]? = some (.val (vx_v base b v))
/-- the listed locals -/
def vx_as (base b : Nat) (L : vx_L) : List (Nat × Value) := (List.range L.length).filterMap (fun i => (L[i]?).join.map (fun v => (i, vx_v base b v)))
theorem vx_as_mem {base b : Nat} {L : vx_L} {q : Nat × Value} : q ∈ vx_as base b L ↔ ∃ v, L[q.1]? = some (some v) ∧ q.2 = vx_v base b v := by
  unfold vx_as
  rw [List.mem_filterMap]
  constructor
  · rintro ⟨i, hi, h⟩
    rw [Option.map_eq_some_iff] at h
    obtain ⟨v, h1, rfl⟩ := h
    refine ⟨v, ?_, rfl⟩
    cases hL : L[i]? with
    | none => rw [hL] at h1; cases h1
    | some x => rw [hL] at h1; simp at h1; simp [h1]
  · rintro ⟨v, h1, h2⟩
    refine ⟨q.1, List.mem_range.mpr (List.getElem?_eq_some_iff.mp h1).1, ?_⟩
    rw [h1]
    simp [← h2]
theorem vx_RL.has {base b nL : Nat} {L : vx_L} {ls : Array Slot} (h : vx_RL base b nL L ls) : lv_has ls nL (vx_as base b L) := by
  refine ⟨h.2.1, h.2.2.1, fun q hq => ?_⟩
  obtain ⟨v, h1, h2⟩ := vx_as_mem.mp hq
  rw [h2]
  exact h.2.2.2 q.1 v h1
theorem vx_nl_use {L : vx_L} {a j : Nat} {w : Value} (h : vx_nl L a) (hj : a = j + 1) (e : L[j]? = some (some w)) : w.category ≠ 2 := by
  subst hj
  cases w <;> simp [vx_nl, e, Value.category] at h ⊢
theorem vx_RL.set {base b nL : Nat} {L : vx_L} {ls ls' : Array Slot} {a : Nat} {v : Value} (h : vx_RL base b nL L ls) (hn : vx_nl L a)
    (h' : lv_has ls' nL ((a, vx_v base b v) :: (vx_as base b L).filter (fun q => !(q.1 == a) && !(q.1 + 1 == a && q.2.category == 2)))) : vx_RL base b nL (L.set a (some v)) ls' := by
  refine ⟨by rw [List.length_set]; exact h.1, h'.1, h'.2.1, fun i w hi => ?_⟩
  by_cases e : i = a
  · subst e
    have hl : i < L.length := by
      have := (List.getElem?_eq_some_iff.mp hi).1
      simpa using this
    rw [List.getElem?_set_self hl] at hi
    cases hi
    exact h'.2.2 (i, vx_v base b v) List.mem_cons_self
  · rw [List.getElem?_set_ne (Ne.symm e)] at hi
    refine h'.2.2 (i, vx_v base b w) (List.mem_cons_of_mem _ (List.mem_filter.mpr ⟨vx_as_mem.mpr ⟨w, hi, rfl⟩, ?_⟩))
    simp only [Bool.and_eq_true, Bool.not_eq_true', beq_eq_false_iff_ne, ne_eq, Bool.and_eq_false_iff]
    refine ⟨e, ?_⟩
    by_cases e2 : i + 1 = a
    · right
      rw [vx_v_cat]
      exact vx_nl_use hn e2.symm hi
    · left; exact e2
theorem vx_RL.set2 {base b nL : Nat} {L : vx_L} {ls ls' : Array Slot} {a : Nat} {v : Value} (h : vx_RL base b nL L ls) (hn : vx_nl L a)
    (h' : lv_has ls' nL ((a, vx_v base b v) :: (vx_as base b L).filter (fun q => !(q.1 == a) && (!(q.1 == a + 1) && !(q.1 + 1 == a && q.2.category == 2))))) : vx_RL base b nL ((L.set a (some v)).set (a + 1) none) ls' := by
  refine ⟨by rw [List.length_set, List.length_set]; exact h.1, h'.1, h'.2.1, fun i w hi => ?_⟩
  by_cases e1 : i = a + 1
  · subst e1
    by_cases hl : a + 1 < (L.set a (some v)).length
    · rw [List.getElem?_set_self hl] at hi
      cases hi
    · rw [List.getElem?_eq_none (by rw [List.length_set]; omega)] at hi
      cases hi
  rw [List.getElem?_set_ne (Ne.symm e1)] at hi
  by_cases e : i = a
  · subst e
    have hl : i < L.length := by
      have := (List.getElem?_eq_some_iff.mp hi).1
      simpa using this
    rw [List.getElem?_set_self hl] at hi
    cases hi
    exact h'.2.2 (i, vx_v base b v) List.mem_cons_self
  · rw [List.getElem?_set_ne (Ne.symm e)] at hi
    refine h'.2.2 (i, vx_v base b w) (List.mem_cons_of_mem _ (List.mem_filter.mpr ⟨vx_as_mem.mpr ⟨w, hi, rfl⟩, ?_⟩))
    simp only [Bool.and_eq_true, Bool.not_eq_true', beq_eq_false_iff_ne, ne_eq, Bool.and_eq_false_iff]
    refine ⟨e, e1, ?_⟩
    by_cases e2 : i + 1 = a
    · right
      rw [vx_v_cat]
      exact vx_nl_use hn e2.symm hi
    · left; exact e2
/-! what stands at a point of a walk -/
section VXS
variable {p : Program} {l : Launch} {e : Env} {R : Room} {s : State} {m : MethodId} {args : Array Value} {below : List Frame} {meth : Method} {c : Code} {Qs : State → Prop}
def vx_In (s : State) (base b : Nat) (cI cS : ClassId) (D : va_G) (lim : vx_Z) (H : Heap) (locs : List Loc) (cells slots : Nat) (z : vx_Z) (h : vx_H) : Prop :=
  s.heap.size + cells = base + z.1 ∧ (slots = z.2 ∧ z.1 ≤ lim.1 ∧ z.2 ≤ lim.2) ∧ (∀ k, (h k).isSome = true ↔ k < z.1) ∧ va_P D vx_cl (vx_w base b cI cS z.1 h) H ∧ va_S (fun q => base ≤ q) s.heap H locs
/-- from every state that is as told the machine comes to its end -/
def vx_G (p : Program) (l : Launch) (e : Env) (R : Room) (s : State) (m : MethodId) (args : Array Value) (below : List Frame) (meth : Method) (c : Code) (Qs : State → Prop) (base b : Nat) (cI cS : ClassId) (D : va_G) (lim : vx_Z) (nL : Nat) (pc : Nat) (g : vx_K) : Prop :=
  ∀ (L : vx_L) (S : List Value) (z : vx_Z) (h : vx_H), g L S z h → ∀ (ls : Array Slot) (H : Heap) (locs : List Loc) (cells slots : Nat), vx_RL base b nL L ls → vx_In s base b cI cS D lim H locs cells slots z h →
    W p l e R s m args below meth c H locs cells slots Qs (F0 m pc ls (S.map (vx_v base b)))
/-- what stays the same during a walk -/
def vx_Fx (p : Program) (R : Room) (s : State) (m : MethodId) (args : Array Value) (meth : Method) (c : Code) (base b : Nat) (cI cS : ClassId) (D : va_G) (sc : Option (Nat × (Nat → Int32))) (lim : vx_Z) (cc : ByteArray) (ow : String) (nL lev : Nat) (isI : Bool) : Prop :=
  p.tables.exec = Jvm.exec ∧ c.code = cc ∧ c.maxLocals = nL ∧ s.vm.findClass ow = some m.cls ∧ (∀ w ∈ vx_TB, w.before args s = true) ∧ va_K D vx_cl (vx_tys cI cS) s ∧ vx_NW s ∧ base ≤ s.heap.size ∧
  lev ≤ R.frames ∧ 40 * lev ≤ R.locals ∧ base + lim.1 ≤ s.heap.size + R.cells ∧ lim.2 ≤ R.slots ∧ (isI = true → meth.name = "<init>") ∧ (∀ q, sc = some q → va_X b q.1 q.2 s s.heap ∧ b < base)
end VXS
end
section
/-! the step is sound, instruction by instruction (printed by wip/gensound.py) -/
section VXT
variable {p : Program} {l : Launch} {e : Env} {R : Room} {s : State} {m : MethodId} {args : Array Value} {below : List Frame} {meth : Method} {c : Code} {Qs : State → Prop}
variable {base b : Nat} {cI cS : ClassId} {D : va_G} {sc : Option (Nat × (Nat → Int32))} {lim : vx_Z} {cc : ByteArray} {ow : String} {nL lev : Nat} {isI : Bool} {pc ln a b' : Nat} {v : Value} {ps : List (Int32 × Nat)} {J : Nat → vx_K} {Q : Option Value → vx_Z → vx_H → Prop} {k : vx_K}

theorem vx_s_iconst (F : vx_Fx p R s m args meth c base b cI cS D sc lim cc ow nL lev isI) {n : Int} (hd : decode cc pc = .ok (.iconst n, ln)) (hln : ln = 1) (hv : v = .int (Int32.ofInt n)) (hk : vx_G p l e R s m args below meth c Qs base b cI cS D lim nL (pc + ln) k) : vx_G p l e R s m args below meth c Qs base b cI cS D lim nL pc (fun L S z h => vx_st sc lim (.iconst n, ln, a, b', v, ps) L S z h J Q k) := by
  subst hln; subst hv
  intro L S z h hst ls H locs cells slots hL hI
  exact lv_iconst F.1 F.2.1 hd rfl (hk _ _ _ _ hst ls H locs cells slots hL hI)
theorem vx_s_bipush (F : vx_Fx p R s m args meth c base b cI cS D sc lim cc ow nL lev isI) {n : Int} (hd : decode cc pc = .ok (.bipush n, ln)) (hln : ln = 2) (hv : v = .int (Int8.ofInt n).toInt32) (hk : vx_G p l e R s m args below meth c Qs base b cI cS D lim nL (pc + ln) k) : vx_G p l e R s m args below meth c Qs base b cI cS D lim nL pc (fun L S z h => vx_st sc lim (.bipush n, ln, a, b', v, ps) L S z h J Q k) := by
  subst hln; subst hv
  intro L S z h hst ls H locs cells slots hL hI
  exact lv_bipush F.1 F.2.1 hd rfl (hk _ _ _ _ hst ls H locs cells slots hL hI)
theorem vx_s_sipush (F : vx_Fx p R s m args meth c base b cI cS D sc lim cc ow nL lev isI) {n : Int} (hd : decode cc pc = .ok (.sipush n, ln)) (hln : ln = 3) (hv : v = .int (Int16.ofInt n).toInt32) (hk : vx_G p l e R s m args below meth c Qs base b cI cS D lim nL (pc + ln) k) : vx_G p l e R s m args below meth c Qs base b cI cS D lim nL pc (fun L S z h => vx_st sc lim (.sipush n, ln, a, b', v, ps) L S z h J Q k) := by
  subst hln; subst hv
  intro L S z h hst ls H locs cells slots hL hI
  exact lv_sipush F.1 F.2.1 hd rfl (hk _ _ _ _ hst ls H locs cells slots hL hI)
theorem vx_s_lconst (F : vx_Fx p R s m args meth c base b cI cS D sc lim cc ow nL lev isI) {n : Fin 2} (hd : decode cc pc = .ok (.lconst n, ln)) (hln : ln = 1) (hv : v = .long (Int64.ofNat n.val)) (hk : vx_G p l e R s m args below meth c Qs base b cI cS D lim nL (pc + ln) k) : vx_G p l e R s m args below meth c Qs base b cI cS D lim nL pc (fun L S z h => vx_st sc lim (.lconst n, ln, a, b', v, ps) L S z h J Q k) := by
  subst hln; subst hv
  intro L S z h hst ls H locs cells slots hL hI
  exact lv_lconst F.1 F.2.1 hd rfl (hk _ _ _ _ hst ls H locs cells slots hL hI)
theorem vx_s_iload (F : vx_Fx p R s m args meth c base b cI cS D sc lim cc ow nL lev isI) {i : Nat} (hd : decode cc pc = .ok (.iload i, ln)) (hln : ln = 2) (ha : a = i) (hk : vx_G p l e R s m args below meth c Qs base b cI cS D lim nL (pc + ln) k) : vx_G p l e R s m args below meth c Qs base b cI cS D lim nL pc (fun L S z h => vx_st sc lim (.iload i, ln, a, b', v, ps) L S z h J Q k) := by
  subst hln; subst ha
  intro L S z h hst ls H locs cells slots hL hI
  have hst : (match L[a]? with | some (some (.int x)) => k L (.int x :: S) z h | _ => False) := hst
  split at hst
  · rename_i x hx
    exact lv_iload F.1 F.2.1 hd (hL.2.2.2 _ _ hx) (hk _ _ _ _ hst ls H locs cells slots hL hI)
  · exact False.elim hst
theorem vx_s_iload_n (F : vx_Fx p R s m args meth c base b cI cS D sc lim cc ow nL lev isI) {i : Fin 4} (hd : decode cc pc = .ok (.iload_n i, ln)) (hln : ln = 1) (ha : i.val = a) (hk : vx_G p l e R s m args below meth c Qs base b cI cS D lim nL (pc + ln) k) : vx_G p l e R s m args below meth c Qs base b cI cS D lim nL pc (fun L S z h => vx_st sc lim (.iload_n i, ln, a, b', v, ps) L S z h J Q k) := by
  subst hln
  intro L S z h hst ls H locs cells slots hL hI
  have hst : (match L[a]? with | some (some (.int x)) => k L (.int x :: S) z h | _ => False) := hst
  split at hst
  · rename_i x hx
    exact lv_iload_n F.1 F.2.1 hd ha (hL.2.2.2 _ _ hx) (hk _ _ _ _ hst ls H locs cells slots hL hI)
  · exact False.elim hst
theorem vx_s_lload (F : vx_Fx p R s m args meth c base b cI cS D sc lim cc ow nL lev isI) {i : Nat} (hd : decode cc pc = .ok (.lload i, ln)) (hln : ln = 2) (ha : a = i) (hk : vx_G p l e R s m args below meth c Qs base b cI cS D lim nL (pc + ln) k) : vx_G p l e R s m args below meth c Qs base b cI cS D lim nL pc (fun L S z h => vx_st sc lim (.lload i, ln, a, b', v, ps) L S z h J Q k) := by
  subst hln; subst ha
  intro L S z h hst ls H locs cells slots hL hI
  have hst : (match L[a]? with | some (some (.long x)) => k L (.long x :: S) z h | _ => False) := hst
  split at hst
  · rename_i x hx
    exact lv_lload F.1 F.2.1 hd (hL.2.2.2 _ _ hx) (hk _ _ _ _ hst ls H locs cells slots hL hI)
  · exact False.elim hst
theorem vx_s_lload_n (F : vx_Fx p R s m args meth c base b cI cS D sc lim cc ow nL lev isI) {i : Fin 4} (hd : decode cc pc = .ok (.lload_n i, ln)) (hln : ln = 1) (ha : i.val = a) (hk : vx_G p l e R s m args below meth c Qs base b cI cS D lim nL (pc + ln) k) : vx_G p l e R s m args below meth c Qs base b cI cS D lim nL pc (fun L S z h => vx_st sc lim (.lload_n i, ln, a, b', v, ps) L S z h J Q k) := by
  subst hln
  intro L S z h hst ls H locs cells slots hL hI
  have hst : (match L[a]? with | some (some (.long x)) => k L (.long x :: S) z h | _ => False) := hst
  split at hst
  · rename_i x hx
    exact lv_lload_n F.1 F.2.1 hd ha (hL.2.2.2 _ _ hx) (hk _ _ _ _ hst ls H locs cells slots hL hI)
  · exact False.elim hst
theorem vx_s_aload (F : vx_Fx p R s m args meth c base b cI cS D sc lim cc ow nL lev isI) {i : Nat} (hd : decode cc pc = .ok (.aload i, ln)) (hln : ln = 2) (ha : a = i) (hk : vx_G p l e R s m args below meth c Qs base b cI cS D lim nL (pc + ln) k) : vx_G p l e R s m args below meth c Qs base b cI cS D lim nL pc (fun L S z h => vx_st sc lim (.aload i, ln, a, b', v, ps) L S z h J Q k) := by
  subst hln; subst ha
  intro L S z h hst ls H locs cells slots hL hI
  have hst : (match L[a]? with | some (some (.ref x)) => k L (.ref x :: S) z h | some (some (.float x)) => k L (.float x :: S) z h | _ => False) := hst
  split at hst
  · rename_i x hx
    exact lv_aload F.1 F.2.1 hd (hL.2.2.2 _ _ hx) (hk _ _ _ _ hst ls H locs cells slots hL hI)
  · rename_i x hx
    exact lv_aload F.1 F.2.1 hd (hL.2.2.2 _ _ hx) (hk _ _ _ _ hst ls H locs cells slots hL hI)
  · exact False.elim hst
theorem vx_s_aload_n (F : vx_Fx p R s m args meth c base b cI cS D sc lim cc ow nL lev isI) {i : Fin 4} (hd : decode cc pc = .ok (.aload_n i, ln)) (hln : ln = 1) (ha : i.val = a) (hk : vx_G p l e R s m args below meth c Qs base b cI cS D lim nL (pc + ln) k) : vx_G p l e R s m args below meth c Qs base b cI cS D lim nL pc (fun L S z h => vx_st sc lim (.aload_n i, ln, a, b', v, ps) L S z h J Q k) := by
  subst hln
  intro L S z h hst ls H locs cells slots hL hI
  have hst : (match L[a]? with | some (some (.ref x)) => k L (.ref x :: S) z h | some (some (.float x)) => k L (.float x :: S) z h | _ => False) := hst
  split at hst
  · rename_i x hx
    exact lv_aload_n F.1 F.2.1 hd ha (hL.2.2.2 _ _ hx) (hk _ _ _ _ hst ls H locs cells slots hL hI)
  · rename_i x hx
    exact lv_aload_n F.1 F.2.1 hd ha (hL.2.2.2 _ _ hx) (hk _ _ _ _ hst ls H locs cells slots hL hI)
  · exact False.elim hst
theorem vx_s_istore (F : vx_Fx p R s m args meth c base b cI cS D sc lim cc ow nL lev isI) {i : Nat} (hd : decode cc pc = .ok (.istore i, ln)) (hln : ln = 2) (ha : a = i) (hn : a < nL) (hk : vx_G p l e R s m args below meth c Qs base b cI cS D lim nL (pc + ln) k) : vx_G p l e R s m args below meth c Qs base b cI cS D lim nL pc (fun L S z h => vx_st sc lim (.istore i, ln, a, b', v, ps) L S z h J Q k) := by
  subst hln; subst ha
  intro L S z h hst ls H locs cells slots hL hI
  rcases S with _ | ⟨v1, S⟩
  · exact False.elim hst
  · cases v1 with
    | int x =>
      have hst : vx_nl L a ∧ k (L.set a (some (.int x))) S z h := hst
      exact lv_istore F.1 F.2.1 hd hL.has hn rfl (fun ls' h' => hk _ _ _ _ hst.2 ls' H locs cells slots (hL.set (v := .int x) hst.1 h') hI)
    | _ => exact False.elim hst
theorem vx_s_istore_n (F : vx_Fx p R s m args meth c base b cI cS D sc lim cc ow nL lev isI) {i : Fin 4} (hd : decode cc pc = .ok (.istore_n i, ln)) (hln : ln = 1) (ha : i.val = a) (hn : a < nL) (hk : vx_G p l e R s m args below meth c Qs base b cI cS D lim nL (pc + ln) k) : vx_G p l e R s m args below meth c Qs base b cI cS D lim nL pc (fun L S z h => vx_st sc lim (.istore_n i, ln, a, b', v, ps) L S z h J Q k) := by
  subst hln
  intro L S z h hst ls H locs cells slots hL hI
  rcases S with _ | ⟨v1, S⟩
  · exact False.elim hst
  · cases v1 with
    | int x =>
      have hst : vx_nl L a ∧ k (L.set a (some (.int x))) S z h := hst
      exact lv_istore_n F.1 F.2.1 hd ha hL.has hn rfl (fun ls' h' => hk _ _ _ _ hst.2 ls' H locs cells slots (hL.set (v := .int x) hst.1 h') hI)
    | _ => exact False.elim hst
theorem vx_s_astore (F : vx_Fx p R s m args meth c base b cI cS D sc lim cc ow nL lev isI) {i : Nat} (hd : decode cc pc = .ok (.astore i, ln)) (hln : ln = 2) (ha : a = i) (hn : a < nL) (hk : vx_G p l e R s m args below meth c Qs base b cI cS D lim nL (pc + ln) k) : vx_G p l e R s m args below meth c Qs base b cI cS D lim nL pc (fun L S z h => vx_st sc lim (.astore i, ln, a, b', v, ps) L S z h J Q k) := by
  subst hln; subst ha
  intro L S z h hst ls H locs cells slots hL hI
  rcases S with _ | ⟨v1, S⟩
  · exact False.elim hst
  · cases v1 with
    | ref x =>
      have hst : vx_nl L a ∧ k (L.set a (some (.ref x))) S z h := hst
      exact lv_astore F.1 F.2.1 hd hL.has hn rfl (fun ls' h' => hk _ _ _ _ hst.2 ls' H locs cells slots (hL.set (v := .ref x) hst.1 h') hI)
    | _ => exact False.elim hst
theorem vx_s_astore_n (F : vx_Fx p R s m args meth c base b cI cS D sc lim cc ow nL lev isI) {i : Fin 4} (hd : decode cc pc = .ok (.astore_n i, ln)) (hln : ln = 1) (ha : i.val = a) (hn : a < nL) (hk : vx_G p l e R s m args below meth c Qs base b cI cS D lim nL (pc + ln) k) : vx_G p l e R s m args below meth c Qs base b cI cS D lim nL pc (fun L S z h => vx_st sc lim (.astore_n i, ln, a, b', v, ps) L S z h J Q k) := by
  subst hln
  intro L S z h hst ls H locs cells slots hL hI
  rcases S with _ | ⟨v1, S⟩
  · exact False.elim hst
  · cases v1 with
    | ref x =>
      have hst : vx_nl L a ∧ k (L.set a (some (.ref x))) S z h := hst
      exact lv_astore_n F.1 F.2.1 hd ha hL.has hn rfl (fun ls' h' => hk _ _ _ _ hst.2 ls' H locs cells slots (hL.set (v := .ref x) hst.1 h') hI)
    | _ => exact False.elim hst
theorem vx_s_lstore (F : vx_Fx p R s m args meth c base b cI cS D sc lim cc ow nL lev isI) {i : Nat} (hd : decode cc pc = .ok (.lstore i, ln)) (hln : ln = 2) (ha : a = i) (hn : a + 1 < nL) (hk : vx_G p l e R s m args below meth c Qs base b cI cS D lim nL (pc + ln) k) : vx_G p l e R s m args below meth c Qs base b cI cS D lim nL pc (fun L S z h => vx_st sc lim (.lstore i, ln, a, b', v, ps) L S z h J Q k) := by
  subst hln; subst ha
  intro L S z h hst ls H locs cells slots hL hI
  rcases S with _ | ⟨v1, S⟩
  · exact False.elim hst
  · cases v1 with
    | long x =>
      have hst : vx_nl L a ∧ k ((L.set a (some (.long x))).set (a + 1) none) S z h := hst
      exact lv_lstore F.1 F.2.1 hd hL.has hn rfl (fun ls' h' => hk _ _ _ _ hst.2 ls' H locs cells slots (hL.set2 (v := .long x) hst.1 h') hI)
    | _ => exact False.elim hst
theorem vx_s_iinc (F : vx_Fx p R s m args meth c base b cI cS D sc lim cc ow nL lev isI) {i : Nat} {n : Int} (hd : decode cc pc = .ok (.iinc i n, ln)) (hln : ln = 3) (ha : a = i) (hn : a < nL) (hv : v = .int (Int32.ofInt n)) (hk : vx_G p l e R s m args below meth c Qs base b cI cS D lim nL (pc + ln) k) : vx_G p l e R s m args below meth c Qs base b cI cS D lim nL pc (fun L S z h => vx_st sc lim (.iinc i n, ln, a, b', v, ps) L S z h J Q k) := by
  subst hln; subst ha; subst hv
  intro L S z h hst ls H locs cells slots hL hI
  have hst : (match L[a]? with | some (some (.int x)) => vx_nl L a ∧ k (L.set a (some (.int (x + Int32.ofInt n)))) S z h | _ => False) := by
    have h2 := hst
    unfold vx_st at h2
    dsimp only at h2
    split at h2
    · rename_i h3 h4
      cases h4
      rw [h3]
      exact h2
    · exact False.elim h2
  split at hst
  · rename_i x hx
    obtain ⟨q, hq⟩ := List.getElem?_of_mem (vx_as_mem (base := base) (b := b) (q := (a, .int x)) |>.mpr ⟨_, hx, rfl⟩)
    exact lv_iinc F.1 F.2.1 hd hL.has hq rfl hn rfl (fun ls' h' => hk _ _ _ _ hst.2 ls' H locs cells slots (hL.set (v := .int (x + Int32.ofInt n)) hst.1 h') hI)
  · exact False.elim hst
theorem vx_s_iadd (F : vx_Fx p R s m args meth c base b cI cS D sc lim cc ow nL lev isI) (hd : decode cc pc = .ok (.iadd, ln)) (hln : ln = 1) (hk : vx_G p l e R s m args below meth c Qs base b cI cS D lim nL (pc + ln) k) : vx_G p l e R s m args below meth c Qs base b cI cS D lim nL pc (fun L S z h => vx_st sc lim (.iadd, ln, a, b', v, ps) L S z h J Q k) := by
  subst hln
  intro L S z h hst ls H locs cells slots hL hI
  rcases S with _ | ⟨v1, _ | ⟨v2, S⟩⟩
  · exact False.elim hst
  · cases v1 <;> exact False.elim hst
  · cases v1 with
    | int y => cases v2 with
      | int x =>
        have hst : k L (.int (x + y) :: S) z h := hst
        exact lv_iadd F.1 F.2.1 hd (hk _ _ _ _ hst ls H locs cells slots hL hI)
      | _ => exact False.elim hst
    | _ => exact False.elim hst
theorem vx_s_isub (F : vx_Fx p R s m args meth c base b cI cS D sc lim cc ow nL lev isI) (hd : decode cc pc = .ok (.isub, ln)) (hln : ln = 1) (hk : vx_G p l e R s m args below meth c Qs base b cI cS D lim nL (pc + ln) k) : vx_G p l e R s m args below meth c Qs base b cI cS D lim nL pc (fun L S z h => vx_st sc lim (.isub, ln, a, b', v, ps) L S z h J Q k) := by
  subst hln
  intro L S z h hst ls H locs cells slots hL hI
  rcases S with _ | ⟨v1, _ | ⟨v2, S⟩⟩
  · exact False.elim hst
  · cases v1 <;> exact False.elim hst
  · cases v1 with
    | int y => cases v2 with
      | int x =>
        have hst : k L (.int (x - y) :: S) z h := hst
        exact lv_isub F.1 F.2.1 hd (hk _ _ _ _ hst ls H locs cells slots hL hI)
      | _ => exact False.elim hst
    | _ => exact False.elim hst
theorem vx_s_imul (F : vx_Fx p R s m args meth c base b cI cS D sc lim cc ow nL lev isI) (hd : decode cc pc = .ok (.imul, ln)) (hln : ln = 1) (hk : vx_G p l e R s m args below meth c Qs base b cI cS D lim nL (pc + ln) k) : vx_G p l e R s m args below meth c Qs base b cI cS D lim nL pc (fun L S z h => vx_st sc lim (.imul, ln, a, b', v, ps) L S z h J Q k) := by
  subst hln
  intro L S z h hst ls H locs cells slots hL hI
  rcases S with _ | ⟨v1, _ | ⟨v2, S⟩⟩
  · exact False.elim hst
  · cases v1 <;> exact False.elim hst
  · cases v1 with
    | int y => cases v2 with
      | int x =>
        have hst : k L (.int (x * y) :: S) z h := hst
        exact lv_imul F.1 F.2.1 hd (hk _ _ _ _ hst ls H locs cells slots hL hI)
      | _ => exact False.elim hst
    | _ => exact False.elim hst
theorem vx_s_iand (F : vx_Fx p R s m args meth c base b cI cS D sc lim cc ow nL lev isI) (hd : decode cc pc = .ok (.iand, ln)) (hln : ln = 1) (hk : vx_G p l e R s m args below meth c Qs base b cI cS D lim nL (pc + ln) k) : vx_G p l e R s m args below meth c Qs base b cI cS D lim nL pc (fun L S z h => vx_st sc lim (.iand, ln, a, b', v, ps) L S z h J Q k) := by
  subst hln
  intro L S z h hst ls H locs cells slots hL hI
  rcases S with _ | ⟨v1, _ | ⟨v2, S⟩⟩
  · exact False.elim hst
  · cases v1 <;> exact False.elim hst
  · cases v1 with
    | int y => cases v2 with
      | int x =>
        have hst : k L (.int (x &&& y) :: S) z h := hst
        exact lv_iand F.1 F.2.1 hd (hk _ _ _ _ hst ls H locs cells slots hL hI)
      | _ => exact False.elim hst
    | _ => exact False.elim hst
theorem vx_s_ior (F : vx_Fx p R s m args meth c base b cI cS D sc lim cc ow nL lev isI) (hd : decode cc pc = .ok (.ior, ln)) (hln : ln = 1) (hk : vx_G p l e R s m args below meth c Qs base b cI cS D lim nL (pc + ln) k) : vx_G p l e R s m args below meth c Qs base b cI cS D lim nL pc (fun L S z h => vx_st sc lim (.ior, ln, a, b', v, ps) L S z h J Q k) := by
  subst hln
  intro L S z h hst ls H locs cells slots hL hI
  rcases S with _ | ⟨v1, _ | ⟨v2, S⟩⟩
  · exact False.elim hst
  · cases v1 <;> exact False.elim hst
  · cases v1 with
    | int y => cases v2 with
      | int x =>
        have hst : k L (.int (x ||| y) :: S) z h := hst
        exact lv_ior F.1 F.2.1 hd (hk _ _ _ _ hst ls H locs cells slots hL hI)
      | _ => exact False.elim hst
    | _ => exact False.elim hst
theorem vx_s_ishl (F : vx_Fx p R s m args meth c base b cI cS D sc lim cc ow nL lev isI) (hd : decode cc pc = .ok (.ishl, ln)) (hln : ln = 1) (hk : vx_G p l e R s m args below meth c Qs base b cI cS D lim nL (pc + ln) k) : vx_G p l e R s m args below meth c Qs base b cI cS D lim nL pc (fun L S z h => vx_st sc lim (.ishl, ln, a, b', v, ps) L S z h J Q k) := by
  subst hln
  intro L S z h hst ls H locs cells slots hL hI
  rcases S with _ | ⟨v1, _ | ⟨v2, S⟩⟩
  · exact False.elim hst
  · cases v1 <;> exact False.elim hst
  · cases v1 with
    | int y => cases v2 with
      | int x =>
        have hst : k L (.int (x <<< (y &&& 31)) :: S) z h := hst
        exact lv_ishl F.1 F.2.1 hd (hk _ _ _ _ hst ls H locs cells slots hL hI)
      | _ => exact False.elim hst
    | _ => exact False.elim hst
theorem vx_s_ishr (F : vx_Fx p R s m args meth c base b cI cS D sc lim cc ow nL lev isI) (hd : decode cc pc = .ok (.ishr, ln)) (hln : ln = 1) (hk : vx_G p l e R s m args below meth c Qs base b cI cS D lim nL (pc + ln) k) : vx_G p l e R s m args below meth c Qs base b cI cS D lim nL pc (fun L S z h => vx_st sc lim (.ishr, ln, a, b', v, ps) L S z h J Q k) := by
  subst hln
  intro L S z h hst ls H locs cells slots hL hI
  rcases S with _ | ⟨v1, _ | ⟨v2, S⟩⟩
  · exact False.elim hst
  · cases v1 <;> exact False.elim hst
  · cases v1 with
    | int y => cases v2 with
      | int x =>
        have hst : k L (.int (x >>> (y &&& 31)) :: S) z h := hst
        exact lv_ishr F.1 F.2.1 hd (hk _ _ _ _ hst ls H locs cells slots hL hI)
      | _ => exact False.elim hst
    | _ => exact False.elim hst
theorem vx_s_iushr (F : vx_Fx p R s m args meth c base b cI cS D sc lim cc ow nL lev isI) (hd : decode cc pc = .ok (.iushr, ln)) (hln : ln = 1) (hk : vx_G p l e R s m args below meth c Qs base b cI cS D lim nL (pc + ln) k) : vx_G p l e R s m args below meth c Qs base b cI cS D lim nL pc (fun L S z h => vx_st sc lim (.iushr, ln, a, b', v, ps) L S z h J Q k) := by
  subst hln
  intro L S z h hst ls H locs cells slots hL hI
  rcases S with _ | ⟨v1, _ | ⟨v2, S⟩⟩
  · exact False.elim hst
  · cases v1 <;> exact False.elim hst
  · cases v1 with
    | int y => cases v2 with
      | int x =>
        have hst : k L (.int ((x.toUInt32 >>> (y.toUInt32 &&& Int32.toUInt32 31)).toInt32) :: S) z h := hst
        exact lv_iushr F.1 F.2.1 hd rfl (hk _ _ _ _ hst ls H locs cells slots hL hI)
      | _ => exact False.elim hst
    | _ => exact False.elim hst
theorem vx_s_idiv (F : vx_Fx p R s m args meth c base b cI cS D sc lim cc ow nL lev isI) (hd : decode cc pc = .ok (.idiv, ln)) (hln : ln = 1) (hk : vx_G p l e R s m args below meth c Qs base b cI cS D lim nL (pc + ln) k) : vx_G p l e R s m args below meth c Qs base b cI cS D lim nL pc (fun L S z h => vx_st sc lim (.idiv, ln, a, b', v, ps) L S z h J Q k) := by
  subst hln
  intro L S z h hst ls H locs cells slots hL hI
  rcases S with _ | ⟨v1, _ | ⟨v2, S⟩⟩
  · exact False.elim hst
  · cases v1 <;> exact False.elim hst
  · cases v1 with
    | int y => cases v2 with
      | int x =>
        have hst : ¬ y = 0 ∧ k L (.int (x / y) :: S) z h := hst
        exact lv_idiv F.1 F.2.1 hd hst.1 (hk _ _ _ _ hst.2 ls H locs cells slots hL hI)
      | _ => exact False.elim hst
    | _ => exact False.elim hst
theorem vx_s_irem (F : vx_Fx p R s m args meth c base b cI cS D sc lim cc ow nL lev isI) (hd : decode cc pc = .ok (.irem, ln)) (hln : ln = 1) (hk : vx_G p l e R s m args below meth c Qs base b cI cS D lim nL (pc + ln) k) : vx_G p l e R s m args below meth c Qs base b cI cS D lim nL pc (fun L S z h => vx_st sc lim (.irem, ln, a, b', v, ps) L S z h J Q k) := by
  subst hln
  intro L S z h hst ls H locs cells slots hL hI
  rcases S with _ | ⟨v1, _ | ⟨v2, S⟩⟩
  · exact False.elim hst
  · cases v1 <;> exact False.elim hst
  · cases v1 with
    | int y => cases v2 with
      | int x =>
        have hst : ¬ y = 0 ∧ k L (.int (x - x / y * y) :: S) z h := hst
        exact lv_irem F.1 F.2.1 hd hst.1 (hk _ _ _ _ hst.2 ls H locs cells slots hL hI)
      | _ => exact False.elim hst
    | _ => exact False.elim hst
theorem vx_s_ldiv (F : vx_Fx p R s m args meth c base b cI cS D sc lim cc ow nL lev isI) (hd : decode cc pc = .ok (.ldiv, ln)) (hln : ln = 1) (hk : vx_G p l e R s m args below meth c Qs base b cI cS D lim nL (pc + ln) k) : vx_G p l e R s m args below meth c Qs base b cI cS D lim nL pc (fun L S z h => vx_st sc lim (.ldiv, ln, a, b', v, ps) L S z h J Q k) := by
  subst hln
  intro L S z h hst ls H locs cells slots hL hI
  rcases S with _ | ⟨v1, _ | ⟨v2, S⟩⟩
  · exact False.elim hst
  · cases v1 <;> exact False.elim hst
  · cases v1 with
    | long y => cases v2 with
      | long x =>
        have hst : ¬ y = 0 ∧ k L (.long (x / y) :: S) z h := hst
        exact lv_ldiv F.1 F.2.1 hd hst.1 (hk _ _ _ _ hst.2 ls H locs cells slots hL hI)
      | _ => exact False.elim hst
    | _ => exact False.elim hst
theorem vx_s_lrem (F : vx_Fx p R s m args meth c base b cI cS D sc lim cc ow nL lev isI) (hd : decode cc pc = .ok (.lrem, ln)) (hln : ln = 1) (hk : vx_G p l e R s m args below meth c Qs base b cI cS D lim nL (pc + ln) k) : vx_G p l e R s m args below meth c Qs base b cI cS D lim nL pc (fun L S z h => vx_st sc lim (.lrem, ln, a, b', v, ps) L S z h J Q k) := by
  subst hln
  intro L S z h hst ls H locs cells slots hL hI
  rcases S with _ | ⟨v1, _ | ⟨v2, S⟩⟩
  · exact False.elim hst
  · cases v1 <;> exact False.elim hst
  · cases v1 with
    | long y => cases v2 with
      | long x =>
        have hst : ¬ y = 0 ∧ k L (.long (x - x / y * y) :: S) z h := hst
        exact lv_lrem F.1 F.2.1 hd hst.1 (hk _ _ _ _ hst.2 ls H locs cells slots hL hI)
      | _ => exact False.elim hst
    | _ => exact False.elim hst
theorem vx_s_lshl (F : vx_Fx p R s m args meth c base b cI cS D sc lim cc ow nL lev isI) (hd : decode cc pc = .ok (.lshl, ln)) (hln : ln = 1) (hk : vx_G p l e R s m args below meth c Qs base b cI cS D lim nL (pc + ln) k) : vx_G p l e R s m args below meth c Qs base b cI cS D lim nL pc (fun L S z h => vx_st sc lim (.lshl, ln, a, b', v, ps) L S z h J Q k) := by
  subst hln
  intro L S z h hst ls H locs cells slots hL hI
  rcases S with _ | ⟨v1, _ | ⟨v2, S⟩⟩
  · exact False.elim hst
  · cases v1 <;> exact False.elim hst
  · cases v1 with
    | int y => cases v2 with
      | long x =>
        have hst : k L (.long (x <<< (y.toInt64 &&& 63)) :: S) z h := hst
        exact lv_lshl F.1 F.2.1 hd rfl (hk _ _ _ _ hst ls H locs cells slots hL hI)
      | _ => exact False.elim hst
    | _ => exact False.elim hst
theorem vx_s_lcmp (F : vx_Fx p R s m args meth c base b cI cS D sc lim cc ow nL lev isI) (hd : decode cc pc = .ok (.lcmp, ln)) (hln : ln = 1) (hk : vx_G p l e R s m args below meth c Qs base b cI cS D lim nL (pc + ln) k) : vx_G p l e R s m args below meth c Qs base b cI cS D lim nL pc (fun L S z h => vx_st sc lim (.lcmp, ln, a, b', v, ps) L S z h J Q k) := by
  subst hln
  intro L S z h hst ls H locs cells slots hL hI
  rcases S with _ | ⟨v1, _ | ⟨v2, S⟩⟩
  · exact False.elim hst
  · cases v1 <;> exact False.elim hst
  · cases v1 with
    | long y => cases v2 with
      | long x =>
        have hst : k L (.int (lg_cmp x y) :: S) z h := hst
        exact W.lcmp F.1 F.2.1 hd (hk _ _ _ _ hst ls H locs cells slots hL hI)
      | _ => exact False.elim hst
    | _ => exact False.elim hst
theorem vx_s_ineg (F : vx_Fx p R s m args meth c base b cI cS D sc lim cc ow nL lev isI) (hd : decode cc pc = .ok (.ineg, ln)) (hln : ln = 1) (hk : vx_G p l e R s m args below meth c Qs base b cI cS D lim nL (pc + ln) k) : vx_G p l e R s m args below meth c Qs base b cI cS D lim nL pc (fun L S z h => vx_st sc lim (.ineg, ln, a, b', v, ps) L S z h J Q k) := by
  subst hln
  intro L S z h hst ls H locs cells slots hL hI
  rcases S with _ | ⟨v1, S⟩
  · exact False.elim hst
  · cases v1 with
    | int x =>
      have hst : k L (.int (-x) :: S) z h := hst
      exact lv_ineg F.1 F.2.1 hd (hk _ _ _ _ hst ls H locs cells slots hL hI)
    | _ => exact False.elim hst
theorem vx_s_i2l (F : vx_Fx p R s m args meth c base b cI cS D sc lim cc ow nL lev isI) (hd : decode cc pc = .ok (.i2l, ln)) (hln : ln = 1) (hk : vx_G p l e R s m args below meth c Qs base b cI cS D lim nL (pc + ln) k) : vx_G p l e R s m args below meth c Qs base b cI cS D lim nL pc (fun L S z h => vx_st sc lim (.i2l, ln, a, b', v, ps) L S z h J Q k) := by
  subst hln
  intro L S z h hst ls H locs cells slots hL hI
  rcases S with _ | ⟨v1, S⟩
  · exact False.elim hst
  · cases v1 with
    | int x =>
      have hst : k L (.long x.toInt64 :: S) z h := hst
      exact lv_i2l F.1 F.2.1 hd rfl (hk _ _ _ _ hst ls H locs cells slots hL hI)
    | _ => exact False.elim hst
theorem vx_s_i2b (F : vx_Fx p R s m args meth c base b cI cS D sc lim cc ow nL lev isI) (hd : decode cc pc = .ok (.i2b, ln)) (hln : ln = 1) (hk : vx_G p l e R s m args below meth c Qs base b cI cS D lim nL (pc + ln) k) : vx_G p l e R s m args below meth c Qs base b cI cS D lim nL pc (fun L S z h => vx_st sc lim (.i2b, ln, a, b', v, ps) L S z h J Q k) := by
  subst hln
  intro L S z h hst ls H locs cells slots hL hI
  rcases S with _ | ⟨v1, S⟩
  · exact False.elim hst
  · cases v1 with
    | int x =>
      have hst : k L (.int x.toInt8.toInt32 :: S) z h := hst
      exact lv_i2b F.1 F.2.1 hd rfl (hk _ _ _ _ hst ls H locs cells slots hL hI)
    | _ => exact False.elim hst
theorem vx_s_i2s (F : vx_Fx p R s m args meth c base b cI cS D sc lim cc ow nL lev isI) (hd : decode cc pc = .ok (.i2s, ln)) (hln : ln = 1) (hk : vx_G p l e R s m args below meth c Qs base b cI cS D lim nL (pc + ln) k) : vx_G p l e R s m args below meth c Qs base b cI cS D lim nL pc (fun L S z h => vx_st sc lim (.i2s, ln, a, b', v, ps) L S z h J Q k) := by
  subst hln
  intro L S z h hst ls H locs cells slots hL hI
  rcases S with _ | ⟨v1, S⟩
  · exact False.elim hst
  · cases v1 with
    | int x =>
      have hst : k L (.int x.toInt16.toInt32 :: S) z h := hst
      exact lv_i2s F.1 F.2.1 hd rfl (hk _ _ _ _ hst ls H locs cells slots hL hI)
    | _ => exact False.elim hst
theorem vx_s_dup (F : vx_Fx p R s m args meth c base b cI cS D sc lim cc ow nL lev isI) (hd : decode cc pc = .ok (.dup, ln)) (hln : ln = 1) (hk : vx_G p l e R s m args below meth c Qs base b cI cS D lim nL (pc + ln) k) : vx_G p l e R s m args below meth c Qs base b cI cS D lim nL pc (fun L S z h => vx_st sc lim (.dup, ln, a, b', v, ps) L S z h J Q k) := by
  subst hln
  intro L S z h hst ls H locs cells slots hL hI
  rcases S with _ | ⟨v1, S⟩
  · exact False.elim hst
  · cases v1 with
    | int x =>
      have hst : k L (.int x :: .int x :: S) z h := hst
      exact lv_dup F.1 F.2.1 hd rfl (hk _ _ _ _ hst ls H locs cells slots hL hI)
    | ref x =>
      have hst : k L (.ref x :: .ref x :: S) z h := hst
      exact lv_dup F.1 F.2.1 hd rfl (hk _ _ _ _ hst ls H locs cells slots hL hI)
    | _ => exact False.elim hst
theorem vx_s_dup2 (F : vx_Fx p R s m args meth c base b cI cS D sc lim cc ow nL lev isI) (hd : decode cc pc = .ok (.dup2, ln)) (hln : ln = 1) (hk : vx_G p l e R s m args below meth c Qs base b cI cS D lim nL (pc + ln) k) : vx_G p l e R s m args below meth c Qs base b cI cS D lim nL pc (fun L S z h => vx_st sc lim (.dup2, ln, a, b', v, ps) L S z h J Q k) := by
  subst hln
  intro L S z h hst ls H locs cells slots hL hI
  rcases S with _ | ⟨v1, _ | ⟨v2, S⟩⟩
  · exact False.elim hst
  · cases v1 <;> exact False.elim hst
  · cases v1 with
    | int y => cases v2 with
      | ref x =>
        have hst : k L (.int y :: .ref x :: .int y :: .ref x :: S) z h := hst
        exact lv_dup2_11 F.1 F.2.1 hd rfl rfl (hk _ _ _ _ hst ls H locs cells slots hL hI)
      | _ => exact False.elim hst
    | _ => exact False.elim hst
theorem vx_s_if_eq (F : vx_Fx p R s m args meth c base b cI cS D sc lim cc ow nL lev isI) {off : Int} (hd : decode cc pc = .ok (.ifCond .eq off, ln)) (hln : ln = 3) (ht : (pc : Int) + off = (a : Int)) (hk : vx_G p l e R s m args below meth c Qs base b cI cS D lim nL (pc + ln) k) (hJ : ∀ t, vx_G p l e R s m args below meth c Qs base b cI cS D lim nL t (J t)) : vx_G p l e R s m args below meth c Qs base b cI cS D lim nL pc (fun L S z h => vx_st sc lim (.ifCond .eq off, ln, a, b', v, ps) L S z h J Q k) := by
  subst hln
  intro L S z h hst ls H locs cells slots hL hI
  rcases S with _ | ⟨v1, S⟩
  · exact False.elim hst
  · cases v1 with
    | int x =>
      have hst : (x = 0 → J a L S z h) ∧ (¬ x = 0 → k L S z h) := hst
      exact lv_if_eq F.1 F.2.1 hd ht (fun q => hJ _ _ _ _ _ (hst.1 q) ls H locs cells slots hL hI) (fun q => hk _ _ _ _ (hst.2 q) ls H locs cells slots hL hI)
    | _ => exact False.elim hst
theorem vx_s_if_ne (F : vx_Fx p R s m args meth c base b cI cS D sc lim cc ow nL lev isI) {off : Int} (hd : decode cc pc = .ok (.ifCond .ne off, ln)) (hln : ln = 3) (ht : (pc : Int) + off = (a : Int)) (hk : vx_G p l e R s m args below meth c Qs base b cI cS D lim nL (pc + ln) k) (hJ : ∀ t, vx_G p l e R s m args below meth c Qs base b cI cS D lim nL t (J t)) : vx_G p l e R s m args below meth c Qs base b cI cS D lim nL pc (fun L S z h => vx_st sc lim (.ifCond .ne off, ln, a, b', v, ps) L S z h J Q k) := by
  subst hln
  intro L S z h hst ls H locs cells slots hL hI
  rcases S with _ | ⟨v1, S⟩
  · exact False.elim hst
  · cases v1 with
    | int x =>
      have hst : (¬ x = 0 → J a L S z h) ∧ (x = 0 → k L S z h) := hst
      exact lv_if_ne F.1 F.2.1 hd ht (fun q => hJ _ _ _ _ _ (hst.1 q) ls H locs cells slots hL hI) (fun q => hk _ _ _ _ (hst.2 q) ls H locs cells slots hL hI)
    | _ => exact False.elim hst
theorem vx_s_if_lt (F : vx_Fx p R s m args meth c base b cI cS D sc lim cc ow nL lev isI) {off : Int} (hd : decode cc pc = .ok (.ifCond .lt off, ln)) (hln : ln = 3) (ht : (pc : Int) + off = (a : Int)) (hk : vx_G p l e R s m args below meth c Qs base b cI cS D lim nL (pc + ln) k) (hJ : ∀ t, vx_G p l e R s m args below meth c Qs base b cI cS D lim nL t (J t)) : vx_G p l e R s m args below meth c Qs base b cI cS D lim nL pc (fun L S z h => vx_st sc lim (.ifCond .lt off, ln, a, b', v, ps) L S z h J Q k) := by
  subst hln
  intro L S z h hst ls H locs cells slots hL hI
  rcases S with _ | ⟨v1, S⟩
  · exact False.elim hst
  · cases v1 with
    | int x =>
      have hst : (x < 0 → J a L S z h) ∧ (¬ x < 0 → k L S z h) := hst
      exact lv_if_lt F.1 F.2.1 hd ht (fun q => hJ _ _ _ _ _ (hst.1 q) ls H locs cells slots hL hI) (fun q => hk _ _ _ _ (hst.2 q) ls H locs cells slots hL hI)
    | _ => exact False.elim hst
theorem vx_s_if_ge (F : vx_Fx p R s m args meth c base b cI cS D sc lim cc ow nL lev isI) {off : Int} (hd : decode cc pc = .ok (.ifCond .ge off, ln)) (hln : ln = 3) (ht : (pc : Int) + off = (a : Int)) (hk : vx_G p l e R s m args below meth c Qs base b cI cS D lim nL (pc + ln) k) (hJ : ∀ t, vx_G p l e R s m args below meth c Qs base b cI cS D lim nL t (J t)) : vx_G p l e R s m args below meth c Qs base b cI cS D lim nL pc (fun L S z h => vx_st sc lim (.ifCond .ge off, ln, a, b', v, ps) L S z h J Q k) := by
  subst hln
  intro L S z h hst ls H locs cells slots hL hI
  rcases S with _ | ⟨v1, S⟩
  · exact False.elim hst
  · cases v1 with
    | int x =>
      have hst : (0 ≤ x → J a L S z h) ∧ (¬ 0 ≤ x → k L S z h) := hst
      exact lv_if_ge F.1 F.2.1 hd ht (fun q => hJ _ _ _ _ _ (hst.1 q) ls H locs cells slots hL hI) (fun q => hk _ _ _ _ (hst.2 q) ls H locs cells slots hL hI)
    | _ => exact False.elim hst
theorem vx_s_if_gt (F : vx_Fx p R s m args meth c base b cI cS D sc lim cc ow nL lev isI) {off : Int} (hd : decode cc pc = .ok (.ifCond .gt off, ln)) (hln : ln = 3) (ht : (pc : Int) + off = (a : Int)) (hk : vx_G p l e R s m args below meth c Qs base b cI cS D lim nL (pc + ln) k) (hJ : ∀ t, vx_G p l e R s m args below meth c Qs base b cI cS D lim nL t (J t)) : vx_G p l e R s m args below meth c Qs base b cI cS D lim nL pc (fun L S z h => vx_st sc lim (.ifCond .gt off, ln, a, b', v, ps) L S z h J Q k) := by
  subst hln
  intro L S z h hst ls H locs cells slots hL hI
  rcases S with _ | ⟨v1, S⟩
  · exact False.elim hst
  · cases v1 with
    | int x =>
      have hst : (0 < x → J a L S z h) ∧ (¬ 0 < x → k L S z h) := hst
      exact lv_if_gt F.1 F.2.1 hd ht (fun q => hJ _ _ _ _ _ (hst.1 q) ls H locs cells slots hL hI) (fun q => hk _ _ _ _ (hst.2 q) ls H locs cells slots hL hI)
    | _ => exact False.elim hst
theorem vx_s_if_le (F : vx_Fx p R s m args meth c base b cI cS D sc lim cc ow nL lev isI) {off : Int} (hd : decode cc pc = .ok (.ifCond .le off, ln)) (hln : ln = 3) (ht : (pc : Int) + off = (a : Int)) (hk : vx_G p l e R s m args below meth c Qs base b cI cS D lim nL (pc + ln) k) (hJ : ∀ t, vx_G p l e R s m args below meth c Qs base b cI cS D lim nL t (J t)) : vx_G p l e R s m args below meth c Qs base b cI cS D lim nL pc (fun L S z h => vx_st sc lim (.ifCond .le off, ln, a, b', v, ps) L S z h J Q k) := by
  subst hln
  intro L S z h hst ls H locs cells slots hL hI
  rcases S with _ | ⟨v1, S⟩
  · exact False.elim hst
  · cases v1 with
    | int x =>
      have hst : (x ≤ 0 → J a L S z h) ∧ (¬ x ≤ 0 → k L S z h) := hst
      exact lv_if_le F.1 F.2.1 hd ht (fun q => hJ _ _ _ _ _ (hst.1 q) ls H locs cells slots hL hI) (fun q => hk _ _ _ _ (hst.2 q) ls H locs cells slots hL hI)
    | _ => exact False.elim hst
theorem vx_s_icmp_eq (F : vx_Fx p R s m args meth c base b cI cS D sc lim cc ow nL lev isI) {off : Int} (hd : decode cc pc = .ok (.if_icmp .eq off, ln)) (hln : ln = 3) (ht : (pc : Int) + off = (a : Int)) (hk : vx_G p l e R s m args below meth c Qs base b cI cS D lim nL (pc + ln) k) (hJ : ∀ t, vx_G p l e R s m args below meth c Qs base b cI cS D lim nL t (J t)) : vx_G p l e R s m args below meth c Qs base b cI cS D lim nL pc (fun L S z h => vx_st sc lim (.if_icmp .eq off, ln, a, b', v, ps) L S z h J Q k) := by
  subst hln
  intro L S z h hst ls H locs cells slots hL hI
  rcases S with _ | ⟨v1, _ | ⟨v2, S⟩⟩
  · exact False.elim hst
  · cases v1 <;> exact False.elim hst
  · cases v1 with
    | int y => cases v2 with
      | int x =>
        have hst : (x = y → J a L S z h) ∧ (¬ x = y → k L S z h) := hst
        exact lv_icmp_eq F.1 F.2.1 hd ht (fun q => hJ _ _ _ _ _ (hst.1 q) ls H locs cells slots hL hI) (fun q => hk _ _ _ _ (hst.2 q) ls H locs cells slots hL hI)
      | _ => exact False.elim hst
    | _ => exact False.elim hst
theorem vx_s_icmp_ne (F : vx_Fx p R s m args meth c base b cI cS D sc lim cc ow nL lev isI) {off : Int} (hd : decode cc pc = .ok (.if_icmp .ne off, ln)) (hln : ln = 3) (ht : (pc : Int) + off = (a : Int)) (hk : vx_G p l e R s m args below meth c Qs base b cI cS D lim nL (pc + ln) k) (hJ : ∀ t, vx_G p l e R s m args below meth c Qs base b cI cS D lim nL t (J t)) : vx_G p l e R s m args below meth c Qs base b cI cS D lim nL pc (fun L S z h => vx_st sc lim (.if_icmp .ne off, ln, a, b', v, ps) L S z h J Q k) := by
  subst hln
  intro L S z h hst ls H locs cells slots hL hI
  rcases S with _ | ⟨v1, _ | ⟨v2, S⟩⟩
  · exact False.elim hst
  · cases v1 <;> exact False.elim hst
  · cases v1 with
    | int y => cases v2 with
      | int x =>
        have hst : (¬ x = y → J a L S z h) ∧ (x = y → k L S z h) := hst
        exact lv_icmp_ne F.1 F.2.1 hd ht (fun q => hJ _ _ _ _ _ (hst.1 q) ls H locs cells slots hL hI) (fun q => hk _ _ _ _ (hst.2 q) ls H locs cells slots hL hI)
      | _ => exact False.elim hst
    | _ => exact False.elim hst
theorem vx_s_icmp_lt (F : vx_Fx p R s m args meth c base b cI cS D sc lim cc ow nL lev isI) {off : Int} (hd : decode cc pc = .ok (.if_icmp .lt off, ln)) (hln : ln = 3) (ht : (pc : Int) + off = (a : Int)) (hk : vx_G p l e R s m args below meth c Qs base b cI cS D lim nL (pc + ln) k) (hJ : ∀ t, vx_G p l e R s m args below meth c Qs base b cI cS D lim nL t (J t)) : vx_G p l e R s m args below meth c Qs base b cI cS D lim nL pc (fun L S z h => vx_st sc lim (.if_icmp .lt off, ln, a, b', v, ps) L S z h J Q k) := by
  subst hln
  intro L S z h hst ls H locs cells slots hL hI
  rcases S with _ | ⟨v1, _ | ⟨v2, S⟩⟩
  · exact False.elim hst
  · cases v1 <;> exact False.elim hst
  · cases v1 with
    | int y => cases v2 with
      | int x =>
        have hst : (x < y → J a L S z h) ∧ (¬ x < y → k L S z h) := hst
        exact lv_icmp_lt F.1 F.2.1 hd ht (fun q => hJ _ _ _ _ _ (hst.1 q) ls H locs cells slots hL hI) (fun q => hk _ _ _ _ (hst.2 q) ls H locs cells slots hL hI)
      | _ => exact False.elim hst
    | _ => exact False.elim hst
theorem vx_s_icmp_ge (F : vx_Fx p R s m args meth c base b cI cS D sc lim cc ow nL lev isI) {off : Int} (hd : decode cc pc = .ok (.if_icmp .ge off, ln)) (hln : ln = 3) (ht : (pc : Int) + off = (a : Int)) (hk : vx_G p l e R s m args below meth c Qs base b cI cS D lim nL (pc + ln) k) (hJ : ∀ t, vx_G p l e R s m args below meth c Qs base b cI cS D lim nL t (J t)) : vx_G p l e R s m args below meth c Qs base b cI cS D lim nL pc (fun L S z h => vx_st sc lim (.if_icmp .ge off, ln, a, b', v, ps) L S z h J Q k) := by
  subst hln
  intro L S z h hst ls H locs cells slots hL hI
  rcases S with _ | ⟨v1, _ | ⟨v2, S⟩⟩
  · exact False.elim hst
  · cases v1 <;> exact False.elim hst
  · cases v1 with
    | int y => cases v2 with
      | int x =>
        have hst : (y ≤ x → J a L S z h) ∧ (¬ y ≤ x → k L S z h) := hst
        exact lv_icmp_ge F.1 F.2.1 hd ht (fun q => hJ _ _ _ _ _ (hst.1 q) ls H locs cells slots hL hI) (fun q => hk _ _ _ _ (hst.2 q) ls H locs cells slots hL hI)
      | _ => exact False.elim hst
    | _ => exact False.elim hst
theorem vx_s_icmp_gt (F : vx_Fx p R s m args meth c base b cI cS D sc lim cc ow nL lev isI) {off : Int} (hd : decode cc pc = .ok (.if_icmp .gt off, ln)) (hln : ln = 3) (ht : (pc : Int) + off = (a : Int)) (hk : vx_G p l e R s m args below meth c Qs base b cI cS D lim nL (pc + ln) k) (hJ : ∀ t, vx_G p l e R s m args below meth c Qs base b cI cS D lim nL t (J t)) : vx_G p l e R s m args below meth c Qs base b cI cS D lim nL pc (fun L S z h => vx_st sc lim (.if_icmp .gt off, ln, a, b', v, ps) L S z h J Q k) := by
  subst hln
  intro L S z h hst ls H locs cells slots hL hI
  rcases S with _ | ⟨v1, _ | ⟨v2, S⟩⟩
  · exact False.elim hst
  · cases v1 <;> exact False.elim hst
  · cases v1 with
    | int y => cases v2 with
      | int x =>
        have hst : (y < x → J a L S z h) ∧ (¬ y < x → k L S z h) := hst
        exact lv_icmp_gt F.1 F.2.1 hd ht (fun q => hJ _ _ _ _ _ (hst.1 q) ls H locs cells slots hL hI) (fun q => hk _ _ _ _ (hst.2 q) ls H locs cells slots hL hI)
      | _ => exact False.elim hst
    | _ => exact False.elim hst
theorem vx_s_icmp_le (F : vx_Fx p R s m args meth c base b cI cS D sc lim cc ow nL lev isI) {off : Int} (hd : decode cc pc = .ok (.if_icmp .le off, ln)) (hln : ln = 3) (ht : (pc : Int) + off = (a : Int)) (hk : vx_G p l e R s m args below meth c Qs base b cI cS D lim nL (pc + ln) k) (hJ : ∀ t, vx_G p l e R s m args below meth c Qs base b cI cS D lim nL t (J t)) : vx_G p l e R s m args below meth c Qs base b cI cS D lim nL pc (fun L S z h => vx_st sc lim (.if_icmp .le off, ln, a, b', v, ps) L S z h J Q k) := by
  subst hln
  intro L S z h hst ls H locs cells slots hL hI
  rcases S with _ | ⟨v1, _ | ⟨v2, S⟩⟩
  · exact False.elim hst
  · cases v1 <;> exact False.elim hst
  · cases v1 with
    | int y => cases v2 with
      | int x =>
        have hst : (x ≤ y → J a L S z h) ∧ (¬ x ≤ y → k L S z h) := hst
        exact lv_icmp_le F.1 F.2.1 hd ht (fun q => hJ _ _ _ _ _ (hst.1 q) ls H locs cells slots hL hI) (fun q => hk _ _ _ _ (hst.2 q) ls H locs cells slots hL hI)
      | _ => exact False.elim hst
    | _ => exact False.elim hst
theorem vx_s_ifnull (F : vx_Fx p R s m args meth c base b cI cS D sc lim cc ow nL lev isI) {off : Int} (hd : decode cc pc = .ok (.ifnull off, ln)) (hln : ln = 3) (ht : (pc : Int) + off = (a : Int)) (hk : vx_G p l e R s m args below meth c Qs base b cI cS D lim nL (pc + ln) k) (hJ : ∀ t, vx_G p l e R s m args below meth c Qs base b cI cS D lim nL t (J t)) : vx_G p l e R s m args below meth c Qs base b cI cS D lim nL pc (fun L S z h => vx_st sc lim (.ifnull off, ln, a, b', v, ps) L S z h J Q k) := by
  subst hln
  intro L S z h hst ls H locs cells slots hL hI
  rcases S with _ | ⟨v1, S⟩
  · exact False.elim hst
  · cases v1 with
    | ref x =>
      have hst : k L S z h := hst
      exact lv_ifnull F.1 F.2.1 hd (hk _ _ _ _ hst ls H locs cells slots hL hI)
    | null =>
      have hst : J a L S z h := hst
      exact lv_ifnullN F.1 F.2.1 hd ht (hJ _ _ _ _ _ hst ls H locs cells slots hL hI)
    | _ => exact False.elim hst
theorem vx_s_goto (F : vx_Fx p R s m args meth c base b cI cS D sc lim cc ow nL lev isI) {off : Int} (hd : decode cc pc = .ok (.goto off, ln)) (hln : ln = 3) (ht : (pc : Int) + off = (a : Int)) (hJ : ∀ t, vx_G p l e R s m args below meth c Qs base b cI cS D lim nL t (J t)) : vx_G p l e R s m args below meth c Qs base b cI cS D lim nL pc (fun L S z h => vx_st sc lim (.goto off, ln, a, b', v, ps) L S z h J Q k) := by
  subst hln
  intro L S z h hst ls H locs cells slots hL hI
  have hst : J a L S z h := hst
  exact lv_goto F.1 F.2.1 hd ht (hJ _ _ _ _ _ hst ls H locs cells slots hL hI)
end VXT
end
section
/-! the step is sound: fields, rows, new cells -/
section VXU
variable {p : Program} {l : Launch} {e : Env} {R : Room} {s : State} {m : MethodId} {args : Array Value} {below : List Frame} {meth : Method} {c : Code} {Qs : State → Prop}
variable {base b : Nat} {cI cS : ClassId} {D : va_G} {sc : Option (Nat × (Nat → Int32))} {lim : vx_Z} {cc : ByteArray} {ow : String} {nL lev : Nat} {isI : Bool} {pc ln a b' : Nat} {v : Value} {ps : List (Int32 × Nat)} {J : Nat → vx_K} {Q : Option Value → vx_Z → vx_H → Prop} {k : vx_K}
variable {H : Heap} {locs : List Loc} {cells slots : Nat} {z : vx_Z} {h : vx_H}
theorem vx_In.lt (hI : vx_In s base b cI cS D lim H locs cells slots z h) {x : Nat} {q : vx_C} (hx : h x = some q) : x < z.1 := (hI.2.2.1 x).mp (by rw [hx]; rfl)
theorem vx_In.at (hI : vx_In s base b cI cS D lim H locs cells slots z h) {x : Nat} {q : vx_C} (hx : h x = some q) : (vx_w base b cI cS z.1 h)[x]? = some (base + x, vx_e base b cI cS q) := vx_w_get (hI.lt hx) hx
theorem vx_In.put (hI : vx_In s base b cI cS D lim H locs cells slots z h) {x : Nat} {q : vx_C} {w : va_E} {H1 : Heap} {locs1 : List Loc} (hl : x < z.1) (hw : w = vx_e base b cI cS q) (hP : va_P D vx_cl ((vx_w base b cI cS z.1 h).set x (base + x, w)) H1) (hS : va_S (fun q => base ≤ q) s.heap H1 locs1) :
    vx_In s base b cI cS D lim H1 locs1 cells slots z (vx_up h x q) := by
  subst hw
  rw [vx_w_set hl] at hP
  refine ⟨hI.1, hI.2.1, fun j => ?_, hP, hS⟩
  by_cases hj : j = x
  · subst hj
    simp [vx_up, hl]
  · rw [vx_up_n _ _ hj]
    exact hI.2.2.1 j
/-- a bound on the heap, out of what stands -/
theorem vx_sz {g : JFrame} (kk : H.size ≤ s.heap.size + cells → W p l e R s m args below meth c H locs cells slots Qs g) : W p l e R s m args below meth c H locs cells slots Qs g :=
  fun T hT X => kk (by rw [← hT]; exact X.heapSize) T hT X
theorem vx_In.push (hI : vx_In s base b cI cS D lim H locs cells slots z h) {q : Nat} {x : vx_C} {w : va_E} {H1 : Heap} {n : Nat} (hl1 : z.1 + 1 ≤ lim.1) (hl2 : z.2 + n ≤ lim.2) (hw : w = vx_e base b cI cS x) (hz : H1.size ≤ s.heap.size + (cells + 1)) (hP : va_P D vx_cl (vx_w base b cI cS z.1 h ++ [(q, w)]) H1) (hD : va_D (fun q => base ≤ q) (vx_w base b cI cS z.1 h ++ [(q, w)])) (hS : va_S (fun q => base ≤ q) s.heap H1 locs) :
    q = base + z.1 ∧ vx_In s base b cI cS D lim H1 locs (cells + 1) (slots + n) (z.1 + 1, z.2 + n) (vx_up h z.1 x) := by
  subst hw
  have hlen : (vx_w base b cI cS z.1 h).length = z.1 := by simp [vx_w]
  have hlast : (vx_w base b cI cS z.1 h ++ [(q, vx_e base b cI cS x)])[z.1]? = some (q, vx_e base b cI cS x) := by
    rw [List.getElem?_append_right (by omega), hlen, Nat.sub_self]; rfl
  have hlt := (hP _ _ hlast).lt
  have hge : base ≤ q := hD.2 _ _ hlast
  have h1 := hI.1
  have hq : q = base + z.1 := by
    by_cases hq : q < base + z.1
    · exfalso
      have hk : q - base < z.1 := by omega
      have hx : (vx_w base b cI cS z.1 h ++ [(q, vx_e base b cI cS x)])[q - base]? = some (base + (q - base), vx_e base b cI cS ((h (q - base)).getD (.inl (0, fun _ => 0)))) := by
        rw [List.getElem?_append_left (by omega)]
        simp [vx_w, hk]
      have := hD.1 _ _ _ _ hx hlast (by show base + (q - base) = q; omega)
      omega
    · dsimp only at hlt
      omega
  subst hq
  refine ⟨rfl, by dsimp only; omega, ⟨by rw [hI.2.1.1], hl1, hl2⟩, fun j => ?_, ?_, hS⟩
  · by_cases hj : j = z.1
    · subst hj
      simp [vx_up]
    · rw [vx_up_n _ _ hj, hI.2.2.1 j]
      dsimp only
      omega
  · dsimp only
    rw [← vx_w_push]
    exact hP
/-- a field's link, by the tables -/
theorem vx_fl_use {owN ix a b' : Nat} {ow : String} (hcn : vx_cn[owN]? = some ow) (hf : ∃ pl, (owN, ix, a, b', pl) ∈ vx_fl) : ∃ (C : String) (T : u_T) (N : Nat), vx_cl[a]? = some (C, T, N) ∧ b' < N ∧ Cond.fieldLink ow ix (T b').1 (T b').2.1 (T b').2.2.1 ∈ vx_TB := by
  obtain ⟨pl, hm⟩ := hf
  have h1 := List.all_eq_true.mp vx_fl_ok _ hm
  unfold vx_fw at h1
  dsimp only at h1
  rw [hcn] at h1
  cases hc : vx_cl[a]? with
  | none => rw [hc] at h1; cases h1
  | some q =>
    obtain ⟨C, T, N⟩ := q
    rw [hc] at h1
    simp only [Bool.and_eq_true, decide_eq_true_eq] at h1
    exact ⟨C, T, N, rfl, h1.1, vx_at_mem h1.2⟩
theorem vx_fn_use {owN ix a b' : Nat} {ow : String} {s : State} (hN : vx_NW s) (hcn : vx_cn[owN]? = some ow) (hf : ∃ pl, (owN, ix, a, b', pl) ∈ vx_fn) : ∃ (C : String) (T : u_T) (N : Nat), vx_cl[a]? = some (C, T, N) ∧ b' < N ∧ va_Nw (.fieldLinkNest ow ix (T b').1 (T b').2.1 (T b').2.2.1 "VoteWalls") s := by
  obtain ⟨pl, hm⟩ := hf
  have h1 := List.all_eq_true.mp vx_fn_ok _ hm
  unfold vx_fw2 at h1
  dsimp only at h1
  rw [hcn] at h1
  cases hc : vx_cl[a]? with
  | none => rw [hc] at h1; cases h1
  | some q =>
    obtain ⟨C, T, N⟩ := q
    rw [hc] at h1
    simp only [Bool.and_eq_true, decide_eq_true_eq] at h1
    exact ⟨C, T, N, rfl, h1.1, hN.1 _ hm ow (C, T, N) hcn hc⟩
theorem vx_s_getfield (F : vx_Fx p R s m args meth c base b cI cS D sc lim cc ow nL lev isI) {owN ix : Nat} (hcn : vx_cn[owN]? = some ow) (hd : decode cc pc = .ok (.getfield ix, ln)) (hln : ln = 3) (hf : (∃ pl, (owN, ix, a, b', pl) ∈ vx_fl) ∨ (∃ pl, (owN, ix, a, b', pl) ∈ vx_fn))
    (hk : vx_G p l e R s m args below meth c Qs base b cI cS D lim nL (pc + ln) k) : vx_G p l e R s m args below meth c Qs base b cI cS D lim nL pc (fun L S z h => vx_st sc lim (.getfield ix, ln, a, b', v, ps) L S z h J Q k) := by
  subst hln
  intro L S z h hst ls H locs cells slots hL hI
  obtain ⟨hx, hb, hml, hown, hts, hK, hN, -⟩ := F
  rcases S with _ | ⟨v1, S⟩
  · exact False.elim hst
  · cases v1 with
    | ref x =>
      replace hst : (match h x with | some (.inr (.inr (c, fs))) => c = a ∧ (match fs[b']? with | some v => k L (v :: S) z h | none => False) | _ => False) := hst
      cases hhx : h x with
      | none => rw [hhx] at hst; exact False.elim hst
      | some q =>
        rw [hhx] at hst
        rcases q with ⟨n, f⟩ | ⟨n, f⟩ | ⟨c', fs⟩
        · exact False.elim hst
        · exact False.elim hst
        · obtain ⟨rfl, hst⟩ := hst
          cases hv : fs[b']? with
          | none => rw [hv] at hst; exact False.elim hst
          | some w =>
            rw [hv] at hst
            have hv' : (fs.map (vx_v base b))[b']? = some (vx_v base b w) := by rw [List.getElem?_map, hv]; rfl
            rcases hf with hf | hf
            · obtain ⟨C, T, N, hc, hkN, hlk⟩ := vx_fl_use hcn hf
              exact va_get hx hb hts (vx_cfs hc).1 hown hK hI.2.2.2.1 x (hI.at hhx) hc b' hkN (hts _ hlk) (fun _ h9 => h9) hv' hd (hk _ _ _ _ hst ls H locs cells slots hL hI)
            · obtain ⟨C, T, N, hc, hkN, hlk⟩ := vx_fn_use hN hcn hf
              exact va_getN hx hb hts (vx_cfs hc).1 hown hK hI.2.2.2.1 x (hI.at hhx) hc b' hkN (va_Nw.use rfl hlk) (fun _ h9 => h9) hv' hd (hk _ _ _ _ hst ls H locs cells slots hL hI)
    | _ => exact False.elim hst
/-- the three ways to put a value into a field -/
theorem vx_puts (F : vx_Fx p R s m args meth c base b cI cS D sc lim cc ow nL lev isI) {owN ix : Nat} (hcn : vx_cn[owN]? = some ow) (hd : decode cc pc = .ok (.putfield ix, 3))
    (hf : ((∃ pl, (owN, ix, a, b', pl) ∈ vx_fl) ∧ ∀ C T N, vx_cl[a]? = some (C, T, N) → (T b').2.2.2 = false ∨ isI = true ∧ (T b').1 = ow) ∨ ((∃ pl, (owN, ix, a, b', pl) ∈ vx_fn) ∧ ∀ C T N, vx_cl[a]? = some (C, T, N) → (T b').2.2.2 = false))
    {w : Value} (hn : narrow (vx_ty a b') (vx_v base b w) = vx_v base b w) (hfit : fits (vx_ty a b') (vx_v base b w) = true) {x : Nat} {fs : List Value} (hhx : h x = some (.inr (.inr (a, fs)))) (hl : b' < fs.length) (hI : vx_In s base b cI cS D lim H locs cells slots z h) {ls : Array Slot} {rest : List Value}
    (hk : ∀ (H1 : Heap) (locs1 : List Loc), vx_In s base b cI cS D lim H1 locs1 cells slots z (vx_up h x (.inr (.inr (a, fs.set b' w)))) → W p l e R s m args below meth c H1 locs1 cells slots Qs (F0 m (pc + 3) ls rest)) :
    W p l e R s m args below meth c H locs cells slots Qs (F0 m pc ls (vx_v base b w :: .ref (base + x) :: rest)) := by
  obtain ⟨hx, hb, hml, hown, hts, hK, hN, hbs, -, -, -, -, hini, -⟩ := F
  have hD := vx_w_D base b cI cS z.1 h
  have hl' : b' < (fs.map (vx_v base b)).length := by simpa using hl
  have hset : (fs.map (vx_v base b)).set b' (vx_v base b w) = (fs.set b' w).map (vx_v base b) := by rw [List.map_set]
  have hw : (Sum.inr (a, (fs.map (vx_v base b)).set b' (vx_v base b w)) : va_E) = vx_e base b cI cS (.inr (.inr (a, fs.set b' w))) := by rw [hset]; rfl
  rcases hf with ⟨hf, hfin⟩ | ⟨hf, hfin⟩
  · obtain ⟨C, T, N, hc, hkN, hlk⟩ := vx_fl_use hcn hf
    obtain ⟨u1, u2, u3, -⟩ := vx_cfs hc
    rcases hfin C T N hc with hfi | ⟨hii, hdc⟩
    · exact va_put hx hb hts u1 (vx_ty a) u2 u3 hown hK hI.2.2.2.1 hD hI.2.2.2.2 x (hI.at hhx) hc b' hkN (hts _ hlk) (fun _ h9 => h9) hfi (u2 b' hkN) hn hfit hl' hd (fun H1 locs1 hP _ hS => hk H1 locs1 (hI.put (hI.lt hhx) hw hP hS))
    · cases hfi : (T b').2.2.2 with
      | false => exact va_put hx hb hts u1 (vx_ty a) u2 u3 hown hK hI.2.2.2.1 hD hI.2.2.2.2 x (hI.at hhx) hc b' hkN (hts _ hlk) (fun _ h9 => h9) hfi (u2 b' hkN) hn hfit hl' hd (fun H1 locs1 hP _ hS => hk H1 locs1 (hI.put (hI.lt hhx) hw hP hS))
      | true => exact va_putF hx hb hts u1 (vx_ty a) u2 u3 hown hK hI.2.2.2.1 hD hI.2.2.2.2 x (hI.at hhx) hc b' hkN (hts _ hlk) (fun _ h9 => h9) hfi (hini hii) hdc (u2 b' hkN) hn hfit hl' hd (fun H1 locs1 hP _ hS => hk H1 locs1 (hI.put (hI.lt hhx) hw hP hS))
  · obtain ⟨C, T, N, hc, hkN, hlk⟩ := vx_fn_use hN hcn hf
    obtain ⟨u1, u2, u3, -⟩ := vx_cfs hc
    exact va_putN hx hb hts u1 (vx_ty a) u2 u3 hown hK hI.2.2.2.1 hD hI.2.2.2.2 x (hI.at hhx) hc b' hkN (va_Nw.use rfl hlk) (fun _ h9 => h9) (hfin C T N hc) (u2 b' hkN) hn hfit hl' hd (fun H1 locs1 hP _ hS => hk H1 locs1 (hI.put (hI.lt hhx) hw hP hS))
/-- which kind of value a field takes -/
def vx_tag (ty : FieldType) (v : Value) : Bool := match v, ty with
  | .int _, .int => true
  | .long _, .boolean => true
  | .null, .object _ => true
  | .null, .array _ => true
  | _, _ => false
theorem vx_s_putfield (F : vx_Fx p R s m args meth c base b cI cS D sc lim cc ow nL lev isI) {owN ix : Nat} (hcn : vx_cn[owN]? = some ow) (hd : decode cc pc = .ok (.putfield ix, ln)) (hln : ln = 3) (htag : vx_tag (vx_ty a b') v = true)
    (hf : ((∃ pl, (owN, ix, a, b', pl) ∈ vx_fl) ∧ ∀ C T N, vx_cl[a]? = some (C, T, N) → (T b').2.2.2 = false ∨ isI = true ∧ (T b').1 = ow) ∨ ((∃ pl, (owN, ix, a, b', pl) ∈ vx_fn) ∧ ∀ C T N, vx_cl[a]? = some (C, T, N) → (T b').2.2.2 = false))
    (hk : vx_G p l e R s m args below meth c Qs base b cI cS D lim nL (pc + ln) k) : vx_G p l e R s m args below meth c Qs base b cI cS D lim nL pc (fun L S z h => vx_st sc lim (.putfield ix, ln, a, b', v, ps) L S z h J Q k) := by
  subst hln
  intro L S z h hst ls H locs cells slots hL hI
  cases v with
  | int u =>
    have hty : vx_ty a b' = .int := by
      revert htag
      cases vx_ty a b' <;> simp [vx_tag]
    rcases S with _ | ⟨v1, _ | ⟨v2, S⟩⟩
    · exact False.elim hst
    · cases v1 <;> exact False.elim hst
    · cases v1 with
      | int y => cases v2 with
        | ref x =>
          replace hst : (match h x with | some (.inr (.inr (c, fs))) => c = a ∧ b' < fs.length ∧ k L S z (vx_up h x (.inr (.inr (c, fs.set b' (.int y))))) | _ => False) := hst
          cases hhx : h x with
          | none => rw [hhx] at hst; exact False.elim hst
          | some q =>
            rw [hhx] at hst
            rcases q with ⟨n, f⟩ | ⟨n, f⟩ | ⟨c', fs⟩
            · exact False.elim hst
            · exact False.elim hst
            · obtain ⟨rfl, hl, hst⟩ := hst
              exact vx_puts F hcn hd hf (w := .int y) (by rw [hty]; rfl) (by rw [hty]; rfl) hhx hl hI (fun H1 locs1 hI1 => hk _ _ _ _ hst ls H1 locs1 cells slots hL hI1)
        | _ => exact False.elim hst
      | _ => exact False.elim hst
  | long u =>
    have hty : vx_ty a b' = .boolean := by
      revert htag
      cases vx_ty a b' <;> simp [vx_tag]
    rcases S with _ | ⟨v1, _ | ⟨v2, S⟩⟩
    · exact False.elim hst
    · cases v1 <;> exact False.elim hst
    · cases v1 with
      | int y => cases v2 with
        | ref x =>
          replace hst : (match h x with | some (.inr (.inr (c, fs))) => c = a ∧ b' < fs.length ∧ (y = 0 ∨ y = 1) ∧ k L S z (vx_up h x (.inr (.inr (c, fs.set b' (.int y))))) | _ => False) := hst
          cases hhx : h x with
          | none => rw [hhx] at hst; exact False.elim hst
          | some q =>
            rw [hhx] at hst
            rcases q with ⟨n, f⟩ | ⟨n, f⟩ | ⟨c', fs⟩
            · exact False.elim hst
            · exact False.elim hst
            · obtain ⟨rfl, hl, hy, hst⟩ := hst
              exact vx_puts F hcn hd hf (w := .int y) (by rw [hty]; show narrow .boolean (.int y) = .int y; rcases hy with rfl | rfl <;> decide) (by rw [hty]; show fits .boolean (.int y) = true; rcases hy with rfl | rfl <;> decide) hhx hl hI (fun H1 locs1 hI1 => hk _ _ _ _ hst ls H1 locs1 cells slots hL hI1)
        | _ => exact False.elim hst
      | _ => exact False.elim hst
  | null =>
    rcases S with _ | ⟨v1, _ | ⟨v2, S⟩⟩
    · exact False.elim hst
    · cases v1 <;> exact False.elim hst
    · cases v1 with
      | ref y => cases v2 with
        | ref x =>
          replace hst : (match h x with | some (.inr (.inr (c, fs))) => c = a ∧ b' < fs.length ∧ k L S z (vx_up h x (.inr (.inr (c, fs.set b' (.ref y))))) | _ => False) := hst
          cases hhx : h x with
          | none => rw [hhx] at hst; exact False.elim hst
          | some q =>
            rw [hhx] at hst
            rcases q with ⟨n, f⟩ | ⟨n, f⟩ | ⟨c', fs⟩
            · exact False.elim hst
            · exact False.elim hst
            · obtain ⟨rfl, hl, hst⟩ := hst
              exact vx_puts F hcn hd hf (w := .ref y) (by revert htag; cases vx_ty c' b' <;> simp [vx_tag] <;> rfl) (by revert htag; cases vx_ty c' b' <;> simp [vx_tag] <;> rfl) hhx hl hI (fun H1 locs1 hI1 => hk _ _ _ _ hst ls H1 locs1 cells slots hL hI1)
        | _ => exact False.elim hst
      | _ => exact False.elim hst
  | _ => exact False.elim hst
end VXU
end
section
/-! the step is sound: rows, new cells -/
section VXV
variable {p : Program} {l : Launch} {e : Env} {R : Room} {s : State} {m : MethodId} {args : Array Value} {below : List Frame} {meth : Method} {c : Code} {Qs : State → Prop}
variable {base b : Nat} {cI cS : ClassId} {D : va_G} {sc : Option (Nat × (Nat → Int32))} {lim : vx_Z} {cc : ByteArray} {ow : String} {nL lev : Nat} {isI : Bool} {pc ln a b' : Nat} {v : Value} {ps : List (Int32 × Nat)} {J : Nat → vx_K} {Q : Option Value → vx_Z → vx_H → Prop} {k : vx_K}
variable {H : Heap} {locs : List Loc} {cells slots : Nat} {z : vx_Z} {h : vx_H}
theorem vx_s_iaload (F : vx_Fx p R s m args meth c base b cI cS D sc lim cc ow nL lev isI) (hd : decode cc pc = .ok (.iaload, ln)) (hln : ln = 1)
    (hk : vx_G p l e R s m args below meth c Qs base b cI cS D lim nL (pc + ln) k) : vx_G p l e R s m args below meth c Qs base b cI cS D lim nL pc (fun L S z h => vx_st sc lim (.iaload, ln, a, b', v, ps) L S z h J Q k) := by
  subst hln
  intro L S z h hst ls H locs cells slots hL hI
  obtain ⟨hx, hb, hml, hown, hts, hK, hN, hbs, -, -, -, -, -, hsc⟩ := F
  rcases S with _ | ⟨v1, _ | ⟨v2, S⟩⟩
  · exact False.elim hst
  · cases v1 <;> exact False.elim hst
  · cases v1 with
    | int j => cases v2 with
      | ref x =>
        replace hst : (match h x with | some (.inl (n, f)) => vp_in j n ∧ k L (.int (f j.toNatClampNeg) :: S) z h | _ => False) := hst
        cases hhx : h x with
        | none => rw [hhx] at hst; exact False.elim hst
        | some q =>
          rw [hhx] at hst
          rcases q with ⟨n, f⟩ | ⟨n, f⟩ | ⟨c', fs⟩
          · exact va_iald hx hb hK hI.2.2.2.1 x 0 (hI.at hhx) rfl hst.1 hd (hk _ _ _ _ hst.2 ls H locs cells slots hL hI)
          · exact False.elim hst
          · exact False.elim hst
      | float x =>
        replace hst : (match (generalizing := false) sc with | some q => vp_in j q.1 ∧ k L (.int (q.2 j.toNatClampNeg) :: S) z h | none => False) := hst
        cases hs : sc with
        | none => rw [hs] at hst; exact False.elim hst
        | some q =>
          rw [hs] at hst
          obtain ⟨h1, h2⟩ := hsc q hs
          exact va_sld hx hb h1 (by omega) (A := fun q => base ≤ q) (by omega) hI.2.2.2.2 hst.1 hd (hk _ _ _ _ hst.2 ls H locs cells slots hL hI)
      | _ => exact False.elim hst
    | _ => exact False.elim hst
theorem vx_s_arraylength (F : vx_Fx p R s m args meth c base b cI cS D sc lim cc ow nL lev isI) (hd : decode cc pc = .ok (.arraylength, ln)) (hln : ln = 1)
    (hk : vx_G p l e R s m args below meth c Qs base b cI cS D lim nL (pc + ln) k) : vx_G p l e R s m args below meth c Qs base b cI cS D lim nL pc (fun L S z h => vx_st sc lim (.arraylength, ln, a, b', v, ps) L S z h J Q k) := by
  subst hln
  intro L S z h hst ls H locs cells slots hL hI
  obtain ⟨hx, hb, hml, hown, hts, hK, hN, hbs, -, -, -, -, -, hsc⟩ := F
  rcases S with _ | ⟨v1, S⟩
  · exact False.elim hst
  · cases v1 with
    | ref x =>
      replace hst : (match h x with | some (.inl (n, _)) => k L (.int (Int32.ofNat n) :: S) z h | _ => False) := hst
      cases hhx : h x with
      | none => rw [hhx] at hst; exact False.elim hst
      | some q =>
        rw [hhx] at hst
        rcases q with ⟨n, f⟩ | ⟨n, f⟩ | ⟨c', fs⟩
        · exact va_alen hx hb hK hI.2.2.2.1 x 0 (hI.at hhx) rfl rfl hd (hk _ _ _ _ hst ls H locs cells slots hL hI)
        · exact False.elim hst
        · exact False.elim hst
    | float x =>
      replace hst : (match (generalizing := false) sc with | some q => k L (.int (Int32.ofNat q.1) :: S) z h | none => False) := hst
      cases hs : sc with
      | none => rw [hs] at hst; exact False.elim hst
      | some q =>
        rw [hs] at hst
        obtain ⟨h1, h2⟩ := hsc q hs
        exact va_slen hx hb h1 (by omega) (A := fun q => base ≤ q) (by omega) hI.2.2.2.2 hd (hk _ _ _ _ hst ls H locs cells slots hL hI)
    | _ => exact False.elim hst
theorem vx_s_iastore (F : vx_Fx p R s m args meth c base b cI cS D sc lim cc ow nL lev isI) (hd : decode cc pc = .ok (.iastore, ln)) (hln : ln = 1)
    (hk : vx_G p l e R s m args below meth c Qs base b cI cS D lim nL (pc + ln) k) : vx_G p l e R s m args below meth c Qs base b cI cS D lim nL pc (fun L S z h => vx_st sc lim (.iastore, ln, a, b', v, ps) L S z h J Q k) := by
  subst hln
  intro L S z h hst ls H locs cells slots hL hI
  obtain ⟨hx, hb, hml, hown, hts, hK, hN, hbs, -, -, -, -, -, hsc⟩ := F
  rcases S with _ | ⟨v1, _ | ⟨v2, _ | ⟨v3, S⟩⟩⟩
  · exact False.elim hst
  · cases v1 <;> exact False.elim hst
  · cases v1 with
    | int y => cases v2 <;> exact False.elim hst
    | _ => exact False.elim hst
  · cases v1 with
    | int y => cases v2 with
      | int j => cases v3 with
        | ref x =>
          replace hst : (match h x with | some (.inl (n, f)) => vp_in j n ∧ k L S z (vx_up h x (.inl (n, upd f j.toNatClampNeg y))) | _ => False) := hst
          cases hhx : h x with
          | none => rw [hhx] at hst; exact False.elim hst
          | some q =>
            rw [hhx] at hst
            rcases q with ⟨n, f⟩ | ⟨n, f⟩ | ⟨c', fs⟩
            · exact va_iast hx hb hK hI.2.2.2.1 (vx_w_D base b cI cS z.1 h) hI.2.2.2.2 x 0 (hI.at hhx) rfl hst.1 hd (fun H1 locs1 hP _ hS => hk _ _ _ _ hst.2 ls H1 locs1 cells slots hL (hI.put (hI.lt hhx) rfl hP hS))
            · exact False.elim hst
            · exact False.elim hst
        | _ => exact False.elim hst
      | _ => exact False.elim hst
    | _ => exact False.elim hst
theorem vx_s_aaload (F : vx_Fx p R s m args meth c base b cI cS D sc lim cc ow nL lev isI) (hd : decode cc pc = .ok (.aaload, ln)) (hln : ln = 1)
    (hk : vx_G p l e R s m args below meth c Qs base b cI cS D lim nL (pc + ln) k) : vx_G p l e R s m args below meth c Qs base b cI cS D lim nL pc (fun L S z h => vx_st sc lim (.aaload, ln, a, b', v, ps) L S z h J Q k) := by
  subst hln
  intro L S z h hst ls H locs cells slots hL hI
  obtain ⟨hx, hb, hml, hown, hts, hK, hN, hbs, -, -, -, -, -, hsc⟩ := F
  rcases S with _ | ⟨v1, _ | ⟨v2, S⟩⟩
  · exact False.elim hst
  · cases v1 <;> exact False.elim hst
  · cases v1 with
    | int j => cases v2 with
      | ref x =>
        replace hst : (match h x with | some (.inr (.inl (n, f))) => vp_in j n ∧ (match f j.toNatClampNeg with | some y => k L (.ref y :: S) z h | none => False) | _ => False) := hst
        cases hhx : h x with
        | none => rw [hhx] at hst; exact False.elim hst
        | some q =>
          rw [hhx] at hst
          rcases q with ⟨n, f⟩ | ⟨n, f⟩ | ⟨c', fs⟩
          · exact False.elim hst
          · obtain ⟨h1, h2⟩ := hst
            cases hf : f j.toNatClampNeg with
            | none => rw [hf] at h2; exact False.elim h2
            | some y =>
              rw [hf] at h2
              refine va_aldq hx hb hK hI.2.2.2.1 x 1 (hI.at hhx) rfl h1 hd ?_
              rw [hf]
              exact hk _ _ _ _ h2 ls H locs cells slots hL hI
          · exact False.elim hst
      | _ => exact False.elim hst
    | _ => exact False.elim hst
theorem vx_s_aastore (F : vx_Fx p R s m args meth c base b cI cS D sc lim cc ow nL lev isI) (hd : decode cc pc = .ok (.aastore, ln)) (hln : ln = 1)
    (hk : vx_G p l e R s m args below meth c Qs base b cI cS D lim nL (pc + ln) k) : vx_G p l e R s m args below meth c Qs base b cI cS D lim nL pc (fun L S z h => vx_st sc lim (.aastore, ln, a, b', v, ps) L S z h J Q k) := by
  subst hln
  intro L S z h hst ls H locs cells slots hL hI
  obtain ⟨hx, hb, hml, hown, hts, hK, hN, hbs, -, -, -, -, -, hsc⟩ := F
  rcases S with _ | ⟨v1, _ | ⟨v2, _ | ⟨v3, S⟩⟩⟩
  · exact False.elim hst
  · cases v1 <;> exact False.elim hst
  · cases v1 with
    | ref y => cases v2 <;> exact False.elim hst
    | _ => exact False.elim hst
  · cases v1 with
    | ref y => cases v2 with
      | int j => cases v3 with
        | ref x =>
          replace hst : (match h x with | some (.inr (.inl (n, f))) => vp_in j n ∧ vx_isob (h y) 1 ∧ k L S z (vx_up h x (.inr (.inl (n, va_up f j.toNatClampNeg (some y))))) | _ => False) := hst
          cases hhx : h x with
          | none => rw [hhx] at hst; exact False.elim hst
          | some q =>
            rw [hhx] at hst
            rcases q with ⟨n, f⟩ | ⟨n, f⟩ | ⟨c', fs⟩
            · exact False.elim hst
            · obtain ⟨h1, h2, h3⟩ := hst
              cases hhy : h y with
              | none => rw [hhy] at h2; exact False.elim h2
              | some q =>
                rw [hhy] at h2
                rcases q with ⟨n2, f2⟩ | ⟨n2, f2⟩ | ⟨c2, fs⟩
                · exact False.elim h2
                · exact False.elim h2
                · have h2 : c2 = 1 := h2
                  subst h2
                  refine va_astq hx hb hK hI.2.2.2.1 (vx_w_D base b cI cS z.1 h) hI.2.2.2.2 x 1 y 1 (r := (RX1, TX1, 3)) (hI.at hhx) rfl (hI.at hhy) rfl h1 hd (fun H1 locs1 hP _ hS => hk _ _ _ _ h3 ls H1 locs1 cells slots hL (hI.put (hI.lt hhx) ?_ hP hS))
                  show (Sum.inl _ : va_E) = Sum.inl _
                  congr 7
                  funext i
                  by_cases hi : i = j.toNatClampNeg
                  · subst hi
                    simp [va_up]
                  · simp [va_up, hi]
            · exact False.elim hst
        | _ => exact False.elim hst
      | _ => exact False.elim hst
    | _ => exact False.elim hst
theorem vx_v_def {base b : Nat} {ty : FieldType} (h : ty ≠ .float) : vx_v base b (defaultValue ty) = defaultValue ty := by cases ty <;> first | rfl | exact absurd rfl h
theorem vx_nofl : ∀ ci, ci < 8 → ∀ q, vx_cl[ci]? = some q → (List.range q.2.2).all (fun j => decide (vx_ty ci j ≠ .float)) = true := by
  intro ci hci q hq
  match ci, hci, hq with
  | 0, _, hq => cases hq; decide +kernel
  | 1, _, hq => cases hq; decide +kernel
  | 2, _, hq => cases hq; decide +kernel
  | 3, _, hq => cases hq; decide +kernel
  | 4, _, hq => cases hq; decide +kernel
  | 5, _, hq => cases hq; decide +kernel
  | 6, _, hq => cases hq; decide +kernel
  | 7, _, hq => cases hq; decide +kernel
theorem vx_kc_use {owN ix cN : Nat} {ow : String} (hcn : vx_cn[owN]? = some ow) (hf : ∃ pl, (owN, ix, cN, pl) ∈ vx_kc) : ∃ C, vx_cn[cN]? = some C ∧ Cond.classLink ow ix C ∈ vx_TB := by
  obtain ⟨pl, hm⟩ := hf
  have h1 := List.all_eq_true.mp vx_kc_ok _ hm
  unfold vx_kw at h1
  dsimp only at h1
  rw [hcn] at h1
  cases hc : vx_cn[cN]? with
  | none => rw [hc] at h1; cases h1
  | some C => rw [hc] at h1; exact ⟨C, rfl, vx_at_mem h1⟩
theorem vx_cn_cl {ci : Nat} {q : vw_C} (h : vx_cl[ci]? = some q) : vx_cn[ci]? = some q.1 := by
  match ci, h with
  | 0, h => cases h; rfl
  | 1, h => cases h; rfl
  | 2, h => cases h; rfl
  | 3, h => cases h; rfl
  | 4, h => cases h; rfl
  | 5, h => cases h; rfl
  | 6, h => cases h; rfl
  | 7, h => cases h; rfl
  | n + 8, h => simp [vx_cl] at h
theorem vx_s_new (F : vx_Fx p R s m args meth c base b cI cS D sc lim cc ow nL lev isI) {owN ix : Nat} (hcn : vx_cn[owN]? = some ow) (hd : decode cc pc = .ok (.new ix, ln)) (hln : ln = 3) (hf : ∃ pl, (owN, ix, a, pl) ∈ vx_kc) (ha : a < 8) (hb' : ∀ q, vx_cl[a]? = some q → q.2.2 = b')
    (hk : vx_G p l e R s m args below meth c Qs base b cI cS D lim nL (pc + ln) k) : vx_G p l e R s m args below meth c Qs base b cI cS D lim nL pc (fun L S z h => vx_st sc lim (.new ix, ln, a, b', v, ps) L S z h J Q k) := by
  subst hln
  intro L S z h hst ls H locs cells slots hL hI
  obtain ⟨hx, hb, hml, hown, hts, hK, hN, hbs, -, -, hlc, hls, -, hsc⟩ := F
  obtain ⟨h1, h2, h3⟩ := (hst : z.1 + 1 ≤ lim.1 ∧ z.2 + b' ≤ lim.2 ∧ k L (.ref z.1 :: S) (z.1 + 1, z.2 + b') (vx_up h z.1 (.inr (.inr (a, vx_df a)))))
  obtain ⟨C, hC, hlk⟩ := vx_kc_use hcn hf
  have hlt : a < vx_cl.length := ha
  obtain ⟨q, hq⟩ : ∃ q, vx_cl[a]? = some q := ⟨_, List.getElem?_eq_getElem hlt⟩
  obtain ⟨C', T, N⟩ := q
  have hCC : C = C' := Option.some.inj (hC.symm.trans (vx_cn_cl hq))
  subst hCC
  have hN' : N = b' := hb' _ hq
  subst hN'
  obtain ⟨u1, u2, u3, u4, u5, -⟩ := vx_cfs hq
  have i1 := hI.1
  have i2 := hI.2.1
  refine va_new (ci := a) (fs := (vx_df a).map (vx_v base b)) hx hb hts u1 (vx_ty a) u2 hown (hts _ hlk) (hts _ u4) (hts _ u5) hK hI.2.2.2.1 (vx_w_D base b cI cS z.1 h) hI.2.2.2.2 (fun q hq => Nat.le_trans hbs hq) hq ?_ (by omega) (by show slots + N ≤ _; omega) hd (fun q H1 hP hD hS => vx_sz (fun hz => ?_))
  · intro j hj
    have := List.all_eq_true.mp (vx_nofl a ha _ hq) j (List.mem_range.mpr hj)
    have hne : vx_ty a j ≠ .float := by simpa using this
    show _ = ((vx_df a).map (vx_v base b)).getD j .null
    unfold vx_df
    rw [hq]
    simp [hj, List.getD_eq_getElem?_getD]
    exact (vx_v_def hne).symm
  · obtain ⟨rfl, hI1⟩ := hI.push (x := .inr (.inr (a, vx_df a))) (n := N) h1 h2 rfl hz hP hD hS
    exact hk _ _ _ _ h3 ls H1 locs _ _ hL hI1
theorem vx_s_newarray (F : vx_Fx p R s m args meth c base b cI cS D sc lim cc ow nL lev isI) {t : ArrayType} (hd : decode cc pc = .ok (.newarray t, ln)) (hln : ln = 2) (ht : t = .int)
    (hk : vx_G p l e R s m args below meth c Qs base b cI cS D lim nL (pc + ln) k) : vx_G p l e R s m args below meth c Qs base b cI cS D lim nL pc (fun L S z h => vx_st sc lim (.newarray t, ln, a, b', v, ps) L S z h J Q k) := by
  subst hln; subst ht
  intro L S z h hst ls H locs cells slots hL hI
  obtain ⟨hx, hb, hml, hown, hts, hK, hN, hbs, -, -, hlc, hls, -, hsc⟩ := F
  rcases S with _ | ⟨v1, S⟩
  · exact False.elim hst
  · cases v1 with
    | int n =>
      obtain ⟨h0, hb1, h1, h2, h3⟩ := (hst : n = Int32.ofNat b' ∧ b' ≤ 100000 ∧ z.1 + 1 ≤ lim.1 ∧ z.2 + b' ≤ lim.2 ∧ k L (.ref z.1 :: S) (z.1 + 1, z.2 + b') (vx_up h z.1 (.inl (b', fun _ => 0))))
      subst h0
      have i1 := hI.1
      have i2 := hI.2.1
      refine va_newa (atype := .int) (ty := .int) hx hb (hts _ vx_ac1) rfl hK hI.2.2.2.1 (vx_w_D base b cI cS z.1 h) hI.2.2.2.2 (fun q hq => Nat.le_trans hbs hq) (n := Int32.ofNat b') (N' := b') (a0 := (b', .inl (fun _ => 0))) (fun cA => rfl) (nI_pos (by omega)) (nI_clamp (by omega)) (by show b' * 4 ≤ _; omega) (by omega) (by omega) hd (fun q cA H1 hK1 hP hD hS => vx_sz (fun hz => ?_))
      have e1 : s.vm.findClass _ = some cA := (hK1.2 2 (cA, .int) rfl).2
      have e2 : s.vm.findClass _ = some cI := (hK.2 0 (cI, .int) rfl).2
      have e3 : cA = cI := Option.some.inj (e1.symm.trans e2)
      subst e3
      obtain ⟨rfl, hI1⟩ := hI.push (x := .inl (b', fun _ => 0)) (n := b') h1 h2 rfl hz hP hD hS
      exact hk _ _ _ _ h3 ls H1 locs _ _ hL hI1
    | _ => exact False.elim hst
theorem vx_s_anewarray (F : vx_Fx p R s m args meth c base b cI cS D sc lim cc ow nL lev isI) {owN ix : Nat} (hcn : vx_cn[owN]? = some ow) (hd : decode cc pc = .ok (.anewarray ix, ln)) (hln : ln = 3) (hf : ∃ pl, (owN, ix, 1, pl) ∈ vx_kc)
    (hk : vx_G p l e R s m args below meth c Qs base b cI cS D lim nL (pc + ln) k) : vx_G p l e R s m args below meth c Qs base b cI cS D lim nL pc (fun L S z h => vx_st sc lim (.anewarray ix, ln, a, b', v, ps) L S z h J Q k) := by
  subst hln
  intro L S z h hst ls H locs cells slots hL hI
  obtain ⟨hx, hb, hml, hown, hts, hK, hN, hbs, -, -, hlc, hls, -, hsc⟩ := F
  rcases S with _ | ⟨v1, S⟩
  · exact False.elim hst
  · cases v1 with
    | int n =>
      obtain ⟨h0, hb1, h1, h2, h3⟩ := (hst : n = Int32.ofNat b' ∧ b' ≤ 100000 ∧ z.1 + 1 ≤ lim.1 ∧ z.2 + b' ≤ lim.2 ∧ k L (.ref z.1 :: S) (z.1 + 1, z.2 + b') (vx_up h z.1 (.inr (.inl (b', fun _ => none)))))
      subst h0
      obtain ⟨C, hC, hlk⟩ := vx_kc_use hcn hf
      have hCC : C = RX1 := Option.some.inj (hC.symm.trans rfl)
      subst hCC
      have i1 := hI.1
      have i2 := hI.2.1
      refine va_newq hx hb hown (hts _ hlk) hN.2.2 hK hI.2.2.2.1 (vx_w_D base b cI cS z.1 h) hI.2.2.2.2 (fun q hq => Nat.le_trans hbs hq) (n := Int32.ofNat b') (N' := b') (nI_pos (by omega)) (nI_clamp (by omega)) (by omega) (by omega) (by omega) hd (fun q cA H1 hK1 hP hD hS => vx_sz (fun hz => ?_))
      obtain ⟨_, _, _, _, _, e1⟩ := (hK1.2 2 (cA, .object RX1) rfl).2
      obtain ⟨_, _, _, _, _, e2⟩ := (hK.2 1 (cS, .object RX1) rfl).2
      have e3 : cA = cS := Option.some.inj (e1.symm.trans e2)
      subst e3
      obtain ⟨rfl, hI1⟩ := hI.push (x := .inr (.inl (b', fun _ => none))) (n := b') h1 h2 rfl hz hP hD hS
      exact hk _ _ _ _ h3 ls H1 locs _ _ hL hI1
    | _ => exact False.elim hst
end VXV
end
section
/-! the step is sound: constants of the pool, switches, calls -/
theorem vx_good {w : Cond} (h : w ∈ vx_TB) : (w.onTables && w.keeps) = true ∨ ∃ ty, w = .arrayClass ty := good_of_word (List.mem_filter.mp h).2
theorem vx_GI {w0 : Cond} (h : w0 ∈ vx_TB) : GoodIn vx_TB (w0 :: vx_TB) := fun w hw => by
  rcases List.mem_cons.mp hw with rfl | hw
  · exact ⟨h, vx_good h⟩
  · exact ⟨hw, vx_good hw⟩
/-- what the tables say of a method -/
def vx_mfacts (M : vx_M) : Prop := Cond.code M.1 M.2.1 M.2.2.1 M.2.2.2.1 ∈ vx_TB ∧ Cond.initialized M.1.cls ∈ vx_TB ∧ (M.1.cls ≠ "java/lang/invoke/MethodHandle" ∧ M.1.cls ≠ "java/lang/invoke/VarHandle" ∧ (parseMethodDescriptor M.1.desc).map (fun d => d.parameters.length) = some M.2.2.2.2.2.2.2.1) ∧ plainName M.1.cls = true ∧
  (M.2.2.2.2.2.2.2.2 = 0 → Cond.instanceMethod M.1 ∈ vx_TB ∧ Cond.selects M.1.cls M.1 M.1 ∈ vx_TB) ∧ (M.2.2.2.2.2.2.2.2 = 1 → Cond.static M.1 ∈ vx_TB) ∧ (M.2.2.2.2.2.2.2.2 = 2 → Cond.instanceMethod M.1 ∈ vx_TB ∧ M.1.name = "<init>" ∧ M.2.2.2.1 = none)
theorem vx_mf {M : vx_M} (h : M ∈ vx_mt) : vx_mfacts M := by
  obtain ⟨q, hq⟩ := vx_mok M h
  unfold vx_mb at hq
  simp only [Bool.and_eq_true, decide_eq_true_eq] at hq
  obtain ⟨⟨⟨⟨⟨⟨h1, h2⟩, h3⟩, h4⟩, h5⟩, h6⟩, h7⟩ := hq
  refine ⟨vx_at_mem h1, vx_at_mem h2, ⟨h3, h4, h5⟩, h6, fun e => ?_, fun e => ?_, fun e => ?_⟩
  · rw [e] at h7
    simp only [Bool.and_eq_true, decide_eq_true_eq] at h7
    exact ⟨vx_at_mem h7.1.1, vx_at_mem h7.1.2⟩
  · rw [e] at h7
    exact vx_at_mem h7
  · rw [e] at h7
    simp only [Bool.and_eq_true, decide_eq_true_eq] at h7
    exact ⟨vx_at_mem h7.1.1, h7.1.2, h7.2⟩
theorem vx_ml_use {owN ix n : Nat} {ow : String} (hcn : vx_cn[owN]? = some ow) (hf : ∃ pl, (owN, ix, n, pl) ∈ vx_ml) : ∃ M, vx_mt[n]? = some M ∧ Cond.methodLink ow ix M.1 ∈ vx_TB := by
  obtain ⟨pl, hm⟩ := hf
  have h1 := List.all_eq_true.mp vx_ml_ok _ hm
  unfold vx_mw at h1
  dsimp only at h1
  rw [hcn] at h1
  cases hc : vx_mt[n]? with
  | none => rw [hc] at h1; cases h1
  | some M => rw [hc] at h1; exact ⟨M, rfl, vx_at_mem h1⟩
theorem vx_mn_use {owN ix n : Nat} {ow : String} {s : State} (hN : vx_NW s) (hcn : vx_cn[owN]? = some ow) (hf : ∃ pl, (owN, ix, n, pl) ∈ vx_mn) : ∃ M, vx_mt[n]? = some M ∧ va_Nw (.methodLinkNest ow ix M.1 "VoteWalls") s := by
  obtain ⟨pl, hm⟩ := hf
  have h1 := List.all_eq_true.mp vx_mn_ok _ hm
  unfold vx_mw2 at h1
  dsimp only at h1
  rw [hcn] at h1
  cases hc : vx_mt[n]? with
  | none => rw [hc] at h1; cases h1
  | some M => exact ⟨M, rfl, hN.2.1 _ hm ow M hcn hc⟩
theorem vx_ms_use {owN ix n : Nat} {ow : String} (hcn : vx_cn[owN]? = some ow) (hf : ∃ pl, (owN, ix, n, pl) ∈ vx_ms) : ∃ y, vx_sn[n]? = some y ∧ Cond.methodLink ow ix y ∈ vx_TB := by
  obtain ⟨pl, hm⟩ := hf
  have h1 := List.all_eq_true.mp vx_ms_ok _ hm
  unfold vx_mw3 at h1
  dsimp only at h1
  rw [hcn] at h1
  cases hc : vx_sn[n]? with
  | none => rw [hc] at h1; cases h1
  | some y => rw [hc] at h1; exact ⟨y, rfl, vx_at_mem h1⟩
section VXC
variable {p : Program} {l : Launch} {e : Env} {R : Room} {s : State} {m : MethodId} {args : Array Value} {below : List Frame} {meth : Method} {c : Code} {Qs : State → Prop}
variable {base b : Nat} {cI cS : ClassId} {D : va_G} {sc : Option (Nat × (Nat → Int32))} {lim : vx_Z} {cc : ByteArray} {ow : String} {nL lev : Nat} {isI : Bool} {pc ln a b' : Nat} {v : Value} {ps : List (Int32 × Nat)} {J : Nat → vx_K} {Q : Option Value → vx_Z → vx_H → Prop} {k : vx_K}
variable {H : Heap} {locs : List Loc} {cells slots : Nat} {z : vx_Z} {h : vx_H}
theorem vx_s_ldc_w (F : vx_Fx p R s m args meth c base b cI cS D sc lim cc ow nL lev isI) {owN ix : Nat} {x : Int32} (hcn : vx_cn[owN]? = some ow) (hd : decode cc pc = .ok (.ldc_w ix, ln)) (hln : ln = 3) (hf : ∃ pl, (owN, ix, x, pl) ∈ vx_ki)
    (hk : vx_G p l e R s m args below meth c Qs base b cI cS D lim nL (pc + ln) k) : vx_G p l e R s m args below meth c Qs base b cI cS D lim nL pc (fun L S z h => vx_st sc lim (.ldc_w ix, ln, a, b', .int x, ps) L S z h J Q k) := by
  subst hln
  intro L S z h hst ls H locs cells slots hL hI
  obtain ⟨hx, hb, hml, hown, hts, -⟩ := F
  obtain ⟨pl, hm⟩ := hf
  have h1 := List.all_eq_true.mp vx_ki_ok _ hm
  unfold vx_iw at h1
  dsimp only at h1
  rw [hcn] at h1
  exact lv_ldcw hx hb hown (hts _ (vx_at_mem h1)) hd (hk _ _ _ _ hst ls H locs cells slots hL hI)
theorem vx_s_ldc2_w (F : vx_Fx p R s m args meth c base b cI cS D sc lim cc ow nL lev isI) {owN ix : Nat} {x : Int64} (hcn : vx_cn[owN]? = some ow) (hd : decode cc pc = .ok (.ldc2_w ix, ln)) (hln : ln = 3) (hf : ∃ pl, (owN, ix, x, pl) ∈ vx_kl)
    (hk : vx_G p l e R s m args below meth c Qs base b cI cS D lim nL (pc + ln) k) : vx_G p l e R s m args below meth c Qs base b cI cS D lim nL pc (fun L S z h => vx_st sc lim (.ldc2_w ix, ln, a, b', .long x, ps) L S z h J Q k) := by
  subst hln
  intro L S z h hst ls H locs cells slots hL hI
  obtain ⟨hx, hb, hml, hown, hts, -⟩ := F
  obtain ⟨pl, hm⟩ := hf
  have h1 := List.all_eq_true.mp vx_kl_ok _ hm
  unfold vx_lw at h1
  dsimp only at h1
  rw [hcn] at h1
  exact lv_ldc2 hx hb hown (hts _ (vx_at_mem h1)) hd (hk _ _ _ _ hst ls H locs cells slots hL hI)
/-- a table of a switch, held against the instruction's -/
def vx_tck (pc : Nat) (lo : Int) (offs : Array Int) : Nat → List (Int32 × Nat) → Bool
  | _, [] => true
  | j, (x, t) :: r => decide (x.toInt = lo + j) && decide (offs[j]? = some ((t : Int) - (pc : Int))) && vx_tck pc lo offs (j + 1) r
theorem vx_tck_sel {pc : Nat} {lo : Int} {offs : Array Int} {d : Nat} {x : Int32} : ∀ (ps : List (Int32 × Nat)) (j : Nat), vx_tck pc lo offs j ps = true →
    (∃ i, j ≤ i ∧ i < j + ps.length ∧ x.toInt = lo + i ∧ offs[i]? = some ((vx_sel ps d x : Int) - (pc : Int))) ∨ ((∀ i, j ≤ i → i < j + ps.length → x.toInt ≠ lo + (i : Int)) ∧ vx_sel ps d x = d)
  | [], j, _ => Or.inr ⟨fun i h1 h2 => by simp at h2; omega, rfl⟩
  | (y, t) :: r, j, h => by
    simp only [vx_tck, Bool.and_eq_true, decide_eq_true_eq] at h
    obtain ⟨⟨h1, h2⟩, h3⟩ := h
    by_cases hxy : x = y
    · subst hxy
      refine Or.inl ⟨j, Nat.le_refl _, by simp, h1, ?_⟩
      rw [show vx_sel ((x, t) :: r) d x = t from if_pos rfl]
      exact h2
    · have e1 : vx_sel ((y, t) :: r) d x = vx_sel r d x := if_neg hxy
      rw [e1]
      rcases vx_tck_sel (d := d) (x := x) r (j + 1) h3 with ⟨i, g1, g2, g3, g4⟩ | ⟨g1, g2⟩
      · exact Or.inl ⟨i, by omega, by simp; omega, g3, g4⟩
      · refine Or.inr ⟨fun i h4 h5 => ?_, g2⟩
        by_cases hi : i = j
        · subst hi
          intro q
          exact hxy (Int32.toInt_inj.mp (q.trans h1.symm))
        · exact g1 i (by omega) (by simp at h5; omega)
theorem vx_s_tableswitch (F : vx_Fx p R s m args meth c base b cI cS D sc lim cc ow nL lev isI) {dflt lo hi : Int} {offs : Array Int} (hd : decode cc pc = .ok (.tableswitch dflt lo hi offs, ln)) (ht : vx_tck pc lo offs 0 ps = true) (hhi : hi = lo + (ps.length : Int) - 1) (hdf : (pc : Int) + dflt = (a : Int))
    (hJ : ∀ t, vx_G p l e R s m args below meth c Qs base b cI cS D lim nL t (J t)) : vx_G p l e R s m args below meth c Qs base b cI cS D lim nL pc (fun L S z h => vx_st sc lim (.tableswitch dflt lo hi offs, ln, a, b', v, ps) L S z h J Q k) := by
  intro L S z h hst ls H locs cells slots hL hI
  obtain ⟨hx, hb, -⟩ := F
  rcases S with _ | ⟨v1, S⟩
  · exact False.elim hst
  · cases v1 with
    | int x =>
      have hst : J (vx_sel ps a x) L S z h := hst
      rcases vx_tck_sel (d := a) (x := x) ps 0 ht with ⟨i, g1, g2, g3, g4⟩ | ⟨g1, g2⟩
      · refine lv_tableIn hx hb hd (by omega) (by omega) (off := (vx_sel ps a x : Int) - (pc : Int)) ?_ (tgt := vx_sel ps a x) (by omega) (hJ _ _ _ _ _ hst ls H locs cells slots hL hI)
        rw [show (x.toInt - lo).toNat = i by omega]
        exact g4
      · rw [g2] at hst
        refine lv_tableOut hx hb hd ?_ hdf (hJ _ _ _ _ _ hst ls H locs cells slots hL hI)
        by_cases h1 : x.toInt < lo
        · exact Or.inl h1
        · by_cases h2 : hi < x.toInt
          · exact Or.inr h2
          · exfalso
            exact g1 (x.toInt - lo).toNat (Nat.zero_le _) (by omega) (by omega)
    | _ => exact False.elim hst
def vx_lck (pc : Nat) : List (Int × Int) → List (Int32 × Nat) → Bool
  | [], [] => true
  | (y, o) :: r, (x, t) :: r' => decide (x.toInt = y) && decide (o = (t : Int) - (pc : Int)) && vx_lck pc r r'
  | _, _ => false
theorem vx_lck_sel {pc d : Nat} {dflt : Int} {x : Int32} (hd : (pc : Int) + dflt = (d : Int)) : ∀ (qs : List (Int × Int)) (ps : List (Int32 × Nat)), vx_lck pc qs ps = true → Op.lookupswitch.offset qs dflt x.toInt = (vx_sel ps d x : Int) - (pc : Int)
  | [], [], _ => by
    show Op.lookupswitch.offset [] dflt x.toInt = (d : Int) - pc
    have : Op.lookupswitch.offset [] dflt x.toInt = dflt := rfl
    rw [this]; omega
  | [], _ :: _, h => by simp [vx_lck] at h
  | _ :: _, [], h => by simp [vx_lck] at h
  | (y, o) :: r, (u, t) :: r', h => by
    simp only [vx_lck, Bool.and_eq_true, decide_eq_true_eq] at h
    obtain ⟨⟨h1, h2⟩, h3⟩ := h
    by_cases hxu : x = u
    · subst hxu
      rw [Op.lookupswitch.offset_cons, if_pos h1.symm, show vx_sel ((x, t) :: r') d x = t from if_pos rfl]
      exact h2
    · rw [lv_osw hxu h1, show vx_sel ((u, t) :: r') d x = vx_sel r' d x from if_neg hxu]
      exact vx_lck_sel hd r r' h3
theorem vx_s_lookupswitch (F : vx_Fx p R s m args meth c base b cI cS D sc lim cc ow nL lev isI) {dflt : Int} {qs : Array (Int × Int)} (hd : decode cc pc = .ok (.lookupswitch dflt qs, ln)) (hp : (qs.toList.zip (qs.toList.drop 1)).all (fun (a, next) => a.1 < next.1) = true) (ht : vx_lck pc qs.toList ps = true) (hdf : (pc : Int) + dflt = (a : Int))
    (hJ : ∀ t, vx_G p l e R s m args below meth c Qs base b cI cS D lim nL t (J t)) : vx_G p l e R s m args below meth c Qs base b cI cS D lim nL pc (fun L S z h => vx_st sc lim (.lookupswitch dflt qs, ln, a, b', v, ps) L S z h J Q k) := by
  intro L S z h hst ls H locs cells slots hL hI
  obtain ⟨hx, hb, -⟩ := F
  rcases S with _ | ⟨v1, S⟩
  · exact False.elim hst
  · cases v1 with
    | int x =>
      have hst : J (vx_sel ps a x) L S z h := hst
      exact lv_lookup hx hb hd hp (vx_lck_sel hdf qs.toList ps ht) (tgt := vx_sel ps a x) (by omega) (hJ _ _ _ _ _ hst ls H locs cells slots hL hI)
    | _ => exact False.elim hst
/-- what a call that has ended says -/
theorem vx_call {mc ms : Nat} {P : Option Value → vx_H → Prop} {a0 : Array Value} {rest st0 : List Value} {ls : Array Slot} (hr : va_Run p l e R s m args below meth c H locs cells slots mc ms (F0 m pc ls st0) rest (vx_Qc base b cI cS D (z.1 + mc) P a0) (fun q => base ≤ q)) (hI : vx_In s base b cI cS D lim H locs cells slots z h) (hl1 : z.1 + mc ≤ lim.1) (hl2 : z.2 + ms ≤ lim.2)
    (kk : ∀ r h', P r h' → ∀ H1 locs1, vx_In s base b cI cS D lim H1 locs1 (cells + mc) (slots + ms) (z.1 + mc, z.2 + ms) h' → W p l e R s m args below meth c H1 locs1 (cells + mc) (slots + ms) Qs (F0 m (pc + 3) ls ((r.map (vx_v base b)).toList ++ rest))) :
    W p l e R s m args below meth c H locs cells slots Qs (F0 m pc ls st0) := by
  intro T hT X
  obtain ⟨v, st₀, t, T', L, h0, X', hL, e1, e2, ⟨⟨r, h', hp, hv, hs, hP⟩, hz, hk⟩, st⟩ := hr T hT X
  cases hv
  rw [h0] at hz hk
  have i1 := hI.1
  have i2 := hI.2.1
  have hS := hI.2.2.2.2
  obtain ⟨t2, a1, b1⟩ := kk r h' hp T'.heap (locs ++ L) ⟨by dsimp only; omega, ⟨by dsimp only; omega, hl1, hl2⟩, hs, by rw [e1]; exact hP, Nat.le_trans hS.1 (by rw [e1]; exact hz),
    fun q h1 h2 => by rw [e1, hk q (Nat.lt_of_lt_of_le h1 hS.1) h2]; exact hS.2.1 q h1 h2, fun q hq => by
      rcases List.mem_append.mp hq with h | h
      · exact hS.2.2 q h
      · exact hL q h⟩ T' rfl X'
  exact ⟨t2, st t2 a1, b1⟩
theorem vx_In.size (hI : vx_In s base b cI cS D lim H locs cells slots z h) (hbs : base ≤ s.heap.size) (hz : H.size ≤ s.heap.size + cells) : H.size = base + z.1 := by
  have i1 := hI.1
  have hS := hI.2.2.2.2.1
  by_cases h0 : z.1 = 0
  · omega
  · have hx : (vx_w base b cI cS z.1 h)[z.1 - 1]? = some (base + (z.1 - 1), vx_e base b cI cS ((h (z.1 - 1)).getD (.inl (0, fun _ => 0)))) := by
      simp [vx_w, show z.1 - 1 < z.1 by omega]
    have := (hI.2.2.2.1 _ _ hx).lt
    dsimp only at this
    omega
theorem vx_pre {As : List Value} {U : State} (hI : vx_In s base b cI cS D lim H locs cells slots z h) (hsz : H.size = base + z.1) (hK : va_K D vx_cl (vx_tys cI cS) s) (hN : vx_NW s) (hU : U.heap = H) (hW : s.WarmedH U.vm) : vx_Pc base b cI cS D As z.1 h (As.map (vx_v base b)).toArray U :=
  ⟨rfl, by rw [hU]; exact hsz, hI.2.2.1, by rw [hU]; exact hI.2.2.2.1, va_K.moved hW.alike hK, hN.warm hW⟩
theorem vx_cat_le (S : List Value) : (S.map fun v => v.category).sum ≤ 2 * S.length := by
  induction S with
  | nil => simp
  | cons v S ih =>
    have : v.category ≤ 2 := by cases v <;> simp [Value.category]
    simp only [List.map_cons, List.sum_cons, List.length_cons]
    omega
theorem vx_room {S : List Value} {ls : Array Slot} {st : List Value} (h : S.length ≤ 4) : 2 * (F0 m pc ls st).monitorRoom + (((S.map (vx_v base b)).map fun v => v.category).sum) ≤ 8 := by
  refine lv_room ?_
  have := vx_cat_le (S.map (vx_v base b))
  simp only [List.length_map] at this
  omega
theorem vx_stack {S As : List Value} {n : Nat} {x : Nat} (h : (S.take (n + 1)).reverse = .ref x :: As) : S.map (vx_v base b) = (As.map (vx_v base b)).reverse ++ .ref (base + x) :: (S.drop (n + 1)).map (vx_v base b) := by
  have h1 : S.take (n + 1) = As.reverse ++ [.ref x] := by rw [← List.reverse_reverse (S.take (n + 1)), h, List.reverse_cons]
  conv => lhs; rw [← List.take_append_drop (n + 1) S]
  rw [h1]
  simp [vx_v]
theorem vx_toL {r : Option Value} {S : List Value} : (r.map (vx_v base b)).toList ++ S.map (vx_v base b) = (r.toList ++ S).map (vx_v base b) := by cases r <;> simp
theorem vx_s_invokevirtual (F : vx_Fx p R s m args meth c base b cI cS D sc lim cc ow nL lev isI) {owN ix : Nat} (hcn : vx_cn[owN]? = some ow) (hd : decode cc pc = .ok (.invokevirtual ix, ln)) (hln : ln = 3) (hf : ∃ pl, (owN, ix, a, pl) ∈ vx_ml)
    (hM : ∀ M, vx_mt[a]? = some M → M.2.2.2.2.2.2.2.2 = 0 ∧ M.2.2.2.2.2.2.2.1 = b' ∧ M.2.2.2.2.2.1 = 0 ∧ M.2.2.2.2.2.2.1 = 0 ∧ M.2.2.2.2.1 + 1 ≤ lev ∧ 8 + (M.2.2.1 + 11) + 40 * M.2.2.2.2.1 ≤ 40 * lev ∧ (vx_cl[ps.length]?).map (·.1) = some M.1.cls)
    (hk : vx_G p l e R s m args below meth c Qs base b cI cS D lim nL (pc + ln) k) : vx_G p l e R s m args below meth c Qs base b cI cS D lim nL pc (fun L S z h => vx_st sc lim (.invokevirtual ix, ln, a, b', v, ps) L S z h J Q k) := by
  subst hln
  intro L S z h hst ls H locs cells slots hL hI
  obtain ⟨hx, hb, hml, hown, hts, hK, hN, hbs, hfr, hlo, hlc, hls, -, hsc⟩ := F
  replace hst : (match (S.take (b' + 1)).reverse with | .ref x :: As => As.length = b' ∧ (S.drop (b' + 1)).length ≤ 4 ∧ vx_isob (h x) ps.length ∧ ∃ P, vx_Ok a (.ref x :: As) z.1 h P ∧ ∀ r h', P r h' → k L (r.toList ++ S.drop (b' + 1)) z h' | _ => False) := hst
  split at hst
  · rename_i x As hT
    obtain ⟨hlen, h4, hob, P, hOk, hcont⟩ := hst
    obtain ⟨M, hMt, hlk⟩ := vx_ml_use hcn hf
    obtain ⟨m1, m2, m3, m4, m5, m6, m7⟩ := hM M hMt
    obtain ⟨f1, f2, f3, f4, f5, -, -⟩ := vx_mf (List.mem_of_getElem? hMt)
    obtain ⟨f5a, f5b⟩ := f5 m1
    cases hhx : h x with
    | none => rw [hhx] at hob; exact False.elim hob
    | some q =>
      rw [hhx] at hob
      rcases q with ⟨n, f⟩ | ⟨n, f⟩ | ⟨c', fs⟩
      · exact False.elim hob
      · exact False.elim hob
      · have hob : c' = ps.length := hob
        subst hob
        cases hcl : vx_cl[ps.length]? with
        | none => rw [hcl] at m7; cases m7
        | some q =>
          rw [hcl] at m7
          have hcls : q.1 = M.1.cls := Option.some.inj m7
          refine vx_sz (fun hz => ?_)
          have hsz := hI.size hbs hz
          have hrec := va_recv hK hI.2.2.2.1 hcl (hI.at hhx)
          rw [hcls] at hrec
          have i1 := hI.1
          have i2 := hI.2.1
          have hMet := hOk M hMt l base b cI cS D
          have hrun := va_runV (p := p) (e := e) (below := below) (meth := meth) (H := H) (locs := locs) (cells := cells) (slots := slots) (As := As.map (vx_v base b)) (rest := (S.drop (b' + 1)).map (vx_v base b)) (g := F0 m pc ls (S.map (vx_v base b))) (R := R) (Ts := vx_TB) ⟨hx, hb, hml, hown, hts⟩ hMet
            ⟨callB_of b' hts (vx_GI f1) rfl rfl rfl (hts _ f2) (hts _ hlk) ⟨f3.1, f3.2.1, by rw [f3.2.2, m2]⟩ ⟨by show M.2.2.2.2.1 + 1 ≤ R.frames; omega, by show 8 + (M.2.2.1 + 11) + 40 * M.2.2.2.2.1 ≤ R.locals; omega⟩, hts _ f5a, hts _ f5b⟩
            ⟨vx_Pc.blind _ _ _ _ _ _ _ _, hrec, fun U hU hW => vx_pre (As := .ref x :: As) hI hsz hK hN hU hW⟩ rfl (by rw [List.length_map]; exact hlen) hL.2.1 (vx_stack hT) (vx_room h4) hd ⟨by omega, by omega⟩
          rw [m3, m4] at hrun
          refine vx_call hrun hI (by omega) (by omega) (fun r h' hp H1 locs1 hI1 => ?_)
          rw [vx_toL]
          exact hk _ _ _ _ (hcont r h' hp) ls H1 locs1 _ _ hL hI1
  · exact False.elim hst
end VXC
end
section
/-! the step is sound: static calls, constructors, the library's own -/
section VXD
variable {p : Program} {l : Launch} {e : Env} {R : Room} {s : State} {m : MethodId} {args : Array Value} {below : List Frame} {meth : Method} {c : Code} {Qs : State → Prop}
variable {base b : Nat} {cI cS : ClassId} {D : va_G} {sc : Option (Nat × (Nat → Int32))} {lim : vx_Z} {cc : ByteArray} {ow : String} {nL lev : Nat} {isI : Bool} {pc ln a b' : Nat} {v : Value} {ps : List (Int32 × Nat)} {J : Nat → vx_K} {Q : Option Value → vx_Z → vx_H → Prop} {k : vx_K}
variable {H : Heap} {locs : List Loc} {cells slots : Nat} {z : vx_Z} {h : vx_H}
theorem vx_stackS {S : List Value} {n : Nat} : S.map (vx_v base b) = ((S.take n).reverse.map (vx_v base b)).reverse ++ (S.drop n).map (vx_v base b) := by
  conv => lhs; rw [← List.take_append_drop n S]
  simp
theorem vx_s_invokestatic (F : vx_Fx p R s m args meth c base b cI cS D sc lim cc ow nL lev isI) {owN ix : Nat} (hcn : vx_cn[owN]? = some ow) (hd : decode cc pc = .ok (.invokestatic ix, ln)) (hln : ln = 3) (hf : (∃ pl, (owN, ix, a, pl) ∈ vx_ml) ∨ (∃ pl, (owN, ix, a, pl) ∈ vx_mn))
    (hM : ∀ M, vx_mt[a]? = some M → M.2.2.2.2.2.2.2.2 = 1 ∧ M.2.2.2.2.2.2.2.1 = b' ∧ M.2.2.2.2.2.1 = 0 ∧ M.2.2.2.2.2.2.1 = 0 ∧ M.2.2.2.2.1 + 1 ≤ lev ∧ 8 + (M.2.2.1 + 11) + 40 * M.2.2.2.2.1 ≤ 40 * lev)
    (hk : vx_G p l e R s m args below meth c Qs base b cI cS D lim nL (pc + ln) k) : vx_G p l e R s m args below meth c Qs base b cI cS D lim nL pc (fun L S z h => vx_st sc lim (.invokestatic ix, ln, a, b', .null, ps) L S z h J Q k) := by
  subst hln
  intro L S z h hst ls H locs cells slots hL hI
  obtain ⟨hx, hb, hml, hown, hts, hK, hN, hbs, hfr, hlo, hlc, hls, -, hsc⟩ := F
  obtain ⟨hlen, h4, P, hOk, hcont⟩ := (hst : (S.take b').length = b' ∧ (S.drop b').length ≤ 4 ∧ ∃ P, vx_Ok a (S.take b').reverse z.1 h P ∧ ∀ r h', P r h' → k L (r.toList ++ S.drop b') z h')
  refine vx_sz (fun hz => ?_)
  have hsz := hI.size hbs hz
  have i1 := hI.1
  have i2 := hI.2.1
  rcases hf with hf | hf
  · obtain ⟨M, hMt, hlk⟩ := vx_ml_use hcn hf
    obtain ⟨m1, m2, m3, m4, m5, m6⟩ := hM M hMt
    obtain ⟨f1, f2, f3, f4, -, f5, -⟩ := vx_mf (List.mem_of_getElem? hMt)
    have hMet := hOk M hMt l base b cI cS D
    have hrun := va_runS (p := p) (e := e) (below := below) (meth := meth) (H := H) (locs := locs) (cells := cells) (slots := slots) (As := (S.take b').reverse.map (vx_v base b)) (rest := (S.drop b').map (vx_v base b)) (g := F0 m pc ls (S.map (vx_v base b))) (R := R) (Ts := vx_TB) ⟨hx, hb, hml, hown, hts⟩ hMet
      ⟨callB_of b' hts (vx_GI f1) rfl rfl rfl (hts _ f2) (hts _ hlk) ⟨f3.1, f3.2.1, by rw [f3.2.2, m2]⟩ ⟨by show M.2.2.2.2.1 + 1 ≤ R.frames; omega, by show 8 + (M.2.2.1 + 11) + 40 * M.2.2.2.2.1 ≤ R.locals; omega⟩, hts _ (f5 m1)⟩
      ⟨vx_Pc.blind _ _ _ _ _ _ _ _, fun U hU hW => vx_pre hI hsz hK hN hU hW⟩ rfl (by rw [List.length_map, List.length_reverse]; exact hlen) hL.2.1 vx_stackS (vx_room h4) hd ⟨by omega, by omega⟩
    rw [m3, m4] at hrun
    refine vx_call hrun hI (by omega) (by omega) (fun r h' hp H1 locs1 hI1 => ?_)
    rw [vx_toL]
    exact hk _ _ _ _ (hcont r h' hp) ls H1 locs1 _ _ hL hI1
  · obtain ⟨M, hMt, hlk⟩ := vx_mn_use hN hcn hf
    obtain ⟨m1, m2, m3, m4, m5, m6⟩ := hM M hMt
    obtain ⟨f1, f2, f3, f4, -, f5, -⟩ := vx_mf (List.mem_of_getElem? hMt)
    have hMet := hOk M hMt l base b cI cS D
    have hrun := va_runSN (p := p) (e := e) (below := below) (meth := meth) (H := H) (locs := locs) (cells := cells) (slots := slots) (As := (S.take b').reverse.map (vx_v base b)) (rest := (S.drop b').map (vx_v base b)) (g := F0 m pc ls (S.map (vx_v base b))) (R := R) (Ts := vx_TB) ⟨hx, hb, hml, hown, hts⟩ hMet
      ⟨va_cnB b' hts (vx_GI f1) rfl rfl rfl hlk (hts _ f2) ⟨f3.1, f3.2.1, by rw [f3.2.2, m2]⟩ ⟨by show M.2.2.2.2.1 + 1 ≤ R.frames; omega, by show 8 + (M.2.2.1 + 11) + 40 * M.2.2.2.2.1 ≤ R.locals; omega⟩, hts _ (f5 m1), trivial⟩
      ⟨vx_Pc.blind _ _ _ _ _ _ _ _, fun U hU hW => vx_pre hI hsz hK hN hU hW⟩ rfl (by rw [List.length_map, List.length_reverse]; exact hlen) hL.2.1 vx_stackS (vx_room h4) hd ⟨by omega, by omega⟩
    rw [m3, m4] at hrun
    refine vx_call hrun hI (by omega) (by omega) (fun r h' hp H1 locs1 hI1 => ?_)
    rw [vx_toL]
    exact hk _ _ _ _ (hcont r h' hp) ls H1 locs1 _ _ hL hI1
theorem vx_s_invokespecial (F : vx_Fx p R s m args meth c base b cI cS D sc lim cc ow nL lev isI) {owN ix : Nat} (hcn : vx_cn[owN]? = some ow) (hd : decode cc pc = .ok (.invokespecial ix, ln)) (hln : ln = 3) (hf : (∃ pl, (owN, ix, a, pl) ∈ vx_ml) ∨ (∃ pl, (owN, ix, a, pl) ∈ vx_mn))
    (hM : ∀ M, vx_mt[a]? = some M → M.2.2.2.2.2.2.2.2 = 2 ∧ M.2.2.2.2.2.2.2.1 = b' ∧ M.2.2.2.2.2.1 = (ps.map (·.2)).headD 0 ∧ M.2.2.2.2.2.2.1 = (ps.map (·.2)).getLastD 0 ∧ M.2.2.2.2.1 + 1 ≤ lev ∧ 8 + (M.2.2.1 + 11) + 40 * M.2.2.2.2.1 ≤ 40 * lev)
    (hk : vx_G p l e R s m args below meth c Qs base b cI cS D lim nL (pc + ln) k) : vx_G p l e R s m args below meth c Qs base b cI cS D lim nL pc (fun L S z h => vx_st sc lim (.invokespecial ix, ln, a, b', .null, ps) L S z h J Q k) := by
  subst hln
  intro L S z h hst ls H locs cells slots hL hI
  obtain ⟨hx, hb, hml, hown, hts, hK, hN, hbs, hfr, hlo, hlc, hls, -, hsc⟩ := F
  generalize hmc : (ps.map (·.2)).headD 0 = mc at hM
  generalize hms : (ps.map (·.2)).getLastD 0 = ms at hM
  replace hst : (match (S.take (b' + 1)).reverse with | .ref x :: As => As.length = b' ∧ (S.drop (b' + 1)).length ≤ 4 ∧ z.1 + mc ≤ lim.1 ∧ z.2 + ms ≤ lim.2 ∧ ∃ P, vx_Ok a (.ref x :: As) z.1 h P ∧ ∀ r h', P r h' → k L (r.toList ++ S.drop (b' + 1)) (z.1 + mc, z.2 + ms) h' | _ => False) := by
    rw [← hmc, ← hms]
    exact hst
  split at hst
  · rename_i x As hT
    obtain ⟨hlen, h4, hz1, hz2, P, hOk, hcont⟩ := hst
    refine vx_sz (fun hz => ?_)
    have hsz := hI.size hbs hz
    have i1 := hI.1
    have i2 := hI.2.1
    rcases hf with hf | hf
    · obtain ⟨M, hMt, hlk⟩ := vx_ml_use hcn hf
      obtain ⟨m1, m2, m3, m4, m5, m6⟩ := hM M hMt
      obtain ⟨f1, f2, f3, f4, -, -, f5⟩ := vx_mf (List.mem_of_getElem? hMt)
      obtain ⟨f5a, f5b, f5c⟩ := f5 m1
      have hMet := hOk M hMt l base b cI cS D
      have hrun := va_runI (p := p) (e := e) (below := below) (meth := meth) (H := H) (locs := locs) (cells := cells) (slots := slots) (As := As.map (vx_v base b)) (rest := (S.drop (b' + 1)).map (vx_v base b)) (g := F0 m pc ls (S.map (vx_v base b))) (R := R) (Ts := vx_TB) (maxL := M.2.2.1) (bytes := M.2.1) ⟨hx, hb, hml, hown, hts⟩ hMet
        ⟨callB_of b' hts (vx_GI f1) (by rw [f5c]) rfl rfl (hts _ f2) (hts _ hlk) ⟨f3.1, f3.2.1, by rw [f3.2.2, m2]⟩ ⟨by show M.2.2.2.2.1 + 1 ≤ R.frames; omega, by show 8 + (M.2.2.1 + 11) + 40 * M.2.2.2.2.1 ≤ R.locals; omega⟩, f5b, hts _ f5a⟩
        ⟨vx_Pc.blind _ _ _ _ _ _ _ _, fun U hU hW => vx_pre (As := .ref x :: As) hI hsz hK hN hU hW⟩ rfl (by rw [List.length_map]; exact hlen) hL.2.1 (vx_stack hT) (vx_room h4) hd ⟨by omega, by omega⟩
      rw [m3, m4] at hrun
      refine vx_call hrun hI (by omega) (by omega) (fun r h' hp H1 locs1 hI1 => ?_)
      rw [vx_toL]
      exact hk _ _ _ _ (hcont r h' hp) ls H1 locs1 _ _ hL hI1
    · obtain ⟨M, hMt, hlk⟩ := vx_mn_use hN hcn hf
      obtain ⟨m1, m2, m3, m4, m5, m6⟩ := hM M hMt
      obtain ⟨f1, f2, f3, f4, -, -, f5⟩ := vx_mf (List.mem_of_getElem? hMt)
      obtain ⟨f5a, f5b, f5c⟩ := f5 m1
      have hMet := hOk M hMt l base b cI cS D
      have hrun := va_runIN (p := p) (e := e) (below := below) (meth := meth) (H := H) (locs := locs) (cells := cells) (slots := slots) (As := As.map (vx_v base b)) (rest := (S.drop (b' + 1)).map (vx_v base b)) (g := F0 m pc ls (S.map (vx_v base b))) (R := R) (Ts := vx_TB) (maxL := M.2.2.1) (bytes := M.2.1) ⟨hx, hb, hml, hown, hts⟩ hMet
        ⟨va_cnB b' hts (vx_GI f1) (by rw [f5c]) rfl rfl hlk (hts _ f2) ⟨f3.1, f3.2.1, by rw [f3.2.2, m2]⟩ ⟨by show M.2.2.2.2.1 + 1 ≤ R.frames; omega, by show 8 + (M.2.2.1 + 11) + 40 * M.2.2.2.2.1 ≤ R.locals; omega⟩, f5b, hts _ f5a⟩
        ⟨vx_Pc.blind _ _ _ _ _ _ _ _, fun U hU hW => vx_pre (As := .ref x :: As) hI hsz hK hN hU hW⟩ rfl (by rw [List.length_map]; exact hlen) hL.2.1 (vx_stack hT) (vx_room h4) hd ⟨by omega, by omega⟩
      rw [m3, m4] at hrun
      refine vx_call hrun hI (by omega) (by omega) (fun r h' hp H1 locs1 hI1 => ?_)
      rw [vx_toL]
      exact hk _ _ _ _ (hcont r h' hp) ls H1 locs1 _ _ hL hI1
  · exact False.elim hst
theorem vx_s_objInit (F : vx_Fx p R s m args meth c base b cI cS D sc lim cc ow nL lev isI) {owN ix : Nat} {u : Int32} (hcn : vx_cn[owN]? = some ow) (hd : decode cc pc = .ok (.invokespecial ix, ln)) (hln : ln = 3) (hf : ∃ pl, (owN, ix, 0, pl) ∈ vx_ms) (hlev : 1 ≤ lev)
    (hk : vx_G p l e R s m args below meth c Qs base b cI cS D lim nL (pc + ln) k) : vx_G p l e R s m args below meth c Qs base b cI cS D lim nL pc (fun L S z h => vx_st sc lim (.invokespecial ix, ln, a, b', .int u, ps) L S z h J Q k) := by
  subst hln
  intro L S z h hst ls H locs cells slots hL hI
  obtain ⟨hx, hb, hml, hown, hts, hK, hN, hbs, hfr, hlo, hlc, hls, -, hsc⟩ := F
  rcases S with _ | ⟨v1, S⟩
  · exact False.elim hst
  · cases v1 with
    | ref x =>
      obtain ⟨h4, hst⟩ := (hst : S.length ≤ 4 ∧ k L S z h)
      obtain ⟨y, hy, hlk⟩ := vx_ms_use hcn hf
      cases hy
      have := vx_cat_le (S.map (vx_v base b))
      simp only [List.length_map] at this
      refine W.objInit hx hb hown (hts _ hlk) (hts _ vx_oi.1) (hts _ vx_oi.2) rfl (by rw [hml]; exact hL.2.1) rfl hd (by omega) (by show 2 * 0 + _ + 12 ≤ _; omega) ?_
      exact hk _ _ _ _ hst ls H locs cells slots hL hI
    | _ => exact False.elim hst
theorem vx_s_arraycopy (F : vx_Fx p R s m args meth c base b cI cS D sc lim cc ow nL lev isI) {owN ix : Nat} {u : Int32} (hcn : vx_cn[owN]? = some ow) (hd : decode cc pc = .ok (.invokestatic ix, ln)) (hln : ln = 3) (hf : ∃ pl, (owN, ix, 1, pl) ∈ vx_ms) (hlev : 1 ≤ lev)
    (hk : vx_G p l e R s m args below meth c Qs base b cI cS D lim nL (pc + ln) k) : vx_G p l e R s m args below meth c Qs base b cI cS D lim nL pc (fun L S z h => vx_st sc lim (.invokestatic ix, ln, a, b', .int u, ps) L S z h J Q k) := by
  subst hln
  intro L S z h hst ls H locs cells slots hL hI
  obtain ⟨hx, hb, hml, hown, hts, hK, hN, hbs, hfr, hlo, hlc, hls, -, hsc⟩ := F
  replace hst : (match (generalizing := false) S with | .int n :: .int dp :: .ref y :: .int sp :: .ref x :: S => (match h x, h y with | some (.inl (n0, f)), some (.inl (n1, g)) => S.length ≤ 4 ∧ ¬ sp < 0 ∧ ¬ dp < 0 ∧ ¬ n < 0 ∧ sp.toNatClampNeg + n.toNatClampNeg ≤ n0 ∧ dp.toNatClampNeg + n.toNatClampNeg ≤ n1 ∧ k L S z (vx_up h y (.inl (n1, va_cpy f g sp.toNatClampNeg dp.toNatClampNeg n.toNatClampNeg))) | _, _ => False) | _ => False) := hst
  split at hst
  · rename_i n dp y sp x S
    split at hst
    · rename_i n0 f n1 g hhx hhy
      obtain ⟨h4, g1, g2, g3, g4, g5, hst⟩ := hst
      obtain ⟨yy, hy, hlk⟩ := vx_ms_use hcn hf
      cases hy
      have := vx_cat_le (S.map (vx_v base b))
      simp only [List.length_map] at this
      have hw : nativeFrameWords "java/lang/System" "arraycopy" 5 = 7 := by decide
      exact va_copyi hx hb (by rw [hml]; exact hL.2.1.symm) hown (hts _ hlk) (hts _ vx_ac.1) (hts _ vx_ac.2.1) (hts _ vx_ac.2.2) hK hI.2.2.2.1 (vx_w_D base b cI cS z.1 h) hI.2.2.2.2 x y 0 0 (hI.at hhx) (hI.at hhy) rfl rfl rfl g1 g2 g3 g4 g5 (fun _ _ => rfl) (by omega) (by rw [hw]; omega) hd
        (fun H1 locs1 hP _ hS => hk _ _ _ _ hst ls H1 locs1 cells slots hL (hI.put (hI.lt hhy) rfl hP hS))
    · exact False.elim hst
  · exact False.elim hst
theorem vx_s_min (F : vx_Fx p R s m args meth c base b cI cS D sc lim cc ow nL lev isI) {owN ix : Nat} {u : Int64} (hcn : vx_cn[owN]? = some ow) (hd : decode cc pc = .ok (.invokestatic ix, ln)) (hln : ln = 3) (hf : ∃ pl, (owN, ix, 2, pl) ∈ vx_ms) (hlev : 1 ≤ lev)
    (hk : vx_G p l e R s m args below meth c Qs base b cI cS D lim nL (pc + ln) k) : vx_G p l e R s m args below meth c Qs base b cI cS D lim nL pc (fun L S z h => vx_st sc lim (.invokestatic ix, ln, a, b', .long u, ps) L S z h J Q k) := by
  subst hln
  intro L S z h hst ls H locs cells slots hL hI
  obtain ⟨hx, hb, hml, hown, hts, hK, hN, hbs, hfr, hlo, hlc, hls, -, hsc⟩ := F
  replace hst : (match (generalizing := false) S with | .int y :: .int x :: S => S.length ≤ 4 ∧ k L (.int (if y < x then y else x) :: S) z h | _ => False) := hst
  split at hst
  · rename_i y x S
    obtain ⟨h4, hst⟩ := hst
    obtain ⟨yy, hy, hlk⟩ := vx_ms_use hcn hf
    cases hy
    have := vx_cat_le (S.map (vx_v base b))
    simp only [List.length_map] at this
    have i1 := hI.1
    have i2 := hI.2.1
    exact va_mmin hx hb (by rw [hml]; exact hL.2.1.symm) hown (hts _ hlk) (hts _ vx_min.1) (hts _ vx_min.2.1) (hts _ vx_min.2.2) (by omega) (by omega) (by omega) (by omega) hd (hk _ _ _ _ hst ls H locs cells slots hL hI)
  · exact False.elim hst
theorem vx_s_max (F : vx_Fx p R s m args meth c base b cI cS D sc lim cc ow nL lev isI) {owN ix : Nat} {u : UInt32} (hcn : vx_cn[owN]? = some ow) (hd : decode cc pc = .ok (.invokestatic ix, ln)) (hln : ln = 3) (hf : ∃ pl, (owN, ix, 3, pl) ∈ vx_ms) (hlev : 1 ≤ lev)
    (hk : vx_G p l e R s m args below meth c Qs base b cI cS D lim nL (pc + ln) k) : vx_G p l e R s m args below meth c Qs base b cI cS D lim nL pc (fun L S z h => vx_st sc lim (.invokestatic ix, ln, a, b', .float u, ps) L S z h J Q k) := by
  subst hln
  intro L S z h hst ls H locs cells slots hL hI
  obtain ⟨hx, hb, hml, hown, hts, hK, hN, hbs, hfr, hlo, hlc, hls, -, hsc⟩ := F
  replace hst : (match (generalizing := false) S with | .int y :: .int x :: S => S.length ≤ 4 ∧ k L (.int (if x < y then y else x) :: S) z h | _ => False) := hst
  split at hst
  · rename_i y x S
    obtain ⟨h4, hst⟩ := hst
    obtain ⟨yy, hy, hlk⟩ := vx_ms_use hcn hf
    cases hy
    have := vx_cat_le (S.map (vx_v base b))
    simp only [List.length_map] at this
    have i1 := hI.1
    have i2 := hI.2.1
    exact va_mmax hx hb (by rw [hml]; exact hL.2.1.symm) hown (hts _ hlk) (hts _ vx_max.1) (hts _ vx_max.2.1) (hts _ vx_max.2.2) (by omega) (by omega) (by omega) (by omega) hd (hk _ _ _ _ hst ls H locs cells slots hL hI)
  · exact False.elim hst
theorem vx_s_abs (F : vx_Fx p R s m args meth c base b cI cS D sc lim cc ow nL lev isI) {owN ix : Nat} {u : UInt64} (hcn : vx_cn[owN]? = some ow) (hd : decode cc pc = .ok (.invokestatic ix, ln)) (hln : ln = 3) (hf : ∃ pl, (owN, ix, 4, pl) ∈ vx_ms) (hlev : 1 ≤ lev)
    (hk : vx_G p l e R s m args below meth c Qs base b cI cS D lim nL (pc + ln) k) : vx_G p l e R s m args below meth c Qs base b cI cS D lim nL pc (fun L S z h => vx_st sc lim (.invokestatic ix, ln, a, b', .double u, ps) L S z h J Q k) := by
  subst hln
  intro L S z h hst ls H locs cells slots hL hI
  obtain ⟨hx, hb, hml, hown, hts, hK, hN, hbs, hfr, hlo, hlc, hls, -, hsc⟩ := F
  replace hst : (match (generalizing := false) S with | .int x :: S => S.length ≤ 4 ∧ k L (.int (if 0 ≤ x then x else 0 - x) :: S) z h | _ => False) := hst
  split at hst
  · rename_i x S
    obtain ⟨h4, hst⟩ := hst
    obtain ⟨yy, hy, hlk⟩ := vx_ms_use hcn hf
    cases hy
    have := vx_cat_le (S.map (vx_v base b))
    simp only [List.length_map] at this
    have i1 := hI.1
    have i2 := hI.2.1
    exact va_mabs hx hb (by rw [hml]; exact hL.2.1.symm) hown (hts _ hlk) (hts _ vx_abs.1) (hts _ vx_abs.2.1) (hts _ vx_abs.2.2) (by omega) (by omega) (by omega) (by omega) hd (hk _ _ _ _ hst ls H locs cells slots hL hI)
  · exact False.elim hst
end VXD
end
section
/-! the check of a method's items, and a method's contract out of its blocks -/
def vx_any4 (l : List (Nat × Nat × Nat × Nat)) (x y w : Nat) : Bool := l.any (fun q => decide (q.1 = x ∧ q.2.1 = y ∧ q.2.2.1 = w))
def vx_any5 (l : List (Nat × Nat × Nat × Nat × Nat)) (x y w u : Nat) : Bool := l.any (fun q => decide (q.1 = x ∧ q.2.1 = y ∧ q.2.2.1 = w ∧ q.2.2.2.1 = u))
theorem vx_any4_use {l : List (Nat × Nat × Nat × Nat)} {x y w : Nat} (h : vx_any4 l x y w = true) : ∃ pl, (x, y, w, pl) ∈ l := by
  obtain ⟨⟨q1, q2, q3, q4⟩, hq, h⟩ := List.any_eq_true.mp h
  simp only [decide_eq_true_eq] at h
  obtain ⟨rfl, rfl, rfl⟩ := h
  exact ⟨q4, hq⟩
theorem vx_any5_use {l : List (Nat × Nat × Nat × Nat × Nat)} {x y w u : Nat} (h : vx_any5 l x y w u = true) : ∃ pl, (x, y, w, u, pl) ∈ l := by
  obtain ⟨⟨q1, q2, q3, q4, q5⟩, hq, h⟩ := List.any_eq_true.mp h
  simp only [decide_eq_true_eq] at h
  obtain ⟨rfl, rfl, rfl, rfl⟩ := h
  exact ⟨q5, hq⟩
/-- a callee of a kind, with so many arguments, cells and slots, below a level -/
def vx_mck (kind n mc ms lev a : Nat) : Bool := match vx_mt[a]? with
  | some M => decide (M.2.2.2.2.2.2.2.2 = kind ∧ M.2.2.2.2.2.2.2.1 = n ∧ M.2.2.2.2.2.1 = mc ∧ M.2.2.2.2.2.2.1 = ms ∧ M.2.2.2.2.1 + 1 ≤ lev ∧ 8 + (M.2.2.1 + 11) + 40 * M.2.2.2.2.1 ≤ 40 * lev)
  | none => false
theorem vx_mck_use {kind n mc ms lev a : Nat} (h : vx_mck kind n mc ms lev a = true) : ∀ M, vx_mt[a]? = some M → M.2.2.2.2.2.2.2.2 = kind ∧ M.2.2.2.2.2.2.2.1 = n ∧ M.2.2.2.2.2.1 = mc ∧ M.2.2.2.2.2.2.1 = ms ∧ M.2.2.2.2.1 + 1 ≤ lev ∧ 8 + (M.2.2.1 + 11) + 40 * M.2.2.2.2.1 ≤ 40 * lev := by
  intro M hM
  unfold vx_mck at h
  rw [hM] at h
  simpa using h
def vx_ccl (a j : Nat) : Bool := match vx_mt[a]? with
  | some M => decide ((vx_cl[j]?).map (·.1) = some M.1.cls)
  | none => false
def vx_ck (ow nL lev : Nat) (isI : Bool) (rt : Option FieldType) (pc : Nat) (it : vx_I) : Bool :=
  match it with
  | (i, ln, a, b, v, ps) =>
    match i with
    | .iconst n => decide (v = .int (Int32.ofInt n)) && decide (ln = 1)
    | .bipush n => decide (v = .int (Int8.ofInt n).toInt32) && decide (ln = 2)
    | .sipush n => decide (v = .int (Int16.ofInt n).toInt32) && decide (ln = 3)
    | .lconst n => decide (v = .long (Int64.ofNat n.val)) && decide (ln = 1)
    | .ldc_w ix => decide (ln = 3) && (match v with | .int x => vx_ki.any (fun q => decide (q.1 = ow ∧ q.2.1 = ix ∧ q.2.2.1 = x)) | _ => false)
    | .ldc2_w ix => decide (ln = 3) && (match v with | .long x => vx_kl.any (fun q => decide (q.1 = ow ∧ q.2.1 = ix ∧ q.2.2.1 = x)) | _ => false)
    | .iload j => decide (a = j) && decide (ln = 2)
    | .iload_n j => decide (j.val = a) && decide (ln = 1)
    | .lload j => decide (a = j) && decide (ln = 2)
    | .lload_n j => decide (j.val = a) && decide (ln = 1)
    | .aload j => decide (a = j) && decide (ln = 2)
    | .aload_n j => decide (j.val = a) && decide (ln = 1)
    | .istore j => decide (a = j) && decide (ln = 2) && decide (a < nL)
    | .istore_n j => decide (j.val = a) && decide (ln = 1) && decide (a < nL)
    | .astore j => decide (a = j) && decide (ln = 2) && decide (a < nL)
    | .astore_n j => decide (j.val = a) && decide (ln = 1) && decide (a < nL)
    | .lstore j => decide (a = j) && decide (ln = 2) && decide (a + 1 < nL)
    | .iinc j n => decide (a = j) && decide (ln = 3) && decide (a < nL) && decide (v = .int (Int32.ofInt n))
    | .iadd => decide (ln = 1)
    | .isub => decide (ln = 1)
    | .imul => decide (ln = 1)
    | .iand => decide (ln = 1)
    | .ior => decide (ln = 1)
    | .ishl => decide (ln = 1)
    | .ishr => decide (ln = 1)
    | .iushr => decide (ln = 1)
    | .idiv => decide (ln = 1)
    | .irem => decide (ln = 1)
    | .ineg => decide (ln = 1)
    | .ldiv => decide (ln = 1)
    | .lrem => decide (ln = 1)
    | .lshl => decide (ln = 1)
    | .lcmp => decide (ln = 1)
    | .i2l => decide (ln = 1)
    | .i2b => decide (ln = 1)
    | .i2s => decide (ln = 1)
    | .dup => decide (ln = 1)
    | .dup2 => decide (ln = 1)
    | .ifCond _ off => decide ((pc : Int) + off = (a : Int)) && decide (ln = 3)
    | .if_icmp _ off => decide ((pc : Int) + off = (a : Int)) && decide (ln = 3)
    | .ifnull off => decide ((pc : Int) + off = (a : Int)) && decide (ln = 3)
    | .goto off => decide ((pc : Int) + off = (a : Int)) && decide (ln = 3)
    | .tableswitch dflt lo hi offs => vx_tck pc lo offs 0 ps && decide (hi = lo + (ps.length : Int) - 1) && decide ((pc : Int) + dflt = (a : Int))
    | .lookupswitch dflt qs => vx_lck pc qs.toList ps && (qs.toList.zip (qs.toList.drop 1)).all (fun (a, next) => a.1 < next.1) && decide ((pc : Int) + dflt = (a : Int))
    | .getfield ix => decide (ln = 3) && (vx_any5 vx_fl ow ix a b || vx_any5 vx_fn ow ix a b)
    | .putfield ix => decide (ln = 3) && vx_tag (vx_ty a b) v && (match vx_cl[a]? with
      | some q => (vx_any5 vx_fl ow ix a b && (decide ((q.2.1 b).2.2.2 = false) || (isI && decide (vx_cn[ow]? = some (q.2.1 b).1)))) || (vx_any5 vx_fn ow ix a b && decide ((q.2.1 b).2.2.2 = false))
      | none => false)
    | .new ix => decide (ln = 3) && vx_any4 vx_kc ow ix a && decide (a < 8) && (match vx_cl[a]? with | some q => decide (q.2.2 = b) | none => false)
    | .newarray t => decide (ln = 2) && decide (t = .int)
    | .anewarray ix => decide (ln = 3) && vx_any4 vx_kc ow ix 1
    | .iaload => decide (ln = 1)
    | .iastore => decide (ln = 1)
    | .aaload => decide (ln = 1)
    | .aastore => decide (ln = 1)
    | .arraylength => decide (ln = 1)
    | .invokevirtual ix => decide (ln = 3) && vx_any4 vx_ml ow ix a && vx_mck 0 b 0 0 lev a && vx_ccl a ps.length
    | .invokestatic ix => decide (ln = 3) && (match v with
      | .int _ => vx_any4 vx_ms ow ix 1 && decide (1 ≤ lev)
      | .long _ => vx_any4 vx_ms ow ix 2 && decide (1 ≤ lev)
      | .float _ => vx_any4 vx_ms ow ix 3 && decide (1 ≤ lev)
      | .double _ => vx_any4 vx_ms ow ix 4 && decide (1 ≤ lev)
      | .null => (vx_any4 vx_ml ow ix a || vx_any4 vx_mn ow ix a) && vx_mck 1 b 0 0 lev a
      | _ => false)
    | .invokespecial ix => decide (ln = 3) && (match v with
      | .int _ => vx_any4 vx_ms ow ix 0 && decide (1 ≤ lev)
      | .null => (vx_any4 vx_ml ow ix a || vx_any4 vx_mn ow ix a) && vx_mck 2 b ((ps.map (·.2)).headD 0) ((ps.map (·.2)).getLastD 0) lev a
      | _ => false)
    | .ireturn => decide (ln = 1) && (decide (a = 1 ∧ rt = some .boolean) || decide (a = 0 ∧ rt = some .int))
    | .lreturn => decide (ln = 1) && decide (rt = some .long)
    | .return_ => decide (ln = 1) && decide (rt = none)
    | _ => false
section VXE
variable {p : Program} {l : Launch} {e : Env} {R : Room} {s : State} {m : MethodId} {args : Array Value} {below : List Frame} {meth : Method} {c : Code} {Qs : State → Prop}
variable {base b : Nat} {cI cS : ClassId} {D : va_G} {sc : Option (Nat × (Nat → Int32))} {lim : vx_Z} {cc : ByteArray} {ow : String} {nL lev : Nat} {isI : Bool} {J : Nat → vx_K} {Q : Option Value → vx_Z → vx_H → Prop} {k : vx_K} {rt : Option FieldType}
/-- what is asked at an end of a method -/
def vx_Rt (p : Program) (l : Launch) (e : Env) (R : Room) (s : State) (m : MethodId) (args : Array Value) (below : List Frame) (meth : Method) (c : Code) (Qs : State → Prop) (base b : Nat) (cI cS : ClassId) (D : va_G) (lim : vx_Z) (cc : ByteArray) (rt : Option FieldType) (Q : Option Value → vx_Z → vx_H → Prop) : Prop :=
  ∀ (r : Option Value) (z : vx_Z) (h : vx_H), Q r z h → ∀ (pc : Nat) (ls : Array Slot) (H : Heap) (locs : List Loc) (cells slots : Nat), vx_In s base b cI cS D lim H locs cells slots z h →
    ((∃ x, r = some (.int x) ∧ decode cc pc = .ok (.ireturn, 1) ∧ (rt = some .int ∨ rt = some .boolean ∧ (x = 0 ∨ x = 1))) ∨ (∃ x, r = some (.long x) ∧ decode cc pc = .ok (.lreturn, 1) ∧ rt = some .long) ∨ (r = none ∧ decode cc pc = .ok (.return_, 1) ∧ rt = none)) →
    W p l e R s m args below meth c H locs cells slots Qs (F0 m pc ls (r.toList.map (vx_v base b)))
set_option maxHeartbeats 1000000 in
theorem vx_sound (F : vx_Fx p R s m args meth c base b cI cS D sc lim cc ow nL lev isI) {owN : Nat} (hcn : vx_cn[owN]? = some ow) (it : vx_I) {pc : Nat} (hd : decode cc pc = .ok (it.1, it.2.1)) (hck : vx_ck owN nL lev isI rt pc it = true)
    (hk : vx_G p l e R s m args below meth c Qs base b cI cS D lim nL (pc + it.2.1) k) (hJ : ∀ t, vx_G p l e R s m args below meth c Qs base b cI cS D lim nL t (J t)) (hQ : vx_Rt p l e R s m args below meth c Qs base b cI cS D lim cc rt Q) :
    vx_G p l e R s m args below meth c Qs base b cI cS D lim nL pc (fun L S z h => vx_st sc lim it L S z h J Q k) := by
  obtain ⟨i, ln, a, b', v, ps⟩ := it
  dsimp only at hd hk
  cases i with
  | iconst n => simp only [vx_ck, Bool.and_eq_true, decide_eq_true_eq] at hck; exact vx_s_iconst F hd hck.2 hck.1 hk
  | bipush n => simp only [vx_ck, Bool.and_eq_true, decide_eq_true_eq] at hck; exact vx_s_bipush F hd hck.2 hck.1 hk
  | sipush n => simp only [vx_ck, Bool.and_eq_true, decide_eq_true_eq] at hck; exact vx_s_sipush F hd hck.2 hck.1 hk
  | lconst n => simp only [vx_ck, Bool.and_eq_true, decide_eq_true_eq] at hck; exact vx_s_lconst F hd hck.2 hck.1 hk
  | ldc_w ix =>
    simp only [vx_ck, Bool.and_eq_true, decide_eq_true_eq] at hck
    cases v with
    | int x =>
      obtain ⟨⟨q1, q2, q3, q4⟩, hq, h⟩ := List.any_eq_true.mp hck.2
      simp only [decide_eq_true_eq] at h
      obtain ⟨rfl, rfl, rfl⟩ := h
      exact vx_s_ldc_w F hcn hd hck.1 ⟨q4, hq⟩ hk
    | _ => simp at hck
  | ldc2_w ix =>
    simp only [vx_ck, Bool.and_eq_true, decide_eq_true_eq] at hck
    cases v with
    | long x =>
      obtain ⟨⟨q1, q2, q3, q4⟩, hq, h⟩ := List.any_eq_true.mp hck.2
      simp only [decide_eq_true_eq] at h
      obtain ⟨rfl, rfl, rfl⟩ := h
      exact vx_s_ldc2_w F hcn hd hck.1 ⟨q4, hq⟩ hk
    | _ => simp at hck
  | iload j => simp only [vx_ck, Bool.and_eq_true, decide_eq_true_eq] at hck; exact vx_s_iload F hd hck.2 hck.1 hk
  | iload_n j => simp only [vx_ck, Bool.and_eq_true, decide_eq_true_eq] at hck; exact vx_s_iload_n F hd hck.2 hck.1 hk
  | lload j => simp only [vx_ck, Bool.and_eq_true, decide_eq_true_eq] at hck; exact vx_s_lload F hd hck.2 hck.1 hk
  | lload_n j => simp only [vx_ck, Bool.and_eq_true, decide_eq_true_eq] at hck; exact vx_s_lload_n F hd hck.2 hck.1 hk
  | aload j => simp only [vx_ck, Bool.and_eq_true, decide_eq_true_eq] at hck; exact vx_s_aload F hd hck.2 hck.1 hk
  | aload_n j => simp only [vx_ck, Bool.and_eq_true, decide_eq_true_eq] at hck; exact vx_s_aload_n F hd hck.2 hck.1 hk
  | istore j => simp only [vx_ck, Bool.and_eq_true, decide_eq_true_eq] at hck; exact vx_s_istore F hd hck.1.2 hck.1.1 hck.2 hk
  | istore_n j => simp only [vx_ck, Bool.and_eq_true, decide_eq_true_eq] at hck; exact vx_s_istore_n F hd hck.1.2 hck.1.1 hck.2 hk
  | astore j => simp only [vx_ck, Bool.and_eq_true, decide_eq_true_eq] at hck; exact vx_s_astore F hd hck.1.2 hck.1.1 hck.2 hk
  | astore_n j => simp only [vx_ck, Bool.and_eq_true, decide_eq_true_eq] at hck; exact vx_s_astore_n F hd hck.1.2 hck.1.1 hck.2 hk
  | lstore j => simp only [vx_ck, Bool.and_eq_true, decide_eq_true_eq] at hck; exact vx_s_lstore F hd hck.1.2 hck.1.1 hck.2 hk
  | iinc j n => simp only [vx_ck, Bool.and_eq_true, decide_eq_true_eq] at hck; exact vx_s_iinc F hd hck.1.1.2 hck.1.1.1 hck.1.2 hck.2 hk
  | iadd => simp only [vx_ck, decide_eq_true_eq] at hck; exact vx_s_iadd F hd hck hk
  | isub => simp only [vx_ck, decide_eq_true_eq] at hck; exact vx_s_isub F hd hck hk
  | imul => simp only [vx_ck, decide_eq_true_eq] at hck; exact vx_s_imul F hd hck hk
  | iand => simp only [vx_ck, decide_eq_true_eq] at hck; exact vx_s_iand F hd hck hk
  | ior => simp only [vx_ck, decide_eq_true_eq] at hck; exact vx_s_ior F hd hck hk
  | ishl => simp only [vx_ck, decide_eq_true_eq] at hck; exact vx_s_ishl F hd hck hk
  | ishr => simp only [vx_ck, decide_eq_true_eq] at hck; exact vx_s_ishr F hd hck hk
  | iushr => simp only [vx_ck, decide_eq_true_eq] at hck; exact vx_s_iushr F hd hck hk
  | idiv => simp only [vx_ck, decide_eq_true_eq] at hck; exact vx_s_idiv F hd hck hk
  | irem => simp only [vx_ck, decide_eq_true_eq] at hck; exact vx_s_irem F hd hck hk
  | ineg => simp only [vx_ck, decide_eq_true_eq] at hck; exact vx_s_ineg F hd hck hk
  | ldiv => simp only [vx_ck, decide_eq_true_eq] at hck; exact vx_s_ldiv F hd hck hk
  | lrem => simp only [vx_ck, decide_eq_true_eq] at hck; exact vx_s_lrem F hd hck hk
  | lshl => simp only [vx_ck, decide_eq_true_eq] at hck; exact vx_s_lshl F hd hck hk
  | lcmp => simp only [vx_ck, decide_eq_true_eq] at hck; exact vx_s_lcmp F hd hck hk
  | i2l => simp only [vx_ck, decide_eq_true_eq] at hck; exact vx_s_i2l F hd hck hk
  | i2b => simp only [vx_ck, decide_eq_true_eq] at hck; exact vx_s_i2b F hd hck hk
  | i2s => simp only [vx_ck, decide_eq_true_eq] at hck; exact vx_s_i2s F hd hck hk
  | dup => simp only [vx_ck, decide_eq_true_eq] at hck; exact vx_s_dup F hd hck hk
  | dup2 => simp only [vx_ck, decide_eq_true_eq] at hck; exact vx_s_dup2 F hd hck hk
  | ifCond q off =>
    simp only [vx_ck, Bool.and_eq_true, decide_eq_true_eq] at hck
    cases q with
    | eq => exact vx_s_if_eq F hd hck.2 hck.1 hk hJ
    | ne => exact vx_s_if_ne F hd hck.2 hck.1 hk hJ
    | lt => exact vx_s_if_lt F hd hck.2 hck.1 hk hJ
    | ge => exact vx_s_if_ge F hd hck.2 hck.1 hk hJ
    | gt => exact vx_s_if_gt F hd hck.2 hck.1 hk hJ
    | le => exact vx_s_if_le F hd hck.2 hck.1 hk hJ
  | if_icmp q off =>
    simp only [vx_ck, Bool.and_eq_true, decide_eq_true_eq] at hck
    cases q with
    | eq => exact vx_s_icmp_eq F hd hck.2 hck.1 hk hJ
    | ne => exact vx_s_icmp_ne F hd hck.2 hck.1 hk hJ
    | lt => exact vx_s_icmp_lt F hd hck.2 hck.1 hk hJ
    | ge => exact vx_s_icmp_ge F hd hck.2 hck.1 hk hJ
    | gt => exact vx_s_icmp_gt F hd hck.2 hck.1 hk hJ
    | le => exact vx_s_icmp_le F hd hck.2 hck.1 hk hJ
  | ifnull off => simp only [vx_ck, Bool.and_eq_true, decide_eq_true_eq] at hck; exact vx_s_ifnull F hd hck.2 hck.1 hk hJ
  | goto off => simp only [vx_ck, Bool.and_eq_true, decide_eq_true_eq] at hck; exact vx_s_goto F hd hck.2 hck.1 hJ
  | tableswitch dflt lo hi offs => simp only [vx_ck, Bool.and_eq_true, decide_eq_true_eq] at hck; exact vx_s_tableswitch F hd hck.1.1 hck.1.2 hck.2 hJ
  | lookupswitch dflt qs => simp only [vx_ck, Bool.and_eq_true, decide_eq_true_eq] at hck; exact vx_s_lookupswitch F hd hck.1.2 hck.1.1 hck.2 hJ
  | getfield ix =>
    simp only [vx_ck, Bool.and_eq_true, Bool.or_eq_true, decide_eq_true_eq] at hck
    exact vx_s_getfield F hcn hd hck.1 (hck.2.imp vx_any5_use vx_any5_use) hk
  | putfield ix =>
    simp only [vx_ck, Bool.and_eq_true, decide_eq_true_eq] at hck
    obtain ⟨⟨h1, h2⟩, h3⟩ := hck
    refine vx_s_putfield F hcn hd h1 h2 ?_ hk
    cases hq : vx_cl[a]? with
    | none => rw [hq] at h3; cases h3
    | some q =>
      rw [hq] at h3
      simp only [Bool.and_eq_true, Bool.or_eq_true, decide_eq_true_eq] at h3
      rcases h3 with ⟨h3, h4⟩ | ⟨h3, h4⟩
      · refine Or.inl ⟨vx_any5_use h3, fun C T N hc => ?_⟩
        cases hc
        rcases h4 with h4 | ⟨h4, h5⟩
        · exact Or.inl h4
        · exact Or.inr ⟨h4, Option.some.inj (h5.symm.trans hcn)⟩
      · refine Or.inr ⟨vx_any5_use h3, fun C T N hc => ?_⟩
        cases hc
        exact h4
  | new ix =>
    simp only [vx_ck, Bool.and_eq_true, decide_eq_true_eq] at hck
    obtain ⟨⟨⟨h1, h2⟩, h3⟩, h4⟩ := hck
    refine vx_s_new F hcn hd h1 (vx_any4_use h2) h3 (fun q hq => ?_) hk
    rw [hq] at h4
    simpa using h4
  | newarray t => simp only [vx_ck, Bool.and_eq_true, decide_eq_true_eq] at hck; exact vx_s_newarray F hd hck.1 hck.2 hk
  | anewarray ix => simp only [vx_ck, Bool.and_eq_true, decide_eq_true_eq] at hck; exact vx_s_anewarray F hcn hd hck.1 (vx_any4_use hck.2) hk
  | iaload => simp only [vx_ck, decide_eq_true_eq] at hck; exact vx_s_iaload F hd hck hk
  | iastore => simp only [vx_ck, decide_eq_true_eq] at hck; exact vx_s_iastore F hd hck hk
  | aaload => simp only [vx_ck, decide_eq_true_eq] at hck; exact vx_s_aaload F hd hck hk
  | aastore => simp only [vx_ck, decide_eq_true_eq] at hck; exact vx_s_aastore F hd hck hk
  | arraylength => simp only [vx_ck, decide_eq_true_eq] at hck; exact vx_s_arraylength F hd hck hk
  | invokevirtual ix =>
    simp only [vx_ck, Bool.and_eq_true, decide_eq_true_eq] at hck
    obtain ⟨⟨⟨h1, h2⟩, h3⟩, h4⟩ := hck
    refine vx_s_invokevirtual F hcn hd h1 (vx_any4_use h2) (fun M hM => ?_) hk
    obtain ⟨g1, g2, g3, g4, g5, g6⟩ := vx_mck_use h3 M hM
    refine ⟨g1, g2, g3, g4, g5, g6, ?_⟩
    unfold vx_ccl at h4
    rw [hM] at h4
    simpa using h4
  | invokestatic ix =>
    simp only [vx_ck, Bool.and_eq_true, decide_eq_true_eq] at hck
    obtain ⟨h1, h2⟩ := hck
    cases v with
    | int u => simp only [Bool.and_eq_true, decide_eq_true_eq] at h2; exact vx_s_arraycopy F hcn hd h1 (vx_any4_use h2.1) h2.2 hk
    | long u => simp only [Bool.and_eq_true, decide_eq_true_eq] at h2; exact vx_s_min F hcn hd h1 (vx_any4_use h2.1) h2.2 hk
    | float u => simp only [Bool.and_eq_true, decide_eq_true_eq] at h2; exact vx_s_max F hcn hd h1 (vx_any4_use h2.1) h2.2 hk
    | double u => simp only [Bool.and_eq_true, decide_eq_true_eq] at h2; exact vx_s_abs F hcn hd h1 (vx_any4_use h2.1) h2.2 hk
    | null =>
      simp only [Bool.and_eq_true, Bool.or_eq_true] at h2
      exact vx_s_invokestatic F hcn hd h1 (h2.1.imp vx_any4_use vx_any4_use) (vx_mck_use h2.2) hk
    | _ => cases h2
  | invokespecial ix =>
    simp only [vx_ck, Bool.and_eq_true, decide_eq_true_eq] at hck
    obtain ⟨h1, h2⟩ := hck
    cases v with
    | int u => simp only [Bool.and_eq_true, decide_eq_true_eq] at h2; exact vx_s_objInit F hcn hd h1 (vx_any4_use h2.1) h2.2 hk
    | null =>
      simp only [Bool.and_eq_true, Bool.or_eq_true] at h2
      exact vx_s_invokespecial F hcn hd h1 (h2.1.imp vx_any4_use vx_any4_use) (vx_mck_use h2.2) hk
    | _ => cases h2
  | ireturn =>
    simp only [vx_ck, Bool.and_eq_true, Bool.or_eq_true, decide_eq_true_eq] at hck
    obtain ⟨h1, h2⟩ := hck
    subst h1
    intro L S z h hst ls H locs cells slots hL hI
    replace hst : (match (generalizing := false) S with | [.int x] => (a = 1 → x = 0 ∨ x = 1) ∧ Q (some (.int x)) z h | _ => False) := hst
    split at hst
    · rename_i x
      refine hQ _ _ _ hst.2 pc ls H locs cells slots hI (Or.inl ⟨x, rfl, hd, ?_⟩)
      rcases h2 with ⟨h2, h3⟩ | ⟨h2, h3⟩
      · exact Or.inr ⟨h3, hst.1 h2⟩
      · exact Or.inl h3
    · exact False.elim hst
  | lreturn =>
    simp only [vx_ck, Bool.and_eq_true, decide_eq_true_eq] at hck
    obtain ⟨h1, h2⟩ := hck
    subst h1
    intro L S z h hst ls H locs cells slots hL hI
    replace hst : (match (generalizing := false) S with | [.long x] => Q (some (.long x)) z h | _ => False) := hst
    split at hst
    · rename_i x
      exact hQ _ _ _ hst pc ls H locs cells slots hI (Or.inr (Or.inl ⟨x, rfl, hd, h2⟩))
    · exact False.elim hst
  | return_ =>
    simp only [vx_ck, Bool.and_eq_true, decide_eq_true_eq] at hck
    obtain ⟨h1, h2⟩ := hck
    subst h1
    intro L S z h hst ls H locs cells slots hL hI
    replace hst : (match (generalizing := false) S with | [] => Q none z h | _ => False) := hst
    split at hst
    · exact hQ _ _ _ hst pc ls H locs cells slots hI (Or.inr (Or.inr ⟨rfl, hd, h2⟩))
    · exact False.elim hst
  | _ => cases hck
/-- a block: its items stand one behind another in the code -/
def vx_ckB (cc : ByteArray) (ow nL lev : Nat) (isI : Bool) (rt : Option FieldType) : Nat → List vx_I → Bool
  | _, [] => true
  | pc, it :: is => decide (decode cc pc = .ok (it.1, it.2.1)) && vx_ck ow nL lev isI rt pc it && vx_ckB cc ow nL lev isI rt (pc + it.2.1) is
theorem vx_block (F : vx_Fx p R s m args meth c base b cI cS D sc lim cc ow nL lev isI) {owN : Nat} (hcn : vx_cn[owN]? = some ow) (hJ : ∀ t, vx_G p l e R s m args below meth c Qs base b cI cS D lim nL t (J t)) (hQ : vx_Rt p l e R s m args below meth c Qs base b cI cS D lim cc rt Q) :
    ∀ (is : List vx_I) (pc : Nat), vx_ckB cc owN nL lev isI rt pc is = true → vx_G p l e R s m args below meth c Qs base b cI cS D lim nL pc (vx_b sc lim J Q pc is)
  | [], pc, _ => hJ pc
  | it :: is, pc, h => by
    simp only [vx_ckB, Bool.and_eq_true, decide_eq_true_eq] at h
    exact vx_sound F hcn it h.1.1 h.1.2 (vx_block F hcn hJ hQ is _ h.2) hJ hQ
def vx_bk : List (Nat × List vx_I) → Nat → List vx_I
  | [], _ => []
  | (u, is) :: r, t => if t = u then is else vx_bk r t
def vx_ckM (cc : ByteArray) (ow nL lev : Nat) (isI : Bool) (rt : Option FieldType) (tab : List (Nat × List vx_I)) : Bool := tab.all (fun q => vx_ckB cc ow nL lev isI rt q.1 q.2)
theorem vx_ckM_bk {cc : ByteArray} {ow nL lev : Nat} {isI : Bool} {rt : Option FieldType} : ∀ {tab : List (Nat × List vx_I)}, vx_ckM cc ow nL lev isI rt tab = true → ∀ t, vx_ckB cc ow nL lev isI rt t (vx_bk tab t) = true
  | [], _, t => rfl
  | (u, is) :: r, h, t => by
    simp only [vx_ckM, List.all_cons, Bool.and_eq_true] at h
    by_cases ht : t = u
    · subst ht
      rw [show vx_bk ((t, is) :: r) t = is from if_pos rfl]
      exact h.1
    · rw [show vx_bk ((u, is) :: r) t = vx_bk r t from if_neg ht]
      exact vx_ckM_bk (tab := r) h.2 t
/-- a walk: every closed predicate that holds at a point -/
def vx_cl0 (sc : Option (Nat × (Nat → Int32))) (lim : vx_Z) (tab : List (Nat × List vx_I)) (Q : Option Value → vx_Z → vx_H → Prop) (X : Nat → vx_K) : Prop := ∀ t L S z h, vx_b sc lim X Q t (vx_bk tab t) L S z h → X t L S z h
theorem vx_walk (F : vx_Fx p R s m args meth c base b cI cS D sc lim cc ow nL lev isI) {owN : Nat} (hcn : vx_cn[owN]? = some ow) {tab : List (Nat × List vx_I)} (hck : vx_ckM cc owN nL lev isI rt tab = true) (hQ : vx_Rt p l e R s m args below meth c Qs base b cI cS D lim cc rt Q)
    {t : Nat} {L : vx_L} {S : List Value} {z : vx_Z} {h : vx_H} (body : ∀ X, vx_cl0 sc lim tab Q X → X t L S z h) : vx_G p l e R s m args below meth c Qs base b cI cS D lim nL t (fun L' S' z' h' => L' = L ∧ S' = S ∧ z' = z ∧ h' = h) := by
  rintro L' S' z' h' ⟨rfl, rfl, rfl, rfl⟩
  have key := body (fun t L S z h => ∀ (ls : Array Slot) (H : Heap) (locs : List Loc) (cells slots : Nat), vx_RL base b nL L ls → vx_In s base b cI cS D lim H locs cells slots z h → W p l e R s m args below meth c H locs cells slots Qs (F0 m t ls (S.map (vx_v base b))))
    (fun t L S z h hb => vx_block F hcn (fun t L S z h hx => hx) hQ (vx_bk tab t) t (vx_ckM_bk hck t) L S z h hb)
  exact key
end VXE
end
section
/-! a method's contract out of its blocks -/
def vx_ar : List Value → vx_L
  | [] => []
  | v :: r => if v.category = 2 then some v :: none :: vx_ar r else some v :: vx_ar r
theorem vx_ar_len (base b : Nat) : ∀ As : List Value, (lg_sl (As.map (vx_v base b))).length = (vx_ar As).length
  | [] => rfl
  | v :: r => by
    have ih := vx_ar_len base b r
    unfold lg_sl at ih ⊢
    rw [List.map_cons, List.flatMap_cons, List.length_append, ih, vx_v_cat]
    show _ = (if v.category = 2 then some v :: none :: vx_ar r else some v :: vx_ar r).length
    by_cases hc : v.category = 2
    · rw [if_pos hc, if_pos hc]; simp; omega
    · rw [if_neg hc, if_neg hc]; simp; omega
theorem vx_ar_at (base b : Nat) : ∀ (As : List Value) (k i : Nat) (v : Value), (vx_ar As)[i]? = some (some v) → (k + i, vx_v base b v) ∈ lv_args k (As.map (vx_v base b))
  | [], _, _, _, h => by simp [vx_ar] at h
  | w :: r, k, i, v, h => by
    unfold vx_ar at h
    rw [List.map_cons]
    unfold lv_args
    rw [vx_v_cat]
    by_cases hc : w.category = 2
    · rw [if_pos hc] at h
      rw [if_pos hc]
      match i, h with
      | 0, h =>
        simp only [List.getElem?_cons_zero, Option.some.injEq] at h
        subst h
        exact List.mem_cons_self
      | 1, h => simp at h
      | j + 2, h =>
        simp only [List.getElem?_cons_succ] at h
        have := vx_ar_at base b r (k + 2) j v h
        rw [show k + (j + 2) = k + 2 + j by omega]
        exact List.mem_cons_of_mem _ this
    · rw [if_neg hc] at h
      rw [if_neg hc]
      match i, h with
      | 0, h =>
        simp only [List.getElem?_cons_zero, Option.some.injEq] at h
        subst h
        exact List.mem_cons_self
      | j + 1, h =>
        simp only [List.getElem?_cons_succ] at h
        have := vx_ar_at base b r (k + 1) j v h
        rw [show k + (j + 1) = k + 1 + j by omega]
        exact List.mem_cons_of_mem _ this
theorem vx_entry {base b nL : Nat} {As : List Value} (hlen : (vx_ar As).length ≤ nL) : vx_RL base b nL (vx_ar As ++ List.replicate (nL - (vx_ar As).length) none) ((lg_sl (As.map (vx_v base b)) ++ List.replicate (nL - (lg_sl (As.map (vx_v base b))).length) Slot.unset).toArray) := by
  have h := lv_entry (As.map (vx_v base b)) (n := nL) (by rw [vx_ar_len]; exact hlen)
  refine ⟨by simp; omega, h.1, h.2.1, fun i v hi => ?_⟩
  by_cases hl : i < (vx_ar As).length
  · rw [List.getElem?_append_left hl] at hi
    have := vx_ar_at base b As 0 i v hi
    rw [Nat.zero_add] at this
    exact h.2.2 _ this
  · rw [List.getElem?_append_right (by omega), List.getElem?_replicate] at hi
    split at hi <;> cases hi
theorem vx_ok {n : Nat} {M : vx_M} (hM : vx_mt[n]? = some M) {ow : Nat} (hcn : vx_cn[ow]? = some M.1.cls) {tab : List (Nat × List vx_I)} (hck : vx_ckM M.2.1 ow M.2.2.1 M.2.2.2.2.1 (decide (M.2.2.2.2.2.2.2.2 = 2)) M.2.2.2.1 tab = true) {As : List Value} {sz : Nat} {h : vx_H} {P : Option Value → vx_H → Prop} {L0 : vx_L} (hlen : (vx_ar As).length ≤ M.2.2.1) (hL0 : vx_ar As ++ List.replicate (M.2.2.1 - (vx_ar As).length) none = L0)
    {Q : Option Value → vx_Z → vx_H → Prop} (hQP : ∀ r z' h', Q r z' h' → z'.1 = sz + M.2.2.2.2.2.1 ∧ P r h')
    (body : ∀ X, vx_cl0 none (sz + M.2.2.2.2.2.1, M.2.2.2.2.2.2.1) tab Q X → X 0 L0 [] (sz, 0) h) : vx_Ok n As sz h P := by
  intro M' hM' l base b cI cS D
  cases hM.symm.trans hM'
  obtain ⟨f1, f2, f3, f4, -, -, f5⟩ := vx_mf (List.mem_of_getElem? hM)
  refine Met.ofW (cc := M.2.1) (maxL := M.2.2.1) (ret := M.2.2.2.1) f4 rfl ?_
  intro p e s m args below meth c s₁ B hml hv
  obtain ⟨rfl, hsz, hso, hP, hK, hN⟩ := hv
  have hr := B.returns
  have hlocks := B.notSynchronized
  have hts : ∀ w ∈ vx_TB, w.before (As.map (vx_v base b)).toArray s = true := fun w hw => atoms_spec (ws := Cond.code M.1 M.2.1 M.2.2.1 M.2.2.2.1 :: vx_TB) B.pre w (List.mem_cons_of_mem _ hw)
  have hown : s.vm.findClass M.1.cls = some m.cls := findClass_of_methodNamed B.named
  have F : vx_Fx p (headSpec (Cond.code M.1 M.2.1 M.2.2.1 M.2.2.2.1 :: vx_TB) { frames := M.2.2.2.2.1, cells := M.2.2.2.2.2.1, slots := M.2.2.2.2.2.2.1, locals := 40 * M.2.2.2.2.1 }).room s m (As.map (vx_v base b)).toArray meth c base b cI cS D none (sz + M.2.2.2.2.2.1, M.2.2.2.2.2.2.1) M.2.1 M.1.cls M.2.2.1 M.2.2.2.2.1 (decide (M.2.2.2.2.2.2.2.2 = 2)) :=
    ⟨B.exec, B.bytes, hml, hown, hts, hK, hN, by omega, Nat.le_refl _, Nat.le_refl _, by show base + (sz + M.2.2.2.2.2.1) ≤ s.heap.size + M.2.2.2.2.2.1; omega, Nat.le_refl _, fun hi => by
      have := (name_of_methodNamed B.named B.method).1
      rw [this]
      exact (f5 (by simpa using hi)).2.1, fun q hq => by cases hq⟩
  have hW := vx_walk (l := l) (e := e) (below := below) (Qs := MQ below (vx_Qc base b cI cS D (sz + M.2.2.2.2.2.1) P) (As.map (vx_v base b)).toArray s M.2.2.2.2.2.1 M.2.2.2.2.2.2.1 (fun q => base ≤ q)) (rt := M.2.2.2.1) F hcn hck (fun r z h hq pc ls H locs cells slots hI hc => by
    obtain ⟨hq1, hq2⟩ := hQP _ _ _ hq
    have i1 := hI.1
    have i2 := hI.2.1
    dsimp only at i2
    have hc1 : cells = M.2.2.2.2.2.1 := by omega
    refine W.widen (k := M.2.2.2.2.2.1) (n := M.2.2.2.2.2.2.1) (by omega) (by omega) ?_
    have hP1 := hI.2.2.2.1
    have hso1 := hI.2.2.1
    rw [hq1] at hP1 hso1
    have hS := hI.2.2.2.2
    rcases hc with ⟨x, rfl, hd, hrt⟩ | ⟨x, rfl, hd, hrt⟩ | ⟨rfl, hd, hrt⟩
    · rcases hrt with hrt | ⟨hrt, hx⟩
      · exact W.iret (v := x) B.exec B.bytes (hr.trans hrt) (fun t ht hW => ⟨⟨_, h, hq2, rfl, hso1, by rw [ht]; exact hP1⟩, hS.F ht⟩) hS.2.2 hd
      · exact W.zret (v := x) B.exec B.bytes (hr.trans hrt) (by rcases hx with rfl | rfl <;> decide) (fun t ht hW => ⟨⟨_, h, hq2, rfl, hso1, by rw [ht]; exact hP1⟩, hS.F ht⟩) hS.2.2 hd
    · exact W.lret (v := x) B.exec B.bytes (hr.trans hrt) (fun t ht hW => ⟨⟨_, h, hq2, rfl, hso1, by rw [ht]; exact hP1⟩, hS.F ht⟩) hS.2.2 hd
    · exact W.vret B.exec B.bytes (hr.trans hrt) (fun t ht hW => ⟨⟨_, h, hq2, rfl, hso1, by rw [ht]; exact hP1⟩, hS.F ht⟩) hS.2.2 hd) body
  rw [lg_entry_eq]
  exact hW _ _ _ _ ⟨rfl, rfl, rfl, rfl⟩ _ _ _ 0 0 (by rw [← hL0]; exact vx_entry hlen) ⟨hsz, ⟨rfl, by dsimp only; omega, Nat.zero_le _⟩, hso, hP, va_S.rf⟩
/-- a method that makes nothing -/
theorem vx_ok0 {n : Nat} {M : vx_M} (hM : vx_mt[n]? = some M) {ow : Nat} (hcn : vx_cn[ow]? = some M.1.cls) {tab : List (Nat × List vx_I)} (hck : vx_ckM M.2.1 ow M.2.2.1 M.2.2.2.2.1 (decide (M.2.2.2.2.2.2.2.2 = 2)) M.2.2.2.1 tab = true) (hmc : M.2.2.2.2.2.1 = 0) {As : List Value} {sz : Nat} {h : vx_H} {P : Option Value → vx_H → Prop} {L0 : vx_L} (hlen : (vx_ar As).length ≤ M.2.2.1) (hL0 : vx_ar As ++ List.replicate (M.2.2.1 - (vx_ar As).length) none = L0)
    (body : ∀ (lim z : vx_Z) X, vx_cl0 none lim tab (fun r z' h' => z' = z ∧ P r h') X → X 0 L0 [] z h) : vx_Ok n As sz h P := by
  exact vx_ok hM hcn hck hlen hL0 (Q := fun r z' h' => z' = (sz, 0) ∧ P r h') (fun r z' h' hq => ⟨by rw [hq.1, hmc]; rfl, hq.2⟩) (fun X hX => body (sz + M.2.2.2.2.2.1, M.2.2.2.2.2.2.1) (sz, 0) X hX)
end
section
/-! blocks, printed by wip/gen.py: of each method its items from every place to which it jumps on -/
def kb_Tr_init_0 : List vx_I := [(.aload_n 0, 1, 0, 0, .null, []), (.invokespecial 3, 3, 0, 0, .int 0, []), (.aload_n 0, 1, 0, 0, .null, []), (.iconst 0, 1, 0, 0, .int 0, []), (.putfield 9, 3, 2, 1, .int 0, []), (.aload_n 0, 1, 0, 0, .null, []), (.iconst 0, 1, 0, 0, .int 0, []), (.putfield 15, 3, 2, 2, .int 0, []), (.aload_n 0, 1, 0, 0, .null, []), (.iconst 0, 1, 0, 0, .int 0, []), (.putfield 18, 3, 2, 3, .int 0, []), (.return_, 1, 0, 0, .null, [])]
def tb_Tr_init : List (Nat × List vx_I) := [(0, kb_Tr_init_0)]
theorem bk_Tr_init_0 : vx_bk tb_Tr_init 0 = [(.aload_n 0, 1, 0, 0, .null, []), (.invokespecial 3, 3, 0, 0, .int 0, []), (.aload_n 0, 1, 0, 0, .null, []), (.iconst 0, 1, 0, 0, .int 0, []), (.putfield 9, 3, 2, 1, .int 0, []), (.aload_n 0, 1, 0, 0, .null, []), (.iconst 0, 1, 0, 0, .int 0, []), (.putfield 15, 3, 2, 2, .int 0, []), (.aload_n 0, 1, 0, 0, .null, []), (.iconst 0, 1, 0, 0, .int 0, []), (.putfield 18, 3, 2, 3, .int 0, []), (.return_, 1, 0, 0, .null, [])] := rfl
abbrev m_Tr_init : Nat := 1
set_option maxRecDepth 100000 in
theorem ck_Tr_init : vx_ckM prog_4_method_1_code 2 1 1 true none tb_Tr_init = true := by decide +kernel
theorem ok_Tr_init {As : List Value} {sz : Nat} {h : vx_H} {P : Option Value → vx_H → Prop} (L0 : vx_L) (hlen : (vx_ar As).length ≤ 1) (hL0 : vx_ar As ++ List.replicate (1 - (vx_ar As).length) none = L0)
    (body : ∀ (lim z : vx_Z) X, vx_cl0 none lim tb_Tr_init (fun r z' h' => z' = z ∧ P r h') X → X 0 L0 [] z h) : vx_Ok m_Tr_init As sz h P :=
  vx_ok0 (M := (⟨"VoteWalls$TextReader", "<init>", "()V"⟩, prog_4_method_1_code, 1, none, 1, 0, 0, 0, 2)) rfl (ow := 2) rfl ck_Tr_init rfl hlen hL0 body
def kb_Tp_init_0 : List vx_I := [(.aload_n 0, 1, 0, 0, .null, []), (.invokespecial 3, 3, 0, 0, .int 0, []), (.aload_n 0, 1, 0, 0, .null, []), (.bipush 8, 2, 0, 0, .int 8, []), (.newarray .int, 2, 0, 8, .null, []), (.putfield 9, 3, 3, 0, .null, []), (.aload_n 0, 1, 0, 0, .null, []), (.bipush 8, 2, 0, 0, .int 8, []), (.newarray .int, 2, 0, 8, .null, []), (.putfield 15, 3, 3, 1, .null, []), (.aload_n 0, 1, 0, 0, .null, []), (.bipush 8, 2, 0, 0, .int 8, []), (.newarray .int, 2, 0, 8, .null, []), (.putfield 18, 3, 3, 2, .null, []), (.aload_n 0, 1, 0, 0, .null, []), (.iconst 0, 1, 0, 0, .int 0, []), (.putfield 21, 3, 3, 4, .int 0, []), (.aload_n 0, 1, 0, 0, .null, []), (.iload_n 1, 1, 1, 0, .null, []), (.bipush 8, 2, 0, 0, .int 8, []), (.invokestatic 25, 3, 0, 0, .long 0, []), (.putfield 31, 3, 3, 3, .int 0, []), (.return_, 1, 0, 0, .null, [])]
def tb_Tp_init : List (Nat × List vx_I) := [(0, kb_Tp_init_0)]
theorem bk_Tp_init_0 : vx_bk tb_Tp_init 0 = [(.aload_n 0, 1, 0, 0, .null, []), (.invokespecial 3, 3, 0, 0, .int 0, []), (.aload_n 0, 1, 0, 0, .null, []), (.bipush 8, 2, 0, 0, .int 8, []), (.newarray .int, 2, 0, 8, .null, []), (.putfield 9, 3, 3, 0, .null, []), (.aload_n 0, 1, 0, 0, .null, []), (.bipush 8, 2, 0, 0, .int 8, []), (.newarray .int, 2, 0, 8, .null, []), (.putfield 15, 3, 3, 1, .null, []), (.aload_n 0, 1, 0, 0, .null, []), (.bipush 8, 2, 0, 0, .int 8, []), (.newarray .int, 2, 0, 8, .null, []), (.putfield 18, 3, 3, 2, .null, []), (.aload_n 0, 1, 0, 0, .null, []), (.iconst 0, 1, 0, 0, .int 0, []), (.putfield 21, 3, 3, 4, .int 0, []), (.aload_n 0, 1, 0, 0, .null, []), (.iload_n 1, 1, 1, 0, .null, []), (.bipush 8, 2, 0, 0, .int 8, []), (.invokestatic 25, 3, 0, 0, .long 0, []), (.putfield 31, 3, 3, 3, .int 0, []), (.return_, 1, 0, 0, .null, [])] := rfl
abbrev m_Tp_init : Nat := 2
set_option maxRecDepth 100000 in
theorem ck_Tp_init : vx_ckM prog_5_method_1_code 3 2 1 true none tb_Tp_init = true := by decide +kernel
theorem ok_Tp_init {As : List Value} {sz : Nat} {h : vx_H} {P : Option Value → vx_H → Prop} (L0 : vx_L) (hlen : (vx_ar As).length ≤ 2) (hL0 : vx_ar As ++ List.replicate (2 - (vx_ar As).length) none = L0)
    (body : ∀ X, vx_cl0 none (sz + 3, 24) tb_Tp_init (fun r z' h' => z'.1 = sz + 3 ∧ P r h') X → X 0 L0 [] (sz, 0) h) : vx_Ok m_Tp_init As sz h P :=
  vx_ok (M := (⟨"VoteWalls$Triples", "<init>", "(I)V"⟩, prog_5_method_1_code, 2, none, 1, 3, 24, 1, 2)) rfl (ow := 3) rfl ck_Tp_init hlen hL0 (fun _ _ _ h => h) body
def kb_Cal_init_0 : List vx_I := [(.aload_n 0, 1, 0, 0, .null, []), (.invokespecial 3, 3, 0, 0, .int 0, []), (.aload_n 0, 1, 0, 0, .null, []), (.bipush 50, 2, 0, 0, .int 50, []), (.newarray .int, 2, 0, 50, .null, []), (.putfield 9, 3, 0, 0, .null, []), (.aload_n 0, 1, 0, 0, .null, []), (.bipush 50, 2, 0, 0, .int 50, []), (.newarray .int, 2, 0, 50, .null, []), (.putfield 15, 3, 0, 1, .null, []), (.aload_n 0, 1, 0, 0, .null, []), (.iconst 0, 1, 0, 0, .int 0, []), (.putfield 18, 3, 0, 2, .int 0, []), (.return_, 1, 0, 0, .null, [])]
def tb_Cal_init : List (Nat × List vx_I) := [(0, kb_Cal_init_0)]
theorem bk_Cal_init_0 : vx_bk tb_Cal_init 0 = [(.aload_n 0, 1, 0, 0, .null, []), (.invokespecial 3, 3, 0, 0, .int 0, []), (.aload_n 0, 1, 0, 0, .null, []), (.bipush 50, 2, 0, 0, .int 50, []), (.newarray .int, 2, 0, 50, .null, []), (.putfield 9, 3, 0, 0, .null, []), (.aload_n 0, 1, 0, 0, .null, []), (.bipush 50, 2, 0, 0, .int 50, []), (.newarray .int, 2, 0, 50, .null, []), (.putfield 15, 3, 0, 1, .null, []), (.aload_n 0, 1, 0, 0, .null, []), (.iconst 0, 1, 0, 0, .int 0, []), (.putfield 18, 3, 0, 2, .int 0, []), (.return_, 1, 0, 0, .null, [])] := rfl
abbrev m_Cal_init : Nat := 3
set_option maxRecDepth 100000 in
theorem ck_Cal_init : vx_ckM prog_2_method_1_code 0 1 1 true none tb_Cal_init = true := by decide +kernel
theorem ok_Cal_init {As : List Value} {sz : Nat} {h : vx_H} {P : Option Value → vx_H → Prop} (L0 : vx_L) (hlen : (vx_ar As).length ≤ 1) (hL0 : vx_ar As ++ List.replicate (1 - (vx_ar As).length) none = L0)
    (body : ∀ X, vx_cl0 none (sz + 2, 100) tb_Cal_init (fun r z' h' => z'.1 = sz + 2 ∧ P r h') X → X 0 L0 [] (sz, 0) h) : vx_Ok m_Cal_init As sz h P :=
  vx_ok (M := (⟨"VoteWalls$Calendar", "<init>", "()V"⟩, prog_2_method_1_code, 1, none, 1, 2, 100, 0, 2)) rfl (ow := 0) rfl ck_Cal_init hlen hL0 (fun _ _ _ h => h) body
def kb_Wk_init_0 : List vx_I := [(.aload_n 0, 1, 0, 0, .null, []), (.invokespecial 3, 3, 0, 0, .int 0, []), (.aload_n 0, 1, 0, 0, .null, []), (.sipush 255, 3, 0, 0, .int 255, []), (.newarray .int, 2, 0, 255, .null, []), (.putfield 9, 3, 4, 0, .null, []), (.aload_n 0, 1, 0, 0, .null, []), (.iconst 5, 1, 0, 0, .int 5, []), (.newarray .int, 2, 0, 5, .null, []), (.putfield 15, 3, 4, 1, .null, []), (.aload_n 0, 1, 0, 0, .null, []), (.bipush 31, 2, 0, 0, .int 31, []), (.newarray .int, 2, 0, 31, .null, []), (.putfield 18, 3, 4, 2, .null, []), (.aload_n 0, 1, 0, 0, .null, []), (.iconst 0, 1, 0, 0, .int 0, []), (.putfield 21, 3, 4, 3, .int 0, []), (.aload_n 0, 1, 0, 0, .null, []), (.iconst 0, 1, 0, 0, .int 0, []), (.putfield 25, 3, 4, 4, .int 0, []), (.aload_n 0, 1, 0, 0, .null, []), (.iconst (-1), 1, 0, 0, .int (-1), []), (.putfield 28, 3, 4, 5, .int 0, []), (.aload_n 0, 1, 0, 0, .null, []), (.iconst (-1), 1, 0, 0, .int (-1), []), (.putfield 31, 3, 4, 6, .int 0, []), (.return_, 1, 0, 0, .null, [])]
def tb_Wk_init : List (Nat × List vx_I) := [(0, kb_Wk_init_0)]
theorem bk_Wk_init_0 : vx_bk tb_Wk_init 0 = [(.aload_n 0, 1, 0, 0, .null, []), (.invokespecial 3, 3, 0, 0, .int 0, []), (.aload_n 0, 1, 0, 0, .null, []), (.sipush 255, 3, 0, 0, .int 255, []), (.newarray .int, 2, 0, 255, .null, []), (.putfield 9, 3, 4, 0, .null, []), (.aload_n 0, 1, 0, 0, .null, []), (.iconst 5, 1, 0, 0, .int 5, []), (.newarray .int, 2, 0, 5, .null, []), (.putfield 15, 3, 4, 1, .null, []), (.aload_n 0, 1, 0, 0, .null, []), (.bipush 31, 2, 0, 0, .int 31, []), (.newarray .int, 2, 0, 31, .null, []), (.putfield 18, 3, 4, 2, .null, []), (.aload_n 0, 1, 0, 0, .null, []), (.iconst 0, 1, 0, 0, .int 0, []), (.putfield 21, 3, 4, 3, .int 0, []), (.aload_n 0, 1, 0, 0, .null, []), (.iconst 0, 1, 0, 0, .int 0, []), (.putfield 25, 3, 4, 4, .int 0, []), (.aload_n 0, 1, 0, 0, .null, []), (.iconst (-1), 1, 0, 0, .int (-1), []), (.putfield 28, 3, 4, 5, .int 0, []), (.aload_n 0, 1, 0, 0, .null, []), (.iconst (-1), 1, 0, 0, .int (-1), []), (.putfield 31, 3, 4, 6, .int 0, []), (.return_, 1, 0, 0, .null, [])] := rfl
abbrev m_Wk_init : Nat := 4
set_option maxRecDepth 100000 in
theorem ck_Wk_init : vx_ckM prog_6_method_1_code 4 1 1 true none tb_Wk_init = true := by decide +kernel
theorem ok_Wk_init {As : List Value} {sz : Nat} {h : vx_H} {P : Option Value → vx_H → Prop} (L0 : vx_L) (hlen : (vx_ar As).length ≤ 1) (hL0 : vx_ar As ++ List.replicate (1 - (vx_ar As).length) none = L0)
    (body : ∀ X, vx_cl0 none (sz + 3, 291) tb_Wk_init (fun r z' h' => z'.1 = sz + 3 ∧ P r h') X → X 0 L0 [] (sz, 0) h) : vx_Ok m_Wk_init As sz h P :=
  vx_ok (M := (⟨"VoteWalls$Weeks", "<init>", "()V"⟩, prog_6_method_1_code, 1, none, 1, 3, 291, 0, 2)) rfl (ow := 4) rfl ck_Wk_init hlen hL0 (fun _ _ _ h => h) body
def kb_Yd_init_0 : List vx_I := [(.aload_n 0, 1, 0, 0, .null, []), (.invokespecial 3, 3, 0, 0, .int 0, []), (.aload_n 0, 1, 0, 0, .null, []), (.iconst 5, 1, 0, 0, .int 5, []), (.newarray .int, 2, 0, 5, .null, []), (.putfield 9, 3, 5, 0, .null, []), (.aload_n 0, 1, 0, 0, .null, []), (.bipush 8, 2, 0, 0, .int 8, []), (.newarray .int, 2, 0, 8, .null, []), (.putfield 15, 3, 5, 1, .null, []), (.aload_n 0, 1, 0, 0, .null, []), (.bipush 8, 2, 0, 0, .int 8, []), (.newarray .int, 2, 0, 8, .null, []), (.putfield 18, 3, 5, 2, .null, []), (.aload_n 0, 1, 0, 0, .null, []), (.iconst 0, 1, 0, 0, .int 0, []), (.putfield 21, 3, 5, 3, .int 0, []), (.aload_n 0, 1, 0, 0, .null, []), (.iconst 0, 1, 0, 0, .int 0, []), (.putfield 25, 3, 5, 4, .int 0, []), (.aload_n 0, 1, 0, 0, .null, []), (.iconst 0, 1, 0, 0, .int 0, []), (.putfield 28, 3, 5, 5, .int 0, []), (.return_, 1, 0, 0, .null, [])]
def tb_Yd_init : List (Nat × List vx_I) := [(0, kb_Yd_init_0)]
theorem bk_Yd_init_0 : vx_bk tb_Yd_init 0 = [(.aload_n 0, 1, 0, 0, .null, []), (.invokespecial 3, 3, 0, 0, .int 0, []), (.aload_n 0, 1, 0, 0, .null, []), (.iconst 5, 1, 0, 0, .int 5, []), (.newarray .int, 2, 0, 5, .null, []), (.putfield 9, 3, 5, 0, .null, []), (.aload_n 0, 1, 0, 0, .null, []), (.bipush 8, 2, 0, 0, .int 8, []), (.newarray .int, 2, 0, 8, .null, []), (.putfield 15, 3, 5, 1, .null, []), (.aload_n 0, 1, 0, 0, .null, []), (.bipush 8, 2, 0, 0, .int 8, []), (.newarray .int, 2, 0, 8, .null, []), (.putfield 18, 3, 5, 2, .null, []), (.aload_n 0, 1, 0, 0, .null, []), (.iconst 0, 1, 0, 0, .int 0, []), (.putfield 21, 3, 5, 3, .int 0, []), (.aload_n 0, 1, 0, 0, .null, []), (.iconst 0, 1, 0, 0, .int 0, []), (.putfield 25, 3, 5, 4, .int 0, []), (.aload_n 0, 1, 0, 0, .null, []), (.iconst 0, 1, 0, 0, .int 0, []), (.putfield 28, 3, 5, 5, .int 0, []), (.return_, 1, 0, 0, .null, [])] := rfl
abbrev m_Yd_init : Nat := 5
set_option maxRecDepth 100000 in
theorem ck_Yd_init : vx_ckM prog_7_method_1_code 5 1 1 true none tb_Yd_init = true := by decide +kernel
theorem ok_Yd_init {As : List Value} {sz : Nat} {h : vx_H} {P : Option Value → vx_H → Prop} (L0 : vx_L) (hlen : (vx_ar As).length ≤ 1) (hL0 : vx_ar As ++ List.replicate (1 - (vx_ar As).length) none = L0)
    (body : ∀ X, vx_cl0 none (sz + 3, 21) tb_Yd_init (fun r z' h' => z'.1 = sz + 3 ∧ P r h') X → X 0 L0 [] (sz, 0) h) : vx_Ok m_Yd_init As sz h P :=
  vx_ok (M := (⟨"VoteWalls$Yard", "<init>", "()V"⟩, prog_7_method_1_code, 1, none, 1, 3, 21, 0, 2)) rfl (ow := 5) rfl ck_Yd_init hlen hL0 (fun _ _ _ h => h) body
def kb_Sh_init_0 : List vx_I := [(.aload_n 0, 1, 0, 0, .null, []), (.invokespecial 3, 3, 0, 0, .int 0, []), (.aload_n 0, 1, 0, 0, .null, []), (.bipush 60, 2, 0, 0, .int 60, []), (.newarray .int, 2, 0, 60, .null, []), (.putfield 9, 3, 1, 0, .null, []), (.aload_n 0, 1, 0, 0, .null, []), (.iconst (-1), 1, 0, 0, .int (-1), []), (.putfield 15, 3, 1, 1, .int 0, []), (.aload_n 0, 1, 0, 0, .null, []), (.iconst 0, 1, 0, 0, .int 0, []), (.putfield 19, 3, 1, 2, .int 0, []), (.return_, 1, 0, 0, .null, [])]
def tb_Sh_init : List (Nat × List vx_I) := [(0, kb_Sh_init_0)]
theorem bk_Sh_init_0 : vx_bk tb_Sh_init 0 = [(.aload_n 0, 1, 0, 0, .null, []), (.invokespecial 3, 3, 0, 0, .int 0, []), (.aload_n 0, 1, 0, 0, .null, []), (.bipush 60, 2, 0, 0, .int 60, []), (.newarray .int, 2, 0, 60, .null, []), (.putfield 9, 3, 1, 0, .null, []), (.aload_n 0, 1, 0, 0, .null, []), (.iconst (-1), 1, 0, 0, .int (-1), []), (.putfield 15, 3, 1, 1, .int 0, []), (.aload_n 0, 1, 0, 0, .null, []), (.iconst 0, 1, 0, 0, .int 0, []), (.putfield 19, 3, 1, 2, .int 0, []), (.return_, 1, 0, 0, .null, [])] := rfl
abbrev m_Sh_init : Nat := 6
set_option maxRecDepth 100000 in
theorem ck_Sh_init : vx_ckM prog_3_method_1_code 1 1 1 true none tb_Sh_init = true := by decide +kernel
theorem ok_Sh_init {As : List Value} {sz : Nat} {h : vx_H} {P : Option Value → vx_H → Prop} (L0 : vx_L) (hlen : (vx_ar As).length ≤ 1) (hL0 : vx_ar As ++ List.replicate (1 - (vx_ar As).length) none = L0)
    (body : ∀ X, vx_cl0 none (sz + 1, 60) tb_Sh_init (fun r z' h' => z'.1 = sz + 1 ∧ P r h') X → X 0 L0 [] (sz, 0) h) : vx_Ok m_Sh_init As sz h P :=
  vx_ok (M := (⟨"VoteWalls$Sheet", "<init>", "()V"⟩, prog_3_method_1_code, 1, none, 1, 1, 60, 0, 2)) rfl (ow := 1) rfl ck_Sh_init hlen hL0 (fun _ _ _ h => h) body
def kb_Sh_faultOfCells_0 : List vx_I := [(.aload_n 0, 1, 0, 0, .null, []), (.getfield 15, 3, 1, 1, .null, []), (.iconst (-1), 1, 0, 0, .int (-1), []), (.if_icmp .ne 5, 3, 10, 0, .null, []), (.iconst 1, 1, 0, 0, .int 1, []), (.ireturn, 1, 0, 0, .null, [])]
def kb_Sh_faultOfCells_10 : List vx_I := [(.aload_n 0, 1, 0, 0, .null, []), (.getfield 15, 3, 1, 1, .null, []), (.iload_n 1, 1, 1, 0, .null, []), (.if_icmp .eq 5, 3, 20, 0, .null, []), (.iconst 2, 1, 0, 0, .int 2, []), (.ireturn, 1, 0, 0, .null, [])]
def kb_Sh_faultOfCells_20 : List vx_I := [(.iload_n 3, 1, 3, 0, .null, []), (.ifCond .ge 5, 3, 26, 0, .null, []), (.iconst 4, 1, 0, 0, .int 4, []), (.ireturn, 1, 0, 0, .null, [])]
def kb_Sh_faultOfCells_26 : List vx_I := [(.aload_n 0, 1, 0, 0, .null, []), (.iload_n 2, 1, 2, 0, .null, []), (.iload_n 3, 1, 3, 0, .null, []), (.invokevirtual 28, 3, 12, 2, .null, [(0, 0)]), (.ifCond .eq 7, 3, 39, 0, .null, []), (.iconst 0, 1, 0, 0, .int 0, []), (.goto 4, 3, 40, 0, .null, [])]
def kb_Sh_faultOfCells_39 : List vx_I := [(.iconst 3, 1, 0, 0, .int 3, [])]
def kb_Sh_faultOfCells_40 : List vx_I := [(.ireturn, 1, 0, 0, .null, [])]
def tb_Sh_faultOfCells : List (Nat × List vx_I) := [(0, kb_Sh_faultOfCells_0), (10, kb_Sh_faultOfCells_10), (20, kb_Sh_faultOfCells_20), (26, kb_Sh_faultOfCells_26), (39, kb_Sh_faultOfCells_39), (40, kb_Sh_faultOfCells_40)]
theorem bk_Sh_faultOfCells_0 : vx_bk tb_Sh_faultOfCells 0 = [(.aload_n 0, 1, 0, 0, .null, []), (.getfield 15, 3, 1, 1, .null, []), (.iconst (-1), 1, 0, 0, .int (-1), []), (.if_icmp .ne 5, 3, 10, 0, .null, []), (.iconst 1, 1, 0, 0, .int 1, []), (.ireturn, 1, 0, 0, .null, [])] := rfl
theorem bk_Sh_faultOfCells_10 : vx_bk tb_Sh_faultOfCells 10 = [(.aload_n 0, 1, 0, 0, .null, []), (.getfield 15, 3, 1, 1, .null, []), (.iload_n 1, 1, 1, 0, .null, []), (.if_icmp .eq 5, 3, 20, 0, .null, []), (.iconst 2, 1, 0, 0, .int 2, []), (.ireturn, 1, 0, 0, .null, [])] := rfl
theorem bk_Sh_faultOfCells_20 : vx_bk tb_Sh_faultOfCells 20 = [(.iload_n 3, 1, 3, 0, .null, []), (.ifCond .ge 5, 3, 26, 0, .null, []), (.iconst 4, 1, 0, 0, .int 4, []), (.ireturn, 1, 0, 0, .null, [])] := rfl
theorem bk_Sh_faultOfCells_26 : vx_bk tb_Sh_faultOfCells 26 = [(.aload_n 0, 1, 0, 0, .null, []), (.iload_n 2, 1, 2, 0, .null, []), (.iload_n 3, 1, 3, 0, .null, []), (.invokevirtual 28, 3, 12, 2, .null, [(0, 0)]), (.ifCond .eq 7, 3, 39, 0, .null, []), (.iconst 0, 1, 0, 0, .int 0, []), (.goto 4, 3, 40, 0, .null, [])] := rfl
theorem bk_Sh_faultOfCells_39 : vx_bk tb_Sh_faultOfCells 39 = [(.iconst 3, 1, 0, 0, .int 3, [])] := rfl
theorem bk_Sh_faultOfCells_40 : vx_bk tb_Sh_faultOfCells 40 = [(.ireturn, 1, 0, 0, .null, [])] := rfl
abbrev m_Sh_faultOfCells : Nat := 11
set_option maxRecDepth 100000 in
theorem ck_Sh_faultOfCells : vx_ckM prog_3_method_4_code 1 4 1 false (some .int) tb_Sh_faultOfCells = true := by decide +kernel
theorem ok_Sh_faultOfCells {As : List Value} {sz : Nat} {h : vx_H} {P : Option Value → vx_H → Prop} (L0 : vx_L) (hlen : (vx_ar As).length ≤ 4) (hL0 : vx_ar As ++ List.replicate (4 - (vx_ar As).length) none = L0)
    (body : ∀ (lim z : vx_Z) X, vx_cl0 none lim tb_Sh_faultOfCells (fun r z' h' => z' = z ∧ P r h') X → X 0 L0 [] z h) : vx_Ok m_Sh_faultOfCells As sz h P :=
  vx_ok0 (M := (⟨"VoteWalls$Sheet", "faultOfCells", "(III)I"⟩, prog_3_method_4_code, 4, (some .int), 1, 0, 0, 3, 0)) rfl (ow := 1) rfl ck_Sh_faultOfCells rfl hlen hL0 body
def kb_Sh_holds_0 : List vx_I := [(.iload_n 2, 1, 2, 0, .null, []), (.ifCond .lt 29, 3, 30, 0, .null, []), (.iload_n 1, 1, 1, 0, .null, []), (.ifCond .lt 25, 3, 30, 0, .null, []), (.iload_n 1, 1, 1, 0, .null, []), (.aload_n 0, 1, 0, 0, .null, []), (.getfield 19, 3, 1, 2, .null, []), (.if_icmp .gt 17, 3, 30, 0, .null, []), (.iload_n 2, 1, 2, 0, .null, []), (.aload_n 0, 1, 0, 0, .null, []), (.getfield 19, 3, 1, 2, .null, []), (.iload_n 1, 1, 1, 0, .null, []), (.isub, 1, 0, 0, .null, []), (.if_icmp .gt 7, 3, 30, 0, .null, []), (.iconst 1, 1, 0, 0, .int 1, []), (.goto 4, 3, 31, 0, .null, [])]
def kb_Sh_holds_30 : List vx_I := [(.iconst 0, 1, 0, 0, .int 0, [])]
def kb_Sh_holds_31 : List vx_I := [(.ireturn, 1, 1, 0, .null, [])]
def tb_Sh_holds : List (Nat × List vx_I) := [(0, kb_Sh_holds_0), (30, kb_Sh_holds_30), (31, kb_Sh_holds_31)]
theorem bk_Sh_holds_0 : vx_bk tb_Sh_holds 0 = [(.iload_n 2, 1, 2, 0, .null, []), (.ifCond .lt 29, 3, 30, 0, .null, []), (.iload_n 1, 1, 1, 0, .null, []), (.ifCond .lt 25, 3, 30, 0, .null, []), (.iload_n 1, 1, 1, 0, .null, []), (.aload_n 0, 1, 0, 0, .null, []), (.getfield 19, 3, 1, 2, .null, []), (.if_icmp .gt 17, 3, 30, 0, .null, []), (.iload_n 2, 1, 2, 0, .null, []), (.aload_n 0, 1, 0, 0, .null, []), (.getfield 19, 3, 1, 2, .null, []), (.iload_n 1, 1, 1, 0, .null, []), (.isub, 1, 0, 0, .null, []), (.if_icmp .gt 7, 3, 30, 0, .null, []), (.iconst 1, 1, 0, 0, .int 1, []), (.goto 4, 3, 31, 0, .null, [])] := rfl
theorem bk_Sh_holds_30 : vx_bk tb_Sh_holds 30 = [(.iconst 0, 1, 0, 0, .int 0, [])] := rfl
theorem bk_Sh_holds_31 : vx_bk tb_Sh_holds 31 = [(.ireturn, 1, 1, 0, .null, [])] := rfl
abbrev m_Sh_holds : Nat := 12
set_option maxRecDepth 100000 in
theorem ck_Sh_holds : vx_ckM prog_3_method_3_code 1 3 0 false (some .boolean) tb_Sh_holds = true := by decide +kernel
theorem ok_Sh_holds {As : List Value} {sz : Nat} {h : vx_H} {P : Option Value → vx_H → Prop} (L0 : vx_L) (hlen : (vx_ar As).length ≤ 3) (hL0 : vx_ar As ++ List.replicate (3 - (vx_ar As).length) none = L0)
    (body : ∀ (lim z : vx_Z) X, vx_cl0 none lim tb_Sh_holds (fun r z' h' => z' = z ∧ P r h') X → X 0 L0 [] z h) : vx_Ok m_Sh_holds As sz h P :=
  vx_ok0 (M := (⟨"VoteWalls$Sheet", "holds", "(II)Z"⟩, prog_3_method_3_code, 3, (some .boolean), 0, 0, 0, 2, 0)) rfl (ow := 1) rfl ck_Sh_holds rfl hlen hL0 body
def kb_Tr_takes_0 : List vx_I := [(.aload_n 0, 1, 0, 0, .null, []), (.aload_n 1, 1, 1, 0, .null, []), (.putfield 21, 3, 2, 0, .null, []), (.aload_n 0, 1, 0, 0, .null, []), (.iload_n 2, 1, 2, 0, .null, []), (.putfield 9, 3, 2, 1, .int 0, []), (.aload_n 0, 1, 0, 0, .null, []), (.iload_n 3, 1, 3, 0, .null, []), (.putfield 15, 3, 2, 2, .int 0, []), (.aload_n 0, 1, 0, 0, .null, []), (.iconst 0, 1, 0, 0, .int 0, []), (.putfield 18, 3, 2, 3, .int 0, []), (.aload_n 0, 1, 0, 0, .null, []), (.aload 4, 2, 4, 0, .null, []), (.invokevirtual 25, 3, 15, 1, .null, [(0, 0), (0, 0)]), (.ifCond .eq 36, 3, 62, 0, .null, []), (.aload_n 0, 1, 0, 0, .null, []), (.aload 4, 2, 4, 0, .null, []), (.invokevirtual 29, 3, 21, 1, .null, [(0, 0), (0, 0)]), (.ifCond .eq 27, 3, 62, 0, .null, []), (.aload_n 0, 1, 0, 0, .null, []), (.aload 4, 2, 4, 0, .null, []), (.invokevirtual 32, 3, 22, 1, .null, [(0, 0), (0, 0)]), (.ifCond .eq 18, 3, 62, 0, .null, []), (.aload_n 0, 1, 0, 0, .null, []), (.getfield 18, 3, 2, 3, .null, []), (.aload_n 0, 1, 0, 0, .null, []), (.getfield 15, 3, 2, 2, .null, []), (.if_icmp .ne 7, 3, 62, 0, .null, []), (.iconst 1, 1, 0, 0, .int 1, []), (.goto 4, 3, 63, 0, .null, [])]
def kb_Tr_takes_62 : List vx_I := [(.iconst 0, 1, 0, 0, .int 0, [])]
def kb_Tr_takes_63 : List vx_I := [(.ireturn, 1, 1, 0, .null, [])]
def tb_Tr_takes : List (Nat × List vx_I) := [(0, kb_Tr_takes_0), (62, kb_Tr_takes_62), (63, kb_Tr_takes_63)]
theorem bk_Tr_takes_0 : vx_bk tb_Tr_takes 0 = [(.aload_n 0, 1, 0, 0, .null, []), (.aload_n 1, 1, 1, 0, .null, []), (.putfield 21, 3, 2, 0, .null, []), (.aload_n 0, 1, 0, 0, .null, []), (.iload_n 2, 1, 2, 0, .null, []), (.putfield 9, 3, 2, 1, .int 0, []), (.aload_n 0, 1, 0, 0, .null, []), (.iload_n 3, 1, 3, 0, .null, []), (.putfield 15, 3, 2, 2, .int 0, []), (.aload_n 0, 1, 0, 0, .null, []), (.iconst 0, 1, 0, 0, .int 0, []), (.putfield 18, 3, 2, 3, .int 0, []), (.aload_n 0, 1, 0, 0, .null, []), (.aload 4, 2, 4, 0, .null, []), (.invokevirtual 25, 3, 15, 1, .null, [(0, 0), (0, 0)]), (.ifCond .eq 36, 3, 62, 0, .null, []), (.aload_n 0, 1, 0, 0, .null, []), (.aload 4, 2, 4, 0, .null, []), (.invokevirtual 29, 3, 21, 1, .null, [(0, 0), (0, 0)]), (.ifCond .eq 27, 3, 62, 0, .null, []), (.aload_n 0, 1, 0, 0, .null, []), (.aload 4, 2, 4, 0, .null, []), (.invokevirtual 32, 3, 22, 1, .null, [(0, 0), (0, 0)]), (.ifCond .eq 18, 3, 62, 0, .null, []), (.aload_n 0, 1, 0, 0, .null, []), (.getfield 18, 3, 2, 3, .null, []), (.aload_n 0, 1, 0, 0, .null, []), (.getfield 15, 3, 2, 2, .null, []), (.if_icmp .ne 7, 3, 62, 0, .null, []), (.iconst 1, 1, 0, 0, .int 1, []), (.goto 4, 3, 63, 0, .null, [])] := rfl
theorem bk_Tr_takes_62 : vx_bk tb_Tr_takes 62 = [(.iconst 0, 1, 0, 0, .int 0, [])] := rfl
theorem bk_Tr_takes_63 : vx_bk tb_Tr_takes 63 = [(.ireturn, 1, 1, 0, .null, [])] := rfl
abbrev m_Tr_takes : Nat := 14
set_option maxRecDepth 100000 in
theorem ck_Tr_takes : vx_ckM prog_4_method_2_code 2 5 5 false (some .boolean) tb_Tr_takes = true := by decide +kernel
theorem ok_Tr_takes {As : List Value} {sz : Nat} {h : vx_H} {P : Option Value → vx_H → Prop} (L0 : vx_L) (hlen : (vx_ar As).length ≤ 5) (hL0 : vx_ar As ++ List.replicate (5 - (vx_ar As).length) none = L0)
    (body : ∀ (lim z : vx_Z) X, vx_cl0 none lim tb_Tr_takes (fun r z' h' => z' = z ∧ P r h') X → X 0 L0 [] z h) : vx_Ok m_Tr_takes As sz h P :=
  vx_ok0 (M := (⟨"VoteWalls$TextReader", "takes", "(LVoteWalls$Sheet;IILVoteWalls$Yard;)Z"⟩, prog_4_method_2_code, 5, (some .boolean), 5, 0, 0, 4, 0)) rfl (ow := 2) rfl ck_Tr_takes rfl hlen hL0 body
def kb_Tr_takeInches_0 : List vx_I := [(.aload_n 0, 1, 0, 0, .null, []), (.bipush 118, 2, 0, 0, .int 118, []), (.invokevirtual 35, 3, 16, 1, .null, [(0, 0), (0, 0)]), (.ifCond .ne 5, 3, 11, 0, .null, []), (.iconst 0, 1, 0, 0, .int 0, []), (.ireturn, 1, 1, 0, .null, [])]
def kb_Tr_takeInches_11 : List vx_I := [(.aload_n 1, 1, 1, 0, .null, []), (.aload_n 0, 1, 0, 0, .null, []), (.iconst 4, 1, 0, 0, .int 4, []), (.bipush 30, 2, 0, 0, .int 30, []), (.invokevirtual 39, 3, 19, 2, .null, [(0, 0), (0, 0)]), (.putfield 43, 3, 5, 3, .int 0, []), (.aload_n 1, 1, 1, 0, .null, []), (.getfield 43, 3, 5, 3, .null, []), (.ifCond .lt 7, 3, 33, 0, .null, []), (.iconst 1, 1, 0, 0, .int 1, []), (.goto 4, 3, 34, 0, .null, [])]
def kb_Tr_takeInches_33 : List vx_I := [(.iconst 0, 1, 0, 0, .int 0, [])]
def kb_Tr_takeInches_34 : List vx_I := [(.ireturn, 1, 1, 0, .null, [])]
def tb_Tr_takeInches : List (Nat × List vx_I) := [(0, kb_Tr_takeInches_0), (11, kb_Tr_takeInches_11), (33, kb_Tr_takeInches_33), (34, kb_Tr_takeInches_34)]
theorem bk_Tr_takeInches_0 : vx_bk tb_Tr_takeInches 0 = [(.aload_n 0, 1, 0, 0, .null, []), (.bipush 118, 2, 0, 0, .int 118, []), (.invokevirtual 35, 3, 16, 1, .null, [(0, 0), (0, 0)]), (.ifCond .ne 5, 3, 11, 0, .null, []), (.iconst 0, 1, 0, 0, .int 0, []), (.ireturn, 1, 1, 0, .null, [])] := rfl
theorem bk_Tr_takeInches_11 : vx_bk tb_Tr_takeInches 11 = [(.aload_n 1, 1, 1, 0, .null, []), (.aload_n 0, 1, 0, 0, .null, []), (.iconst 4, 1, 0, 0, .int 4, []), (.bipush 30, 2, 0, 0, .int 30, []), (.invokevirtual 39, 3, 19, 2, .null, [(0, 0), (0, 0)]), (.putfield 43, 3, 5, 3, .int 0, []), (.aload_n 1, 1, 1, 0, .null, []), (.getfield 43, 3, 5, 3, .null, []), (.ifCond .lt 7, 3, 33, 0, .null, []), (.iconst 1, 1, 0, 0, .int 1, []), (.goto 4, 3, 34, 0, .null, [])] := rfl
theorem bk_Tr_takeInches_33 : vx_bk tb_Tr_takeInches 33 = [(.iconst 0, 1, 0, 0, .int 0, [])] := rfl
theorem bk_Tr_takeInches_34 : vx_bk tb_Tr_takeInches 34 = [(.ireturn, 1, 1, 0, .null, [])] := rfl
abbrev m_Tr_takeInches : Nat := 15
set_option maxRecDepth 100000 in
theorem ck_Tr_takeInches : vx_ckM prog_4_method_3_code 2 2 4 false (some .boolean) tb_Tr_takeInches = true := by decide +kernel
theorem ok_Tr_takeInches {As : List Value} {sz : Nat} {h : vx_H} {P : Option Value → vx_H → Prop} (L0 : vx_L) (hlen : (vx_ar As).length ≤ 2) (hL0 : vx_ar As ++ List.replicate (2 - (vx_ar As).length) none = L0)
    (body : ∀ (lim z : vx_Z) X, vx_cl0 none lim tb_Tr_takeInches (fun r z' h' => z' = z ∧ P r h') X → X 0 L0 [] z h) : vx_Ok m_Tr_takeInches As sz h P :=
  vx_ok0 (M := (⟨"VoteWalls$TextReader", "takeInches", "(LVoteWalls$Yard;)Z"⟩, prog_4_method_3_code, 2, (some .boolean), 4, 0, 0, 1, 0)) rfl (ow := 2) rfl ck_Tr_takeInches rfl hlen hL0 body
def kb_Tr_takeCode_0 : List vx_I := [(.aload_n 0, 1, 0, 0, .null, []), (.invokevirtual 51, 3, 17, 0, .null, [(0, 0), (0, 0)]), (.iload_n 1, 1, 1, 0, .null, []), (.if_icmp .eq 5, 3, 10, 0, .null, []), (.iconst 0, 1, 0, 0, .int 0, []), (.ireturn, 1, 1, 0, .null, [])]
def kb_Tr_takeCode_10 : List vx_I := [(.aload_n 0, 1, 0, 0, .null, []), (.dup, 1, 0, 0, .null, []), (.getfield 18, 3, 2, 3, .null, []), (.iconst 1, 1, 0, 0, .int 1, []), (.iadd, 1, 0, 0, .null, []), (.putfield 18, 3, 2, 3, .int 0, []), (.iconst 1, 1, 0, 0, .int 1, []), (.ireturn, 1, 1, 0, .null, [])]
def tb_Tr_takeCode : List (Nat × List vx_I) := [(0, kb_Tr_takeCode_0), (10, kb_Tr_takeCode_10)]
theorem bk_Tr_takeCode_0 : vx_bk tb_Tr_takeCode 0 = [(.aload_n 0, 1, 0, 0, .null, []), (.invokevirtual 51, 3, 17, 0, .null, [(0, 0), (0, 0)]), (.iload_n 1, 1, 1, 0, .null, []), (.if_icmp .eq 5, 3, 10, 0, .null, []), (.iconst 0, 1, 0, 0, .int 0, []), (.ireturn, 1, 1, 0, .null, [])] := rfl
theorem bk_Tr_takeCode_10 : vx_bk tb_Tr_takeCode 10 = [(.aload_n 0, 1, 0, 0, .null, []), (.dup, 1, 0, 0, .null, []), (.getfield 18, 3, 2, 3, .null, []), (.iconst 1, 1, 0, 0, .int 1, []), (.iadd, 1, 0, 0, .null, []), (.putfield 18, 3, 2, 3, .int 0, []), (.iconst 1, 1, 0, 0, .int 1, []), (.ireturn, 1, 1, 0, .null, [])] := rfl
abbrev m_Tr_takeCode : Nat := 16
set_option maxRecDepth 100000 in
theorem ck_Tr_takeCode : vx_ckM prog_4_method_7_code 2 2 2 false (some .boolean) tb_Tr_takeCode = true := by decide +kernel
theorem ok_Tr_takeCode {As : List Value} {sz : Nat} {h : vx_H} {P : Option Value → vx_H → Prop} (L0 : vx_L) (hlen : (vx_ar As).length ≤ 2) (hL0 : vx_ar As ++ List.replicate (2 - (vx_ar As).length) none = L0)
    (body : ∀ (lim z : vx_Z) X, vx_cl0 none lim tb_Tr_takeCode (fun r z' h' => z' = z ∧ P r h') X → X 0 L0 [] z h) : vx_Ok m_Tr_takeCode As sz h P :=
  vx_ok0 (M := (⟨"VoteWalls$TextReader", "takeCode", "(I)Z"⟩, prog_4_method_7_code, 2, (some .boolean), 2, 0, 0, 1, 0)) rfl (ow := 2) rfl ck_Tr_takeCode rfl hlen hL0 body
def kb_Tr_code_0 : List vx_I := [(.aload_n 0, 1, 0, 0, .null, []), (.getfield 18, 3, 2, 3, .null, []), (.aload_n 0, 1, 0, 0, .null, []), (.getfield 15, 3, 2, 2, .null, []), (.if_icmp .ge 29, 3, 37, 0, .null, []), (.aload_n 0, 1, 0, 0, .null, []), (.getfield 21, 3, 2, 0, .null, []), (.ifnull 22, 3, 37, 0, .null, []), (.aload_n 0, 1, 0, 0, .null, []), (.getfield 21, 3, 2, 0, .null, []), (.aload_n 0, 1, 0, 0, .null, []), (.getfield 9, 3, 2, 1, .null, []), (.aload_n 0, 1, 0, 0, .null, []), (.getfield 18, 3, 2, 3, .null, []), (.iadd, 1, 0, 0, .null, []), (.invokevirtual 71, 3, 18, 1, .null, [(0, 0)]), (.goto 4, 3, 38, 0, .null, [])]
def kb_Tr_code_37 : List vx_I := [(.iconst (-1), 1, 0, 0, .int (-1), [])]
def kb_Tr_code_38 : List vx_I := [(.ireturn, 1, 0, 0, .null, [])]
def tb_Tr_code : List (Nat × List vx_I) := [(0, kb_Tr_code_0), (37, kb_Tr_code_37), (38, kb_Tr_code_38)]
theorem bk_Tr_code_0 : vx_bk tb_Tr_code 0 = [(.aload_n 0, 1, 0, 0, .null, []), (.getfield 18, 3, 2, 3, .null, []), (.aload_n 0, 1, 0, 0, .null, []), (.getfield 15, 3, 2, 2, .null, []), (.if_icmp .ge 29, 3, 37, 0, .null, []), (.aload_n 0, 1, 0, 0, .null, []), (.getfield 21, 3, 2, 0, .null, []), (.ifnull 22, 3, 37, 0, .null, []), (.aload_n 0, 1, 0, 0, .null, []), (.getfield 21, 3, 2, 0, .null, []), (.aload_n 0, 1, 0, 0, .null, []), (.getfield 9, 3, 2, 1, .null, []), (.aload_n 0, 1, 0, 0, .null, []), (.getfield 18, 3, 2, 3, .null, []), (.iadd, 1, 0, 0, .null, []), (.invokevirtual 71, 3, 18, 1, .null, [(0, 0)]), (.goto 4, 3, 38, 0, .null, [])] := rfl
theorem bk_Tr_code_37 : vx_bk tb_Tr_code 37 = [(.iconst (-1), 1, 0, 0, .int (-1), [])] := rfl
theorem bk_Tr_code_38 : vx_bk tb_Tr_code 38 = [(.ireturn, 1, 0, 0, .null, [])] := rfl
abbrev m_Tr_code : Nat := 17
set_option maxRecDepth 100000 in
theorem ck_Tr_code : vx_ckM prog_4_method_6_code 2 1 1 false (some .int) tb_Tr_code = true := by decide +kernel
theorem ok_Tr_code {As : List Value} {sz : Nat} {h : vx_H} {P : Option Value → vx_H → Prop} (L0 : vx_L) (hlen : (vx_ar As).length ≤ 1) (hL0 : vx_ar As ++ List.replicate (1 - (vx_ar As).length) none = L0)
    (body : ∀ (lim z : vx_Z) X, vx_cl0 none lim tb_Tr_code (fun r z' h' => z' = z ∧ P r h') X → X 0 L0 [] z h) : vx_Ok m_Tr_code As sz h P :=
  vx_ok0 (M := (⟨"VoteWalls$TextReader", "code", "()I"⟩, prog_4_method_6_code, 1, (some .int), 1, 0, 0, 0, 0)) rfl (ow := 2) rfl ck_Tr_code rfl hlen hL0 body
def kb_Sh_numberAt_0 : List vx_I := [(.iload_n 1, 1, 1, 0, .null, []), (.ifCond .lt 20, 3, 21, 0, .null, []), (.iload_n 1, 1, 1, 0, .null, []), (.aload_n 0, 1, 0, 0, .null, []), (.getfield 19, 3, 1, 2, .null, []), (.if_icmp .ge 12, 3, 21, 0, .null, []), (.aload_n 0, 1, 0, 0, .null, []), (.getfield 9, 3, 1, 0, .null, []), (.iload_n 1, 1, 1, 0, .null, []), (.iaload, 1, 0, 0, .null, []), (.goto 4, 3, 22, 0, .null, [])]
def kb_Sh_numberAt_21 : List vx_I := [(.iconst 0, 1, 0, 0, .int 0, [])]
def kb_Sh_numberAt_22 : List vx_I := [(.ireturn, 1, 0, 0, .null, [])]
def tb_Sh_numberAt : List (Nat × List vx_I) := [(0, kb_Sh_numberAt_0), (21, kb_Sh_numberAt_21), (22, kb_Sh_numberAt_22)]
theorem bk_Sh_numberAt_0 : vx_bk tb_Sh_numberAt 0 = [(.iload_n 1, 1, 1, 0, .null, []), (.ifCond .lt 20, 3, 21, 0, .null, []), (.iload_n 1, 1, 1, 0, .null, []), (.aload_n 0, 1, 0, 0, .null, []), (.getfield 19, 3, 1, 2, .null, []), (.if_icmp .ge 12, 3, 21, 0, .null, []), (.aload_n 0, 1, 0, 0, .null, []), (.getfield 9, 3, 1, 0, .null, []), (.iload_n 1, 1, 1, 0, .null, []), (.iaload, 1, 0, 0, .null, []), (.goto 4, 3, 22, 0, .null, [])] := rfl
theorem bk_Sh_numberAt_21 : vx_bk tb_Sh_numberAt 21 = [(.iconst 0, 1, 0, 0, .int 0, [])] := rfl
theorem bk_Sh_numberAt_22 : vx_bk tb_Sh_numberAt 22 = [(.ireturn, 1, 0, 0, .null, [])] := rfl
abbrev m_Sh_numberAt : Nat := 18
set_option maxRecDepth 100000 in
theorem ck_Sh_numberAt : vx_ckM prog_3_method_5_code 1 2 0 false (some .int) tb_Sh_numberAt = true := by decide +kernel
theorem ok_Sh_numberAt {As : List Value} {sz : Nat} {h : vx_H} {P : Option Value → vx_H → Prop} (L0 : vx_L) (hlen : (vx_ar As).length ≤ 2) (hL0 : vx_ar As ++ List.replicate (2 - (vx_ar As).length) none = L0)
    (body : ∀ (lim z : vx_Z) X, vx_cl0 none lim tb_Sh_numberAt (fun r z' h' => z' = z ∧ P r h') X → X 0 L0 [] z h) : vx_Ok m_Sh_numberAt As sz h P :=
  vx_ok0 (M := (⟨"VoteWalls$Sheet", "numberAt", "(I)I"⟩, prog_3_method_5_code, 2, (some .int), 0, 0, 0, 1, 0)) rfl (ow := 1) rfl ck_Sh_numberAt rfl hlen hL0 body
def kb_Tr_takeNumber_0 : List vx_I := [(.aload_n 0, 1, 0, 0, .null, []), (.iload_n 1, 1, 1, 0, .null, []), (.iload_n 2, 1, 2, 0, .null, []), (.iconst 0, 1, 0, 0, .int 0, []), (.bipush 10, 2, 0, 0, .int 10, []), (.invokevirtual 77, 3, 20, 4, .null, [(0, 0), (0, 0)]), (.istore_n 3, 1, 3, 0, .null, []), (.iload_n 3, 1, 3, 0, .null, []), (.ifCond .ge 7, 3, 18, 0, .null, []), (.iconst (-1), 1, 0, 0, .int (-1), []), (.goto 11, 3, 26, 0, .null, [])]
def kb_Tr_takeNumber_18 : List vx_I := [(.aload_n 0, 1, 0, 0, .null, []), (.iload_n 1, 1, 1, 0, .null, []), (.iload_n 2, 1, 2, 0, .null, []), (.iload_n 3, 1, 3, 0, .null, []), (.iconst 1, 1, 0, 0, .int 1, []), (.invokevirtual 77, 3, 20, 4, .null, [(0, 0), (0, 0)])]
def kb_Tr_takeNumber_26 : List vx_I := [(.ireturn, 1, 0, 0, .null, [])]
def tb_Tr_takeNumber : List (Nat × List vx_I) := [(0, kb_Tr_takeNumber_0), (18, kb_Tr_takeNumber_18), (26, kb_Tr_takeNumber_26)]
theorem bk_Tr_takeNumber_0 : vx_bk tb_Tr_takeNumber 0 = [(.aload_n 0, 1, 0, 0, .null, []), (.iload_n 1, 1, 1, 0, .null, []), (.iload_n 2, 1, 2, 0, .null, []), (.iconst 0, 1, 0, 0, .int 0, []), (.bipush 10, 2, 0, 0, .int 10, []), (.invokevirtual 77, 3, 20, 4, .null, [(0, 0), (0, 0)]), (.istore_n 3, 1, 3, 0, .null, []), (.iload_n 3, 1, 3, 0, .null, []), (.ifCond .ge 7, 3, 18, 0, .null, []), (.iconst (-1), 1, 0, 0, .int (-1), []), (.goto 11, 3, 26, 0, .null, [])] := rfl
theorem bk_Tr_takeNumber_18 : vx_bk tb_Tr_takeNumber 18 = [(.aload_n 0, 1, 0, 0, .null, []), (.iload_n 1, 1, 1, 0, .null, []), (.iload_n 2, 1, 2, 0, .null, []), (.iload_n 3, 1, 3, 0, .null, []), (.iconst 1, 1, 0, 0, .int 1, []), (.invokevirtual 77, 3, 20, 4, .null, [(0, 0), (0, 0)])] := rfl
theorem bk_Tr_takeNumber_26 : vx_bk tb_Tr_takeNumber 26 = [(.ireturn, 1, 0, 0, .null, [])] := rfl
abbrev m_Tr_takeNumber : Nat := 19
set_option maxRecDepth 100000 in
theorem ck_Tr_takeNumber : vx_ckM prog_4_method_9_code 2 4 3 false (some .int) tb_Tr_takeNumber = true := by decide +kernel
theorem ok_Tr_takeNumber {As : List Value} {sz : Nat} {h : vx_H} {P : Option Value → vx_H → Prop} (L0 : vx_L) (hlen : (vx_ar As).length ≤ 4) (hL0 : vx_ar As ++ List.replicate (4 - (vx_ar As).length) none = L0)
    (body : ∀ (lim z : vx_Z) X, vx_cl0 none lim tb_Tr_takeNumber (fun r z' h' => z' = z ∧ P r h') X → X 0 L0 [] z h) : vx_Ok m_Tr_takeNumber As sz h P :=
  vx_ok0 (M := (⟨"VoteWalls$TextReader", "takeNumber", "(II)I"⟩, prog_4_method_9_code, 4, (some .int), 3, 0, 0, 2, 0)) rfl (ow := 2) rfl ck_Tr_takeNumber rfl hlen hL0 body
def kb_Tr_takeDigit_0 : List vx_I := [(.aload_n 0, 1, 0, 0, .null, []), (.invokevirtual 51, 3, 17, 0, .null, [(0, 0), (0, 0)]), (.bipush 48, 2, 0, 0, .int 48, []), (.isub, 1, 0, 0, .null, []), (.istore 5, 2, 5, 0, .null, []), (.iload_n 3, 1, 3, 0, .null, []), (.iload 5, 2, 5, 0, .null, []), (.iload 4, 2, 4, 0, .null, []), (.imul, 1, 0, 0, .null, []), (.iadd, 1, 0, 0, .null, []), (.istore 6, 2, 6, 0, .null, []), (.iload 6, 2, 6, 0, .null, []), (.iload 4, 2, 4, 0, .null, []), (.iadd, 1, 0, 0, .null, []), (.iconst 1, 1, 0, 0, .int 1, []), (.isub, 1, 0, 0, .null, []), (.istore 7, 2, 7, 0, .null, []), (.iload 5, 2, 5, 0, .null, []), (.ifCond .lt 25, 3, 54, 0, .null, []), (.iload 5, 2, 5, 0, .null, []), (.bipush 9, 2, 0, 0, .int 9, []), (.if_icmp .gt 18, 3, 54, 0, .null, []), (.iload 6, 2, 6, 0, .null, []), (.iload_n 1, 1, 1, 0, .null, []), (.invokestatic 81, 3, 0, 0, .float 0, []), (.iload 7, 2, 7, 0, .null, []), (.iload_n 2, 1, 2, 0, .null, []), (.invokestatic 86, 3, 0, 0, .long 0, []), (.if_icmp .le 5, 3, 56, 0, .null, [])]
def kb_Tr_takeDigit_54 : List vx_I := [(.iconst (-1), 1, 0, 0, .int (-1), []), (.ireturn, 1, 0, 0, .null, [])]
def kb_Tr_takeDigit_56 : List vx_I := [(.aload_n 0, 1, 0, 0, .null, []), (.dup, 1, 0, 0, .null, []), (.getfield 18, 3, 2, 3, .null, []), (.iconst 1, 1, 0, 0, .int 1, []), (.iadd, 1, 0, 0, .null, []), (.putfield 18, 3, 2, 3, .int 0, []), (.iload 6, 2, 6, 0, .null, []), (.ireturn, 1, 0, 0, .null, [])]
def tb_Tr_takeDigit : List (Nat × List vx_I) := [(0, kb_Tr_takeDigit_0), (54, kb_Tr_takeDigit_54), (56, kb_Tr_takeDigit_56)]
theorem bk_Tr_takeDigit_0 : vx_bk tb_Tr_takeDigit 0 = [(.aload_n 0, 1, 0, 0, .null, []), (.invokevirtual 51, 3, 17, 0, .null, [(0, 0), (0, 0)]), (.bipush 48, 2, 0, 0, .int 48, []), (.isub, 1, 0, 0, .null, []), (.istore 5, 2, 5, 0, .null, []), (.iload_n 3, 1, 3, 0, .null, []), (.iload 5, 2, 5, 0, .null, []), (.iload 4, 2, 4, 0, .null, []), (.imul, 1, 0, 0, .null, []), (.iadd, 1, 0, 0, .null, []), (.istore 6, 2, 6, 0, .null, []), (.iload 6, 2, 6, 0, .null, []), (.iload 4, 2, 4, 0, .null, []), (.iadd, 1, 0, 0, .null, []), (.iconst 1, 1, 0, 0, .int 1, []), (.isub, 1, 0, 0, .null, []), (.istore 7, 2, 7, 0, .null, []), (.iload 5, 2, 5, 0, .null, []), (.ifCond .lt 25, 3, 54, 0, .null, []), (.iload 5, 2, 5, 0, .null, []), (.bipush 9, 2, 0, 0, .int 9, []), (.if_icmp .gt 18, 3, 54, 0, .null, []), (.iload 6, 2, 6, 0, .null, []), (.iload_n 1, 1, 1, 0, .null, []), (.invokestatic 81, 3, 0, 0, .float 0, []), (.iload 7, 2, 7, 0, .null, []), (.iload_n 2, 1, 2, 0, .null, []), (.invokestatic 86, 3, 0, 0, .long 0, []), (.if_icmp .le 5, 3, 56, 0, .null, [])] := rfl
theorem bk_Tr_takeDigit_54 : vx_bk tb_Tr_takeDigit 54 = [(.iconst (-1), 1, 0, 0, .int (-1), []), (.ireturn, 1, 0, 0, .null, [])] := rfl
theorem bk_Tr_takeDigit_56 : vx_bk tb_Tr_takeDigit 56 = [(.aload_n 0, 1, 0, 0, .null, []), (.dup, 1, 0, 0, .null, []), (.getfield 18, 3, 2, 3, .null, []), (.iconst 1, 1, 0, 0, .int 1, []), (.iadd, 1, 0, 0, .null, []), (.putfield 18, 3, 2, 3, .int 0, []), (.iload 6, 2, 6, 0, .null, []), (.ireturn, 1, 0, 0, .null, [])] := rfl
abbrev m_Tr_takeDigit : Nat := 20
set_option maxRecDepth 100000 in
theorem ck_Tr_takeDigit : vx_ckM prog_4_method_10_code 2 8 2 false (some .int) tb_Tr_takeDigit = true := by decide +kernel
theorem ok_Tr_takeDigit {As : List Value} {sz : Nat} {h : vx_H} {P : Option Value → vx_H → Prop} (L0 : vx_L) (hlen : (vx_ar As).length ≤ 8) (hL0 : vx_ar As ++ List.replicate (8 - (vx_ar As).length) none = L0)
    (body : ∀ (lim z : vx_Z) X, vx_cl0 none lim tb_Tr_takeDigit (fun r z' h' => z' = z ∧ P r h') X → X 0 L0 [] z h) : vx_Ok m_Tr_takeDigit As sz h P :=
  vx_ok0 (M := (⟨"VoteWalls$TextReader", "takeDigit", "(IIII)I"⟩, prog_4_method_10_code, 8, (some .int), 2, 0, 0, 4, 0)) rfl (ow := 2) rfl ck_Tr_takeDigit rfl hlen hL0 body
def kb_Tr_takeBoards_0 : List vx_I := [(.iconst 0, 1, 0, 0, .int 0, []), (.istore_n 2, 1, 2, 0, .null, []), (.aload_n 1, 1, 1, 0, .null, []), (.iconst 0, 1, 0, 0, .int 0, []), (.putfield 48, 3, 5, 4, .int 0, []), (.iconst 0, 1, 0, 0, .int 0, []), (.istore_n 3, 1, 3, 0, .null, [])]
def kb_Tr_takeBoards_9 : List vx_I := [(.iload_n 3, 1, 3, 0, .null, []), (.iconst 5, 1, 0, 0, .int 5, []), (.if_icmp .ge 69, 3, 80, 0, .null, []), (.iload_n 3, 1, 3, 0, .null, []), (.ifCond .le 14, 3, 29, 0, .null, []), (.aload_n 0, 1, 0, 0, .null, []), (.invokevirtual 51, 3, 17, 0, .null, [(0, 0), (0, 0)]), (.bipush 59, 2, 0, 0, .int 59, []), (.if_icmp .eq 5, 3, 29, 0, .null, []), (.iconst 1, 1, 0, 0, .int 1, []), (.ireturn, 1, 1, 0, .null, [])]
def kb_Tr_takeBoards_29 : List vx_I := [(.aload_n 0, 1, 0, 0, .null, []), (.bipush 59, 2, 0, 0, .int 59, []), (.invokevirtual 35, 3, 16, 1, .null, [(0, 0), (0, 0)]), (.ifCond .ne 5, 3, 40, 0, .null, []), (.iconst 0, 1, 0, 0, .int 0, []), (.ireturn, 1, 1, 0, .null, [])]
def kb_Tr_takeBoards_40 : List vx_I := [(.aload_n 0, 1, 0, 0, .null, []), (.iload_n 2, 1, 2, 0, .null, []), (.iconst 1, 1, 0, 0, .int 1, []), (.iadd, 1, 0, 0, .null, []), (.aload_n 1, 1, 1, 0, .null, []), (.getfield 43, 3, 5, 3, .null, []), (.iconst 1, 1, 0, 0, .int 1, []), (.isub, 1, 0, 0, .null, []), (.invokevirtual 39, 3, 19, 2, .null, [(0, 0), (0, 0)]), (.istore_n 2, 1, 2, 0, .null, []), (.iload_n 2, 1, 2, 0, .null, []), (.ifCond .ge 5, 3, 60, 0, .null, []), (.iconst 0, 1, 0, 0, .int 0, []), (.ireturn, 1, 1, 0, .null, [])]
def kb_Tr_takeBoards_60 : List vx_I := [(.aload_n 1, 1, 1, 0, .null, []), (.getfield 55, 3, 5, 0, .null, []), (.iload_n 3, 1, 3, 0, .null, []), (.iload_n 2, 1, 2, 0, .null, []), (.iastore, 1, 0, 0, .null, []), (.aload_n 1, 1, 1, 0, .null, []), (.iload_n 3, 1, 3, 0, .null, []), (.iconst 1, 1, 0, 0, .int 1, []), (.iadd, 1, 0, 0, .null, []), (.putfield 48, 3, 5, 4, .int 0, []), (.iinc 3 1, 3, 3, 0, .int 1, []), (.goto (-68), 3, 9, 0, .null, [])]
def kb_Tr_takeBoards_80 : List vx_I := [(.iconst 1, 1, 0, 0, .int 1, []), (.ireturn, 1, 1, 0, .null, [])]
def tb_Tr_takeBoards : List (Nat × List vx_I) := [(0, kb_Tr_takeBoards_0), (9, kb_Tr_takeBoards_9), (29, kb_Tr_takeBoards_29), (40, kb_Tr_takeBoards_40), (60, kb_Tr_takeBoards_60), (80, kb_Tr_takeBoards_80)]
theorem bk_Tr_takeBoards_0 : vx_bk tb_Tr_takeBoards 0 = [(.iconst 0, 1, 0, 0, .int 0, []), (.istore_n 2, 1, 2, 0, .null, []), (.aload_n 1, 1, 1, 0, .null, []), (.iconst 0, 1, 0, 0, .int 0, []), (.putfield 48, 3, 5, 4, .int 0, []), (.iconst 0, 1, 0, 0, .int 0, []), (.istore_n 3, 1, 3, 0, .null, [])] := rfl
theorem bk_Tr_takeBoards_9 : vx_bk tb_Tr_takeBoards 9 = [(.iload_n 3, 1, 3, 0, .null, []), (.iconst 5, 1, 0, 0, .int 5, []), (.if_icmp .ge 69, 3, 80, 0, .null, []), (.iload_n 3, 1, 3, 0, .null, []), (.ifCond .le 14, 3, 29, 0, .null, []), (.aload_n 0, 1, 0, 0, .null, []), (.invokevirtual 51, 3, 17, 0, .null, [(0, 0), (0, 0)]), (.bipush 59, 2, 0, 0, .int 59, []), (.if_icmp .eq 5, 3, 29, 0, .null, []), (.iconst 1, 1, 0, 0, .int 1, []), (.ireturn, 1, 1, 0, .null, [])] := rfl
theorem bk_Tr_takeBoards_29 : vx_bk tb_Tr_takeBoards 29 = [(.aload_n 0, 1, 0, 0, .null, []), (.bipush 59, 2, 0, 0, .int 59, []), (.invokevirtual 35, 3, 16, 1, .null, [(0, 0), (0, 0)]), (.ifCond .ne 5, 3, 40, 0, .null, []), (.iconst 0, 1, 0, 0, .int 0, []), (.ireturn, 1, 1, 0, .null, [])] := rfl
theorem bk_Tr_takeBoards_40 : vx_bk tb_Tr_takeBoards 40 = [(.aload_n 0, 1, 0, 0, .null, []), (.iload_n 2, 1, 2, 0, .null, []), (.iconst 1, 1, 0, 0, .int 1, []), (.iadd, 1, 0, 0, .null, []), (.aload_n 1, 1, 1, 0, .null, []), (.getfield 43, 3, 5, 3, .null, []), (.iconst 1, 1, 0, 0, .int 1, []), (.isub, 1, 0, 0, .null, []), (.invokevirtual 39, 3, 19, 2, .null, [(0, 0), (0, 0)]), (.istore_n 2, 1, 2, 0, .null, []), (.iload_n 2, 1, 2, 0, .null, []), (.ifCond .ge 5, 3, 60, 0, .null, []), (.iconst 0, 1, 0, 0, .int 0, []), (.ireturn, 1, 1, 0, .null, [])] := rfl
theorem bk_Tr_takeBoards_60 : vx_bk tb_Tr_takeBoards 60 = [(.aload_n 1, 1, 1, 0, .null, []), (.getfield 55, 3, 5, 0, .null, []), (.iload_n 3, 1, 3, 0, .null, []), (.iload_n 2, 1, 2, 0, .null, []), (.iastore, 1, 0, 0, .null, []), (.aload_n 1, 1, 1, 0, .null, []), (.iload_n 3, 1, 3, 0, .null, []), (.iconst 1, 1, 0, 0, .int 1, []), (.iadd, 1, 0, 0, .null, []), (.putfield 48, 3, 5, 4, .int 0, []), (.iinc 3 1, 3, 3, 0, .int 1, []), (.goto (-68), 3, 9, 0, .null, [])] := rfl
theorem bk_Tr_takeBoards_80 : vx_bk tb_Tr_takeBoards 80 = [(.iconst 1, 1, 0, 0, .int 1, []), (.ireturn, 1, 1, 0, .null, [])] := rfl
abbrev m_Tr_takeBoards : Nat := 21
set_option maxRecDepth 100000 in
theorem ck_Tr_takeBoards : vx_ckM prog_4_method_4_code 2 4 4 false (some .boolean) tb_Tr_takeBoards = true := by decide +kernel
theorem ok_Tr_takeBoards {As : List Value} {sz : Nat} {h : vx_H} {P : Option Value → vx_H → Prop} (L0 : vx_L) (hlen : (vx_ar As).length ≤ 4) (hL0 : vx_ar As ++ List.replicate (4 - (vx_ar As).length) none = L0)
    (body : ∀ (lim z : vx_Z) X, vx_cl0 none lim tb_Tr_takeBoards (fun r z' h' => z' = z ∧ P r h') X → X 0 L0 [] z h) : vx_Ok m_Tr_takeBoards As sz h P :=
  vx_ok0 (M := (⟨"VoteWalls$TextReader", "takeBoards", "(LVoteWalls$Yard;)Z"⟩, prog_4_method_4_code, 4, (some .boolean), 4, 0, 0, 1, 0)) rfl (ow := 2) rfl ck_Tr_takeBoards rfl hlen hL0 body
def kb_Tr_takePrisoners_0 : List vx_I := [(.aload_n 1, 1, 1, 0, .null, []), (.iconst 0, 1, 0, 0, .int 0, []), (.putfield 59, 3, 5, 5, .int 0, []), (.iconst 0, 1, 0, 0, .int 0, []), (.istore_n 2, 1, 2, 0, .null, [])]
def kb_Tr_takePrisoners_7 : List vx_I := [(.iload_n 2, 1, 2, 0, .null, []), (.bipush 8, 2, 0, 0, .int 8, []), (.if_icmp .ge 93, 3, 103, 0, .null, []), (.iload_n 2, 1, 2, 0, .null, []), (.ifCond .le 16, 3, 30, 0, .null, []), (.aload_n 0, 1, 0, 0, .null, []), (.getfield 18, 3, 2, 3, .null, []), (.aload_n 0, 1, 0, 0, .null, []), (.getfield 15, 3, 2, 2, .null, []), (.if_icmp .ne 5, 3, 30, 0, .null, []), (.iconst 1, 1, 0, 0, .int 1, []), (.ireturn, 1, 1, 0, .null, [])]
def kb_Tr_takePrisoners_30 : List vx_I := [(.aload_n 0, 1, 0, 0, .null, []), (.bipush 44, 2, 0, 0, .int 44, []), (.invokevirtual 35, 3, 16, 1, .null, [(0, 0), (0, 0)]), (.ifCond .ne 5, 3, 41, 0, .null, []), (.iconst 0, 1, 0, 0, .int 0, []), (.ireturn, 1, 1, 0, .null, [])]
def kb_Tr_takePrisoners_41 : List vx_I := [(.aload_n 1, 1, 1, 0, .null, []), (.getfield 62, 3, 5, 1, .null, []), (.iload_n 2, 1, 2, 0, .null, []), (.aload_n 0, 1, 0, 0, .null, []), (.invokevirtual 65, 3, 23, 0, .null, [(0, 0), (0, 0)]), (.iastore, 1, 0, 0, .null, []), (.aload_n 1, 1, 1, 0, .null, []), (.getfield 62, 3, 5, 1, .null, []), (.iload_n 2, 1, 2, 0, .null, []), (.iaload, 1, 0, 0, .null, []), (.ifCond .ge 5, 3, 62, 0, .null, []), (.iconst 0, 1, 0, 0, .int 0, []), (.ireturn, 1, 1, 0, .null, [])]
def kb_Tr_takePrisoners_62 : List vx_I := [(.aload_n 1, 1, 1, 0, .null, []), (.getfield 68, 3, 5, 2, .null, []), (.iload_n 2, 1, 2, 0, .null, []), (.aload_n 0, 1, 0, 0, .null, []), (.iconst 0, 1, 0, 0, .int 0, []), (.aload_n 1, 1, 1, 0, .null, []), (.getfield 43, 3, 5, 3, .null, []), (.iconst 1, 1, 0, 0, .int 1, []), (.isub, 1, 0, 0, .null, []), (.invokevirtual 39, 3, 19, 2, .null, [(0, 0), (0, 0)]), (.iastore, 1, 0, 0, .null, []), (.aload_n 1, 1, 1, 0, .null, []), (.getfield 68, 3, 5, 2, .null, []), (.iload_n 2, 1, 2, 0, .null, []), (.iaload, 1, 0, 0, .null, []), (.ifCond .ge 5, 3, 90, 0, .null, []), (.iconst 0, 1, 0, 0, .int 0, []), (.ireturn, 1, 1, 0, .null, [])]
def kb_Tr_takePrisoners_90 : List vx_I := [(.aload_n 1, 1, 1, 0, .null, []), (.iload_n 2, 1, 2, 0, .null, []), (.iconst 1, 1, 0, 0, .int 1, []), (.iadd, 1, 0, 0, .null, []), (.putfield 59, 3, 5, 5, .int 0, []), (.iinc 2 1, 3, 2, 0, .int 1, []), (.goto (-93), 3, 7, 0, .null, [])]
def kb_Tr_takePrisoners_103 : List vx_I := [(.iconst 1, 1, 0, 0, .int 1, []), (.ireturn, 1, 1, 0, .null, [])]
def tb_Tr_takePrisoners : List (Nat × List vx_I) := [(0, kb_Tr_takePrisoners_0), (7, kb_Tr_takePrisoners_7), (30, kb_Tr_takePrisoners_30), (41, kb_Tr_takePrisoners_41), (62, kb_Tr_takePrisoners_62), (90, kb_Tr_takePrisoners_90), (103, kb_Tr_takePrisoners_103)]
theorem bk_Tr_takePrisoners_0 : vx_bk tb_Tr_takePrisoners 0 = [(.aload_n 1, 1, 1, 0, .null, []), (.iconst 0, 1, 0, 0, .int 0, []), (.putfield 59, 3, 5, 5, .int 0, []), (.iconst 0, 1, 0, 0, .int 0, []), (.istore_n 2, 1, 2, 0, .null, [])] := rfl
theorem bk_Tr_takePrisoners_7 : vx_bk tb_Tr_takePrisoners 7 = [(.iload_n 2, 1, 2, 0, .null, []), (.bipush 8, 2, 0, 0, .int 8, []), (.if_icmp .ge 93, 3, 103, 0, .null, []), (.iload_n 2, 1, 2, 0, .null, []), (.ifCond .le 16, 3, 30, 0, .null, []), (.aload_n 0, 1, 0, 0, .null, []), (.getfield 18, 3, 2, 3, .null, []), (.aload_n 0, 1, 0, 0, .null, []), (.getfield 15, 3, 2, 2, .null, []), (.if_icmp .ne 5, 3, 30, 0, .null, []), (.iconst 1, 1, 0, 0, .int 1, []), (.ireturn, 1, 1, 0, .null, [])] := rfl
theorem bk_Tr_takePrisoners_30 : vx_bk tb_Tr_takePrisoners 30 = [(.aload_n 0, 1, 0, 0, .null, []), (.bipush 44, 2, 0, 0, .int 44, []), (.invokevirtual 35, 3, 16, 1, .null, [(0, 0), (0, 0)]), (.ifCond .ne 5, 3, 41, 0, .null, []), (.iconst 0, 1, 0, 0, .int 0, []), (.ireturn, 1, 1, 0, .null, [])] := rfl
theorem bk_Tr_takePrisoners_41 : vx_bk tb_Tr_takePrisoners 41 = [(.aload_n 1, 1, 1, 0, .null, []), (.getfield 62, 3, 5, 1, .null, []), (.iload_n 2, 1, 2, 0, .null, []), (.aload_n 0, 1, 0, 0, .null, []), (.invokevirtual 65, 3, 23, 0, .null, [(0, 0), (0, 0)]), (.iastore, 1, 0, 0, .null, []), (.aload_n 1, 1, 1, 0, .null, []), (.getfield 62, 3, 5, 1, .null, []), (.iload_n 2, 1, 2, 0, .null, []), (.iaload, 1, 0, 0, .null, []), (.ifCond .ge 5, 3, 62, 0, .null, []), (.iconst 0, 1, 0, 0, .int 0, []), (.ireturn, 1, 1, 0, .null, [])] := rfl
theorem bk_Tr_takePrisoners_62 : vx_bk tb_Tr_takePrisoners 62 = [(.aload_n 1, 1, 1, 0, .null, []), (.getfield 68, 3, 5, 2, .null, []), (.iload_n 2, 1, 2, 0, .null, []), (.aload_n 0, 1, 0, 0, .null, []), (.iconst 0, 1, 0, 0, .int 0, []), (.aload_n 1, 1, 1, 0, .null, []), (.getfield 43, 3, 5, 3, .null, []), (.iconst 1, 1, 0, 0, .int 1, []), (.isub, 1, 0, 0, .null, []), (.invokevirtual 39, 3, 19, 2, .null, [(0, 0), (0, 0)]), (.iastore, 1, 0, 0, .null, []), (.aload_n 1, 1, 1, 0, .null, []), (.getfield 68, 3, 5, 2, .null, []), (.iload_n 2, 1, 2, 0, .null, []), (.iaload, 1, 0, 0, .null, []), (.ifCond .ge 5, 3, 90, 0, .null, []), (.iconst 0, 1, 0, 0, .int 0, []), (.ireturn, 1, 1, 0, .null, [])] := rfl
theorem bk_Tr_takePrisoners_90 : vx_bk tb_Tr_takePrisoners 90 = [(.aload_n 1, 1, 1, 0, .null, []), (.iload_n 2, 1, 2, 0, .null, []), (.iconst 1, 1, 0, 0, .int 1, []), (.iadd, 1, 0, 0, .null, []), (.putfield 59, 3, 5, 5, .int 0, []), (.iinc 2 1, 3, 2, 0, .int 1, []), (.goto (-93), 3, 7, 0, .null, [])] := rfl
theorem bk_Tr_takePrisoners_103 : vx_bk tb_Tr_takePrisoners 103 = [(.iconst 1, 1, 0, 0, .int 1, []), (.ireturn, 1, 1, 0, .null, [])] := rfl
abbrev m_Tr_takePrisoners : Nat := 22
set_option maxRecDepth 100000 in
theorem ck_Tr_takePrisoners : vx_ckM prog_4_method_5_code 2 3 4 false (some .boolean) tb_Tr_takePrisoners = true := by decide +kernel
theorem ok_Tr_takePrisoners {As : List Value} {sz : Nat} {h : vx_H} {P : Option Value → vx_H → Prop} (L0 : vx_L) (hlen : (vx_ar As).length ≤ 3) (hL0 : vx_ar As ++ List.replicate (3 - (vx_ar As).length) none = L0)
    (body : ∀ (lim z : vx_Z) X, vx_cl0 none lim tb_Tr_takePrisoners (fun r z' h' => z' = z ∧ P r h') X → X 0 L0 [] z h) : vx_Ok m_Tr_takePrisoners As sz h P :=
  vx_ok0 (M := (⟨"VoteWalls$TextReader", "takePrisoners", "(LVoteWalls$Yard;)Z"⟩, prog_4_method_5_code, 3, (some .boolean), 4, 0, 0, 1, 0)) rfl (ow := 2) rfl ck_Tr_takePrisoners rfl hlen hL0 body
def kb_Tr_takeKind_0 : List vx_I := [(.aload_n 0, 1, 0, 0, .null, []), (.bipush 112, 2, 0, 0, .int 112, []), (.invokevirtual 35, 3, 16, 1, .null, [(0, 0), (0, 0)]), (.ifCond .eq 5, 3, 11, 0, .null, []), (.iconst 0, 1, 0, 0, .int 0, []), (.ireturn, 1, 0, 0, .null, [])]
def kb_Tr_takeKind_11 : List vx_I := [(.aload_n 0, 1, 0, 0, .null, []), (.bipush 116, 2, 0, 0, .int 116, []), (.invokevirtual 35, 3, 16, 1, .null, [(0, 0), (0, 0)]), (.ifCond .eq 5, 3, 22, 0, .null, []), (.iconst 1, 1, 0, 0, .int 1, []), (.ireturn, 1, 0, 0, .null, [])]
def kb_Tr_takeKind_22 : List vx_I := [(.aload_n 0, 1, 0, 0, .null, []), (.bipush 98, 2, 0, 0, .int 98, []), (.invokevirtual 35, 3, 16, 1, .null, [(0, 0), (0, 0)]), (.ifCond .eq 7, 3, 35, 0, .null, []), (.iconst 2, 1, 0, 0, .int 2, []), (.goto 4, 3, 36, 0, .null, [])]
def kb_Tr_takeKind_35 : List vx_I := [(.iconst (-1), 1, 0, 0, .int (-1), [])]
def kb_Tr_takeKind_36 : List vx_I := [(.ireturn, 1, 0, 0, .null, [])]
def tb_Tr_takeKind : List (Nat × List vx_I) := [(0, kb_Tr_takeKind_0), (11, kb_Tr_takeKind_11), (22, kb_Tr_takeKind_22), (35, kb_Tr_takeKind_35), (36, kb_Tr_takeKind_36)]
theorem bk_Tr_takeKind_0 : vx_bk tb_Tr_takeKind 0 = [(.aload_n 0, 1, 0, 0, .null, []), (.bipush 112, 2, 0, 0, .int 112, []), (.invokevirtual 35, 3, 16, 1, .null, [(0, 0), (0, 0)]), (.ifCond .eq 5, 3, 11, 0, .null, []), (.iconst 0, 1, 0, 0, .int 0, []), (.ireturn, 1, 0, 0, .null, [])] := rfl
theorem bk_Tr_takeKind_11 : vx_bk tb_Tr_takeKind 11 = [(.aload_n 0, 1, 0, 0, .null, []), (.bipush 116, 2, 0, 0, .int 116, []), (.invokevirtual 35, 3, 16, 1, .null, [(0, 0), (0, 0)]), (.ifCond .eq 5, 3, 22, 0, .null, []), (.iconst 1, 1, 0, 0, .int 1, []), (.ireturn, 1, 0, 0, .null, [])] := rfl
theorem bk_Tr_takeKind_22 : vx_bk tb_Tr_takeKind 22 = [(.aload_n 0, 1, 0, 0, .null, []), (.bipush 98, 2, 0, 0, .int 98, []), (.invokevirtual 35, 3, 16, 1, .null, [(0, 0), (0, 0)]), (.ifCond .eq 7, 3, 35, 0, .null, []), (.iconst 2, 1, 0, 0, .int 2, []), (.goto 4, 3, 36, 0, .null, [])] := rfl
theorem bk_Tr_takeKind_35 : vx_bk tb_Tr_takeKind 35 = [(.iconst (-1), 1, 0, 0, .int (-1), [])] := rfl
theorem bk_Tr_takeKind_36 : vx_bk tb_Tr_takeKind 36 = [(.ireturn, 1, 0, 0, .null, [])] := rfl
abbrev m_Tr_takeKind : Nat := 23
set_option maxRecDepth 100000 in
theorem ck_Tr_takeKind : vx_ckM prog_4_method_8_code 2 1 3 false (some .int) tb_Tr_takeKind = true := by decide +kernel
theorem ok_Tr_takeKind {As : List Value} {sz : Nat} {h : vx_H} {P : Option Value → vx_H → Prop} (L0 : vx_L) (hlen : (vx_ar As).length ≤ 1) (hL0 : vx_ar As ++ List.replicate (1 - (vx_ar As).length) none = L0)
    (body : ∀ (lim z : vx_Z) X, vx_cl0 none lim tb_Tr_takeKind (fun r z' h' => z' = z ∧ P r h') X → X 0 L0 [] z h) : vx_Ok m_Tr_takeKind As sz h P :=
  vx_ok0 (M := (⟨"VoteWalls$TextReader", "takeKind", "()I"⟩, prog_4_method_8_code, 1, (some .int), 3, 0, 0, 0, 0)) rfl (ow := 2) rfl ck_Tr_takeKind rfl hlen hL0 body
def kb_Cal_mark_0 : List vx_I := [(.aload_n 0, 1, 0, 0, .null, []), (.getfield 9, 3, 0, 0, .null, []), (.aload_n 1, 1, 1, 0, .null, []), (.invokestatic 22, 3, 26, 2, .null, []), (.aload_n 0, 1, 0, 0, .null, []), (.getfield 15, 3, 0, 1, .null, []), (.aload_n 2, 1, 2, 0, .null, []), (.invokestatic 22, 3, 26, 2, .null, []), (.aload_n 0, 1, 0, 0, .null, []), (.iconst 0, 1, 0, 0, .int 0, []), (.putfield 18, 3, 0, 2, .int 0, []), (.iconst 1, 1, 0, 0, .int 1, []), (.istore_n 3, 1, 3, 0, .null, [])]
def kb_Cal_mark_23 : List vx_I := [(.iload_n 3, 1, 3, 0, .null, []), (.bipush 50, 2, 0, 0, .int 50, []), (.if_icmp .ge 48, 3, 74, 0, .null, []), (.aload_n 0, 1, 0, 0, .null, []), (.getfield 9, 3, 0, 0, .null, []), (.iload_n 3, 1, 3, 0, .null, []), (.iaload, 1, 0, 0, .null, []), (.aload_n 0, 1, 0, 0, .null, []), (.getfield 9, 3, 0, 0, .null, []), (.iload_n 3, 1, 3, 0, .null, []), (.iconst 1, 1, 0, 0, .int 1, []), (.isub, 1, 0, 0, .null, []), (.iaload, 1, 0, 0, .null, []), (.if_icmp .ne 20, 3, 63, 0, .null, []), (.aload_n 0, 1, 0, 0, .null, []), (.getfield 15, 3, 0, 1, .null, []), (.iload_n 3, 1, 3, 0, .null, []), (.iaload, 1, 0, 0, .null, []), (.aload_n 0, 1, 0, 0, .null, []), (.getfield 15, 3, 0, 1, .null, []), (.iload_n 3, 1, 3, 0, .null, []), (.iconst 1, 1, 0, 0, .int 1, []), (.isub, 1, 0, 0, .null, []), (.iaload, 1, 0, 0, .null, []), (.if_icmp .eq 8, 3, 68, 0, .null, [])]
def kb_Cal_mark_63 : List vx_I := [(.aload_n 0, 1, 0, 0, .null, []), (.iload_n 3, 1, 3, 0, .null, []), (.putfield 18, 3, 0, 2, .int 0, [])]
def kb_Cal_mark_68 : List vx_I := [(.iinc 3 1, 3, 3, 0, .int 1, []), (.goto (-48), 3, 23, 0, .null, [])]
def kb_Cal_mark_74 : List vx_I := [(.return_, 1, 0, 0, .null, [])]
def tb_Cal_mark : List (Nat × List vx_I) := [(0, kb_Cal_mark_0), (23, kb_Cal_mark_23), (63, kb_Cal_mark_63), (68, kb_Cal_mark_68), (74, kb_Cal_mark_74)]
theorem bk_Cal_mark_0 : vx_bk tb_Cal_mark 0 = [(.aload_n 0, 1, 0, 0, .null, []), (.getfield 9, 3, 0, 0, .null, []), (.aload_n 1, 1, 1, 0, .null, []), (.invokestatic 22, 3, 26, 2, .null, []), (.aload_n 0, 1, 0, 0, .null, []), (.getfield 15, 3, 0, 1, .null, []), (.aload_n 2, 1, 2, 0, .null, []), (.invokestatic 22, 3, 26, 2, .null, []), (.aload_n 0, 1, 0, 0, .null, []), (.iconst 0, 1, 0, 0, .int 0, []), (.putfield 18, 3, 0, 2, .int 0, []), (.iconst 1, 1, 0, 0, .int 1, []), (.istore_n 3, 1, 3, 0, .null, [])] := rfl
theorem bk_Cal_mark_23 : vx_bk tb_Cal_mark 23 = [(.iload_n 3, 1, 3, 0, .null, []), (.bipush 50, 2, 0, 0, .int 50, []), (.if_icmp .ge 48, 3, 74, 0, .null, []), (.aload_n 0, 1, 0, 0, .null, []), (.getfield 9, 3, 0, 0, .null, []), (.iload_n 3, 1, 3, 0, .null, []), (.iaload, 1, 0, 0, .null, []), (.aload_n 0, 1, 0, 0, .null, []), (.getfield 9, 3, 0, 0, .null, []), (.iload_n 3, 1, 3, 0, .null, []), (.iconst 1, 1, 0, 0, .int 1, []), (.isub, 1, 0, 0, .null, []), (.iaload, 1, 0, 0, .null, []), (.if_icmp .ne 20, 3, 63, 0, .null, []), (.aload_n 0, 1, 0, 0, .null, []), (.getfield 15, 3, 0, 1, .null, []), (.iload_n 3, 1, 3, 0, .null, []), (.iaload, 1, 0, 0, .null, []), (.aload_n 0, 1, 0, 0, .null, []), (.getfield 15, 3, 0, 1, .null, []), (.iload_n 3, 1, 3, 0, .null, []), (.iconst 1, 1, 0, 0, .int 1, []), (.isub, 1, 0, 0, .null, []), (.iaload, 1, 0, 0, .null, []), (.if_icmp .eq 8, 3, 68, 0, .null, [])] := rfl
theorem bk_Cal_mark_63 : vx_bk tb_Cal_mark 63 = [(.aload_n 0, 1, 0, 0, .null, []), (.iload_n 3, 1, 3, 0, .null, []), (.putfield 18, 3, 0, 2, .int 0, [])] := rfl
theorem bk_Cal_mark_68 : vx_bk tb_Cal_mark 68 = [(.iinc 3 1, 3, 3, 0, .int 1, []), (.goto (-48), 3, 23, 0, .null, [])] := rfl
theorem bk_Cal_mark_74 : vx_bk tb_Cal_mark 74 = [(.return_, 1, 0, 0, .null, [])] := rfl
abbrev m_Cal_mark : Nat := 25
set_option maxRecDepth 100000 in
theorem ck_Cal_mark : vx_ckM prog_2_method_2_code 0 4 2 false none tb_Cal_mark = true := by decide +kernel
theorem ok_Cal_mark {As : List Value} {sz : Nat} {h : vx_H} {P : Option Value → vx_H → Prop} (L0 : vx_L) (hlen : (vx_ar As).length ≤ 4) (hL0 : vx_ar As ++ List.replicate (4 - (vx_ar As).length) none = L0)
    (body : ∀ (lim z : vx_Z) X, vx_cl0 none lim tb_Cal_mark (fun r z' h' => z' = z ∧ P r h') X → X 0 L0 [] z h) : vx_Ok m_Cal_mark As sz h P :=
  vx_ok0 (M := (⟨"VoteWalls$Calendar", "mark", "(LVoteWalls$Triples;LVoteWalls$Triples;)V"⟩, prog_2_method_2_code, 4, none, 2, 0, 0, 2, 0)) rfl (ow := 0) rfl ck_Cal_mark rfl hlen hL0 body
def kb_Cal_markSets_0 : List vx_I := [(.aload_n 0, 1, 0, 0, .null, []), (.iconst 0, 1, 0, 0, .int 0, []), (.invokestatic 26, 3, 27, 2, .null, []), (.iconst 0, 1, 0, 0, .int 0, []), (.istore_n 2, 1, 2, 0, .null, [])]
def kb_Cal_markSets_7 : List vx_I := [(.iload_n 2, 1, 2, 0, .null, []), (.aload_n 1, 1, 1, 0, .null, []), (.getfield 32, 3, 3, 4, .null, []), (.if_icmp .ge 60, 3, 72, 0, .null, []), (.aload_n 1, 1, 1, 0, .null, []), (.getfield 37, 3, 3, 2, .null, []), (.iload_n 2, 1, 2, 0, .null, []), (.iaload, 1, 0, 0, .null, []), (.bipush 49, 2, 0, 0, .int 49, []), (.invokestatic 40, 3, 0, 0, .long 0, []), (.istore_n 3, 1, 3, 0, .null, []), (.aload_n 1, 1, 1, 0, .null, []), (.getfield 46, 3, 3, 1, .null, []), (.iload_n 2, 1, 2, 0, .null, []), (.iaload, 1, 0, 0, .null, []), (.iconst 0, 1, 0, 0, .int 0, []), (.invokestatic 49, 3, 0, 0, .float 0, []), (.istore 4, 2, 4, 0, .null, [])]
def kb_Cal_markSets_39 : List vx_I := [(.iload 4, 2, 4, 0, .null, []), (.iload_n 3, 1, 3, 0, .null, []), (.if_icmp .gt 24, 3, 66, 0, .null, []), (.aload_n 0, 1, 0, 0, .null, []), (.iload 4, 2, 4, 0, .null, []), (.dup2, 1, 0, 0, .null, []), (.iaload, 1, 0, 0, .null, []), (.iconst 1, 1, 0, 0, .int 1, []), (.aload_n 1, 1, 1, 0, .null, []), (.getfield 52, 3, 3, 0, .null, []), (.iload_n 2, 1, 2, 0, .null, []), (.iaload, 1, 0, 0, .null, []), (.ishl, 1, 0, 0, .null, []), (.ior, 1, 0, 0, .null, []), (.iastore, 1, 0, 0, .null, []), (.iinc 4 1, 3, 4, 0, .int 1, []), (.goto (-24), 3, 39, 0, .null, [])]
def kb_Cal_markSets_66 : List vx_I := [(.iinc 2 1, 3, 2, 0, .int 1, []), (.goto (-62), 3, 7, 0, .null, [])]
def kb_Cal_markSets_72 : List vx_I := [(.return_, 1, 0, 0, .null, [])]
def tb_Cal_markSets : List (Nat × List vx_I) := [(0, kb_Cal_markSets_0), (7, kb_Cal_markSets_7), (39, kb_Cal_markSets_39), (66, kb_Cal_markSets_66), (72, kb_Cal_markSets_72)]
theorem bk_Cal_markSets_0 : vx_bk tb_Cal_markSets 0 = [(.aload_n 0, 1, 0, 0, .null, []), (.iconst 0, 1, 0, 0, .int 0, []), (.invokestatic 26, 3, 27, 2, .null, []), (.iconst 0, 1, 0, 0, .int 0, []), (.istore_n 2, 1, 2, 0, .null, [])] := rfl
theorem bk_Cal_markSets_7 : vx_bk tb_Cal_markSets 7 = [(.iload_n 2, 1, 2, 0, .null, []), (.aload_n 1, 1, 1, 0, .null, []), (.getfield 32, 3, 3, 4, .null, []), (.if_icmp .ge 60, 3, 72, 0, .null, []), (.aload_n 1, 1, 1, 0, .null, []), (.getfield 37, 3, 3, 2, .null, []), (.iload_n 2, 1, 2, 0, .null, []), (.iaload, 1, 0, 0, .null, []), (.bipush 49, 2, 0, 0, .int 49, []), (.invokestatic 40, 3, 0, 0, .long 0, []), (.istore_n 3, 1, 3, 0, .null, []), (.aload_n 1, 1, 1, 0, .null, []), (.getfield 46, 3, 3, 1, .null, []), (.iload_n 2, 1, 2, 0, .null, []), (.iaload, 1, 0, 0, .null, []), (.iconst 0, 1, 0, 0, .int 0, []), (.invokestatic 49, 3, 0, 0, .float 0, []), (.istore 4, 2, 4, 0, .null, [])] := rfl
theorem bk_Cal_markSets_39 : vx_bk tb_Cal_markSets 39 = [(.iload 4, 2, 4, 0, .null, []), (.iload_n 3, 1, 3, 0, .null, []), (.if_icmp .gt 24, 3, 66, 0, .null, []), (.aload_n 0, 1, 0, 0, .null, []), (.iload 4, 2, 4, 0, .null, []), (.dup2, 1, 0, 0, .null, []), (.iaload, 1, 0, 0, .null, []), (.iconst 1, 1, 0, 0, .int 1, []), (.aload_n 1, 1, 1, 0, .null, []), (.getfield 52, 3, 3, 0, .null, []), (.iload_n 2, 1, 2, 0, .null, []), (.iaload, 1, 0, 0, .null, []), (.ishl, 1, 0, 0, .null, []), (.ior, 1, 0, 0, .null, []), (.iastore, 1, 0, 0, .null, []), (.iinc 4 1, 3, 4, 0, .int 1, []), (.goto (-24), 3, 39, 0, .null, [])] := rfl
theorem bk_Cal_markSets_66 : vx_bk tb_Cal_markSets 66 = [(.iinc 2 1, 3, 2, 0, .int 1, []), (.goto (-62), 3, 7, 0, .null, [])] := rfl
theorem bk_Cal_markSets_72 : vx_bk tb_Cal_markSets 72 = [(.return_, 1, 0, 0, .null, [])] := rfl
abbrev m_Cal_markSets : Nat := 26
set_option maxRecDepth 100000 in
theorem ck_Cal_markSets : vx_ckM prog_2_method_3_code 0 5 1 false none tb_Cal_markSets = true := by decide +kernel
theorem ok_Cal_markSets {As : List Value} {sz : Nat} {h : vx_H} {P : Option Value → vx_H → Prop} (L0 : vx_L) (hlen : (vx_ar As).length ≤ 5) (hL0 : vx_ar As ++ List.replicate (5 - (vx_ar As).length) none = L0)
    (body : ∀ (lim z : vx_Z) X, vx_cl0 none lim tb_Cal_markSets (fun r z' h' => z' = z ∧ P r h') X → X 0 L0 [] z h) : vx_Ok m_Cal_markSets As sz h P :=
  vx_ok0 (M := (⟨"VoteWalls$Calendar", "markSets", "([ILVoteWalls$Triples;)V"⟩, prog_2_method_3_code, 5, none, 1, 0, 0, 2, 1)) rfl (ow := 0) rfl ck_Cal_markSets rfl hlen hL0 body
def kb_JA_fill_0 : List vx_I := [(.iconst 0, 1, 0, 0, .int 0, []), (.istore_n 2, 1, 2, 0, .null, []), (.aload_n 0, 1, 0, 0, .null, []), (.arraylength, 1, 0, 0, .null, []), (.istore_n 3, 1, 3, 0, .null, [])]
def kb_JA_fill_5 : List vx_I := [(.iload_n 2, 1, 2, 0, .null, []), (.iload_n 3, 1, 3, 0, .null, []), (.if_icmp .ge 13, 3, 20, 0, .null, []), (.aload_n 0, 1, 0, 0, .null, []), (.iload_n 2, 1, 2, 0, .null, []), (.iload_n 1, 1, 1, 0, .null, []), (.iastore, 1, 0, 0, .null, []), (.iinc 2 1, 3, 2, 0, .int 1, []), (.goto (-12), 3, 5, 0, .null, [])]
def kb_JA_fill_20 : List vx_I := [(.return_, 1, 0, 0, .null, [])]
def tb_JA_fill : List (Nat × List vx_I) := [(0, kb_JA_fill_0), (5, kb_JA_fill_5), (20, kb_JA_fill_20)]
theorem bk_JA_fill_0 : vx_bk tb_JA_fill 0 = [(.iconst 0, 1, 0, 0, .int 0, []), (.istore_n 2, 1, 2, 0, .null, []), (.aload_n 0, 1, 0, 0, .null, []), (.arraylength, 1, 0, 0, .null, []), (.istore_n 3, 1, 3, 0, .null, [])] := rfl
theorem bk_JA_fill_5 : vx_bk tb_JA_fill 5 = [(.iload_n 2, 1, 2, 0, .null, []), (.iload_n 3, 1, 3, 0, .null, []), (.if_icmp .ge 13, 3, 20, 0, .null, []), (.aload_n 0, 1, 0, 0, .null, []), (.iload_n 2, 1, 2, 0, .null, []), (.iload_n 1, 1, 1, 0, .null, []), (.iastore, 1, 0, 0, .null, []), (.iinc 2 1, 3, 2, 0, .int 1, []), (.goto (-12), 3, 5, 0, .null, [])] := rfl
theorem bk_JA_fill_20 : vx_bk tb_JA_fill 20 = [(.return_, 1, 0, 0, .null, [])] := rfl
abbrev m_JA_fill : Nat := 27
set_option maxRecDepth 100000 in
theorem ck_JA_fill : vx_ckM prog_13_method_103_code 10 4 0 false none tb_JA_fill = true := by decide +kernel
theorem ok_JA_fill {As : List Value} {sz : Nat} {h : vx_H} {P : Option Value → vx_H → Prop} (L0 : vx_L) (hlen : (vx_ar As).length ≤ 4) (hL0 : vx_ar As ++ List.replicate (4 - (vx_ar As).length) none = L0)
    (body : ∀ (lim z : vx_Z) X, vx_cl0 none lim tb_JA_fill (fun r z' h' => z' = z ∧ P r h') X → X 0 L0 [] z h) : vx_Ok m_JA_fill As sz h P :=
  vx_ok0 (M := (⟨"java/util/Arrays", "fill", "([II)V"⟩, prog_13_method_103_code, 4, none, 0, 0, 0, 2, 1)) rfl (ow := 10) rfl ck_JA_fill rfl hlen hL0 body
def kb_Tp_add_0 : List vx_I := [(.aload_n 0, 1, 0, 0, .null, []), (.getfield 21, 3, 3, 4, .null, []), (.ifCond .lt 14, 3, 18, 0, .null, []), (.aload_n 0, 1, 0, 0, .null, []), (.getfield 21, 3, 3, 4, .null, []), (.aload_n 0, 1, 0, 0, .null, []), (.getfield 31, 3, 3, 3, .null, []), (.if_icmp .lt 6, 3, 21, 0, .null, [])]
def kb_Tp_add_18 : List vx_I := [(.bipush (-4), 2, 0, 0, .int (-4), []), (.ireturn, 1, 0, 0, .null, [])]
def kb_Tp_add_21 : List vx_I := [(.aload_n 0, 1, 0, 0, .null, []), (.getfield 9, 3, 3, 0, .null, []), (.aload_n 0, 1, 0, 0, .null, []), (.getfield 21, 3, 3, 4, .null, []), (.iload_n 1, 1, 1, 0, .null, []), (.iastore, 1, 0, 0, .null, []), (.aload_n 0, 1, 0, 0, .null, []), (.getfield 15, 3, 3, 1, .null, []), (.aload_n 0, 1, 0, 0, .null, []), (.getfield 21, 3, 3, 4, .null, []), (.iload_n 2, 1, 2, 0, .null, []), (.iastore, 1, 0, 0, .null, []), (.aload_n 0, 1, 0, 0, .null, []), (.getfield 18, 3, 3, 2, .null, []), (.aload_n 0, 1, 0, 0, .null, []), (.getfield 21, 3, 3, 4, .null, []), (.iload_n 3, 1, 3, 0, .null, []), (.iastore, 1, 0, 0, .null, []), (.aload_n 0, 1, 0, 0, .null, []), (.dup, 1, 0, 0, .null, []), (.getfield 21, 3, 3, 4, .null, []), (.iconst 1, 1, 0, 0, .int 1, []), (.iadd, 1, 0, 0, .null, []), (.putfield 21, 3, 3, 4, .int 0, []), (.aload_n 0, 1, 0, 0, .null, []), (.getfield 21, 3, 3, 4, .null, []), (.iconst 1, 1, 0, 0, .int 1, []), (.isub, 1, 0, 0, .null, []), (.ireturn, 1, 0, 0, .null, [])]
def tb_Tp_add : List (Nat × List vx_I) := [(0, kb_Tp_add_0), (18, kb_Tp_add_18), (21, kb_Tp_add_21)]
theorem bk_Tp_add_0 : vx_bk tb_Tp_add 0 = [(.aload_n 0, 1, 0, 0, .null, []), (.getfield 21, 3, 3, 4, .null, []), (.ifCond .lt 14, 3, 18, 0, .null, []), (.aload_n 0, 1, 0, 0, .null, []), (.getfield 21, 3, 3, 4, .null, []), (.aload_n 0, 1, 0, 0, .null, []), (.getfield 31, 3, 3, 3, .null, []), (.if_icmp .lt 6, 3, 21, 0, .null, [])] := rfl
theorem bk_Tp_add_18 : vx_bk tb_Tp_add 18 = [(.bipush (-4), 2, 0, 0, .int (-4), []), (.ireturn, 1, 0, 0, .null, [])] := rfl
theorem bk_Tp_add_21 : vx_bk tb_Tp_add 21 = [(.aload_n 0, 1, 0, 0, .null, []), (.getfield 9, 3, 3, 0, .null, []), (.aload_n 0, 1, 0, 0, .null, []), (.getfield 21, 3, 3, 4, .null, []), (.iload_n 1, 1, 1, 0, .null, []), (.iastore, 1, 0, 0, .null, []), (.aload_n 0, 1, 0, 0, .null, []), (.getfield 15, 3, 3, 1, .null, []), (.aload_n 0, 1, 0, 0, .null, []), (.getfield 21, 3, 3, 4, .null, []), (.iload_n 2, 1, 2, 0, .null, []), (.iastore, 1, 0, 0, .null, []), (.aload_n 0, 1, 0, 0, .null, []), (.getfield 18, 3, 3, 2, .null, []), (.aload_n 0, 1, 0, 0, .null, []), (.getfield 21, 3, 3, 4, .null, []), (.iload_n 3, 1, 3, 0, .null, []), (.iastore, 1, 0, 0, .null, []), (.aload_n 0, 1, 0, 0, .null, []), (.dup, 1, 0, 0, .null, []), (.getfield 21, 3, 3, 4, .null, []), (.iconst 1, 1, 0, 0, .int 1, []), (.iadd, 1, 0, 0, .null, []), (.putfield 21, 3, 3, 4, .int 0, []), (.aload_n 0, 1, 0, 0, .null, []), (.getfield 21, 3, 3, 4, .null, []), (.iconst 1, 1, 0, 0, .int 1, []), (.isub, 1, 0, 0, .null, []), (.ireturn, 1, 0, 0, .null, [])] := rfl
abbrev m_Tp_add : Nat := 37
set_option maxRecDepth 100000 in
theorem ck_Tp_add : vx_ckM prog_5_method_2_code 3 4 0 false (some .int) tb_Tp_add = true := by decide +kernel
theorem ok_Tp_add {As : List Value} {sz : Nat} {h : vx_H} {P : Option Value → vx_H → Prop} (L0 : vx_L) (hlen : (vx_ar As).length ≤ 4) (hL0 : vx_ar As ++ List.replicate (4 - (vx_ar As).length) none = L0)
    (body : ∀ (lim z : vx_Z) X, vx_cl0 none lim tb_Tp_add (fun r z' h' => z' = z ∧ P r h') X → X 0 L0 [] z h) : vx_Ok m_Tp_add As sz h P :=
  vx_ok0 (M := (⟨"VoteWalls$Triples", "add", "(III)I"⟩, prog_5_method_2_code, 4, (some .int), 0, 0, 0, 3, 0)) rfl (ow := 3) rfl ck_Tp_add rfl hlen hL0 body
def kb_Tp_drop_0 : List vx_I := [(.iload_n 1, 1, 1, 0, .null, []), (.ifCond .lt 11, 3, 12, 0, .null, []), (.iload_n 1, 1, 1, 0, .null, []), (.aload_n 0, 1, 0, 0, .null, []), (.getfield 21, 3, 3, 4, .null, []), (.if_icmp .le 6, 3, 15, 0, .null, [])]
def kb_Tp_drop_12 : List vx_I := [(.bipush (-2), 2, 0, 0, .int (-2), []), (.ireturn, 1, 0, 0, .null, [])]
def kb_Tp_drop_15 : List vx_I := [(.aload_n 0, 1, 0, 0, .null, []), (.dup, 1, 0, 0, .null, []), (.getfield 21, 3, 3, 4, .null, []), (.iload_n 1, 1, 1, 0, .null, []), (.isub, 1, 0, 0, .null, []), (.putfield 21, 3, 3, 4, .int 0, []), (.aload_n 0, 1, 0, 0, .null, []), (.getfield 21, 3, 3, 4, .null, []), (.ireturn, 1, 0, 0, .null, [])]
def tb_Tp_drop : List (Nat × List vx_I) := [(0, kb_Tp_drop_0), (12, kb_Tp_drop_12), (15, kb_Tp_drop_15)]
theorem bk_Tp_drop_0 : vx_bk tb_Tp_drop 0 = [(.iload_n 1, 1, 1, 0, .null, []), (.ifCond .lt 11, 3, 12, 0, .null, []), (.iload_n 1, 1, 1, 0, .null, []), (.aload_n 0, 1, 0, 0, .null, []), (.getfield 21, 3, 3, 4, .null, []), (.if_icmp .le 6, 3, 15, 0, .null, [])] := rfl
theorem bk_Tp_drop_12 : vx_bk tb_Tp_drop 12 = [(.bipush (-2), 2, 0, 0, .int (-2), []), (.ireturn, 1, 0, 0, .null, [])] := rfl
theorem bk_Tp_drop_15 : vx_bk tb_Tp_drop 15 = [(.aload_n 0, 1, 0, 0, .null, []), (.dup, 1, 0, 0, .null, []), (.getfield 21, 3, 3, 4, .null, []), (.iload_n 1, 1, 1, 0, .null, []), (.isub, 1, 0, 0, .null, []), (.putfield 21, 3, 3, 4, .int 0, []), (.aload_n 0, 1, 0, 0, .null, []), (.getfield 21, 3, 3, 4, .null, []), (.ireturn, 1, 0, 0, .null, [])] := rfl
abbrev m_Tp_drop : Nat := 39
set_option maxRecDepth 100000 in
theorem ck_Tp_drop : vx_ckM prog_5_method_3_code 3 2 0 false (some .int) tb_Tp_drop = true := by decide +kernel
theorem ok_Tp_drop {As : List Value} {sz : Nat} {h : vx_H} {P : Option Value → vx_H → Prop} (L0 : vx_L) (hlen : (vx_ar As).length ≤ 2) (hL0 : vx_ar As ++ List.replicate (2 - (vx_ar As).length) none = L0)
    (body : ∀ (lim z : vx_Z) X, vx_cl0 none lim tb_Tp_drop (fun r z' h' => z' = z ∧ P r h') X → X 0 L0 [] z h) : vx_Ok m_Tp_drop As sz h P :=
  vx_ok0 (M := (⟨"VoteWalls$Triples", "drop", "(I)I"⟩, prog_5_method_3_code, 2, (some .int), 0, 0, 0, 1, 0)) rfl (ow := 3) rfl ck_Tp_drop rfl hlen hL0 body
def kb_Wk_reckon_0 : List vx_I := [(.aload_n 0, 1, 0, 0, .null, []), (.aload_n 1, 1, 1, 0, .null, []), (.invokevirtual 34, 3, 47, 1, .null, [(0, 0), (0, 0), (0, 0), (0, 0)]), (.iconst (-1), 1, 0, 0, .int (-1), []), (.istore 7, 2, 7, 0, .null, []), (.iconst 0, 1, 0, 0, .int 0, []), (.istore 8, 2, 8, 0, .null, [])]
def kb_Wk_reckon_11 : List vx_I := [(.iload 8, 2, 8, 0, .null, []), (.iload 6, 2, 6, 0, .null, []), (.if_icmp .gt 114, 3, 129, 0, .null, []), (.iload 8, 2, 8, 0, .null, []), (.bipush 50, 2, 0, 0, .int 50, []), (.if_icmp .ge 107, 3, 129, 0, .null, []), (.aload_n 2, 1, 2, 0, .null, []), (.getfield 38, 3, 0, 1, .null, []), (.iload 8, 2, 8, 0, .null, []), (.iaload, 1, 0, 0, .null, []), (.iload 5, 2, 5, 0, .null, []), (.ior, 1, 0, 0, .null, []), (.istore 9, 2, 9, 0, .null, []), (.iload 9, 2, 9, 0, .null, []), (.iload 7, 2, 7, 0, .null, []), (.if_icmp .eq 14, 3, 55, 0, .null, []), (.aload_n 0, 1, 0, 0, .null, []), (.aload_n 1, 1, 1, 0, .null, []), (.iload 9, 2, 9, 0, .null, []), (.invokevirtual 43, 3, 48, 2, .null, [(0, 0), (0, 0), (0, 0), (0, 0)]), (.iload 9, 2, 9, 0, .null, []), (.istore 7, 2, 7, 0, .null, [])]
def kb_Wk_reckon_55 : List vx_I := [(.aload_n 0, 1, 0, 0, .null, []), (.iload_n 3, 1, 3, 0, .null, []), (.aload_n 2, 1, 2, 0, .null, []), (.getfield 47, 3, 0, 0, .null, []), (.iload 8, 2, 8, 0, .null, []), (.iaload, 1, 0, 0, .null, []), (.iload 4, 2, 4, 0, .null, []), (.ior, 1, 0, 0, .null, []), (.invokevirtual 50, 3, 50, 2, .null, [(0, 0), (0, 0), (0, 0), (0, 0)]), (.istore 10, 2, 10, 0, .null, []), (.aload_n 0, 1, 0, 0, .null, []), (.iload 8, 2, 8, 0, .null, []), (.putfield 28, 3, 4, 5, .int 0, []), (.aload_n 0, 1, 0, 0, .null, []), (.getfield 15, 3, 4, 1, .null, []), (.iconst 0, 1, 0, 0, .int 0, []), (.aload_n 0, 1, 0, 0, .null, []), (.getfield 9, 3, 4, 0, .null, []), (.iload 8, 2, 8, 0, .null, []), (.iconst 1, 1, 0, 0, .int 1, []), (.iadd, 1, 0, 0, .null, []), (.iconst 5, 1, 0, 0, .int 5, []), (.imul, 1, 0, 0, .null, []), (.iconst 5, 1, 0, 0, .int 5, []), (.invokestatic 54, 3, 0, 0, .int 0, []), (.iload 10, 2, 10, 0, .null, []), (.ifCond .eq 12, 3, 111, 0, .null, []), (.aload_n 0, 1, 0, 0, .null, []), (.iload 8, 2, 8, 0, .null, []), (.putfield 31, 3, 4, 6, .int 0, []), (.goto 15, 3, 123, 0, .null, [])]
def kb_Wk_reckon_111 : List vx_I := [(.iload 8, 2, 8, 0, .null, []), (.aload_n 2, 1, 2, 0, .null, []), (.getfield 60, 3, 0, 2, .null, []), (.if_icmp .lt 6, 3, 123, 0, .null, []), (.goto 9, 3, 129, 0, .null, [])]
def kb_Wk_reckon_123 : List vx_I := [(.iinc 8 1, 3, 8, 0, .int 1, []), (.goto (-115), 3, 11, 0, .null, [])]
def kb_Wk_reckon_129 : List vx_I := [(.return_, 1, 0, 0, .null, [])]
def tb_Wk_reckon : List (Nat × List vx_I) := [(0, kb_Wk_reckon_0), (11, kb_Wk_reckon_11), (55, kb_Wk_reckon_55), (111, kb_Wk_reckon_111), (123, kb_Wk_reckon_123), (129, kb_Wk_reckon_129)]
theorem bk_Wk_reckon_0 : vx_bk tb_Wk_reckon 0 = [(.aload_n 0, 1, 0, 0, .null, []), (.aload_n 1, 1, 1, 0, .null, []), (.invokevirtual 34, 3, 47, 1, .null, [(0, 0), (0, 0), (0, 0), (0, 0)]), (.iconst (-1), 1, 0, 0, .int (-1), []), (.istore 7, 2, 7, 0, .null, []), (.iconst 0, 1, 0, 0, .int 0, []), (.istore 8, 2, 8, 0, .null, [])] := rfl
theorem bk_Wk_reckon_11 : vx_bk tb_Wk_reckon 11 = [(.iload 8, 2, 8, 0, .null, []), (.iload 6, 2, 6, 0, .null, []), (.if_icmp .gt 114, 3, 129, 0, .null, []), (.iload 8, 2, 8, 0, .null, []), (.bipush 50, 2, 0, 0, .int 50, []), (.if_icmp .ge 107, 3, 129, 0, .null, []), (.aload_n 2, 1, 2, 0, .null, []), (.getfield 38, 3, 0, 1, .null, []), (.iload 8, 2, 8, 0, .null, []), (.iaload, 1, 0, 0, .null, []), (.iload 5, 2, 5, 0, .null, []), (.ior, 1, 0, 0, .null, []), (.istore 9, 2, 9, 0, .null, []), (.iload 9, 2, 9, 0, .null, []), (.iload 7, 2, 7, 0, .null, []), (.if_icmp .eq 14, 3, 55, 0, .null, []), (.aload_n 0, 1, 0, 0, .null, []), (.aload_n 1, 1, 1, 0, .null, []), (.iload 9, 2, 9, 0, .null, []), (.invokevirtual 43, 3, 48, 2, .null, [(0, 0), (0, 0), (0, 0), (0, 0)]), (.iload 9, 2, 9, 0, .null, []), (.istore 7, 2, 7, 0, .null, [])] := rfl
theorem bk_Wk_reckon_55 : vx_bk tb_Wk_reckon 55 = [(.aload_n 0, 1, 0, 0, .null, []), (.iload_n 3, 1, 3, 0, .null, []), (.aload_n 2, 1, 2, 0, .null, []), (.getfield 47, 3, 0, 0, .null, []), (.iload 8, 2, 8, 0, .null, []), (.iaload, 1, 0, 0, .null, []), (.iload 4, 2, 4, 0, .null, []), (.ior, 1, 0, 0, .null, []), (.invokevirtual 50, 3, 50, 2, .null, [(0, 0), (0, 0), (0, 0), (0, 0)]), (.istore 10, 2, 10, 0, .null, []), (.aload_n 0, 1, 0, 0, .null, []), (.iload 8, 2, 8, 0, .null, []), (.putfield 28, 3, 4, 5, .int 0, []), (.aload_n 0, 1, 0, 0, .null, []), (.getfield 15, 3, 4, 1, .null, []), (.iconst 0, 1, 0, 0, .int 0, []), (.aload_n 0, 1, 0, 0, .null, []), (.getfield 9, 3, 4, 0, .null, []), (.iload 8, 2, 8, 0, .null, []), (.iconst 1, 1, 0, 0, .int 1, []), (.iadd, 1, 0, 0, .null, []), (.iconst 5, 1, 0, 0, .int 5, []), (.imul, 1, 0, 0, .null, []), (.iconst 5, 1, 0, 0, .int 5, []), (.invokestatic 54, 3, 0, 0, .int 0, []), (.iload 10, 2, 10, 0, .null, []), (.ifCond .eq 12, 3, 111, 0, .null, []), (.aload_n 0, 1, 0, 0, .null, []), (.iload 8, 2, 8, 0, .null, []), (.putfield 31, 3, 4, 6, .int 0, []), (.goto 15, 3, 123, 0, .null, [])] := rfl
theorem bk_Wk_reckon_111 : vx_bk tb_Wk_reckon 111 = [(.iload 8, 2, 8, 0, .null, []), (.aload_n 2, 1, 2, 0, .null, []), (.getfield 60, 3, 0, 2, .null, []), (.if_icmp .lt 6, 3, 123, 0, .null, []), (.goto 9, 3, 129, 0, .null, [])] := rfl
theorem bk_Wk_reckon_123 : vx_bk tb_Wk_reckon 123 = [(.iinc 8 1, 3, 8, 0, .int 1, []), (.goto (-115), 3, 11, 0, .null, [])] := rfl
theorem bk_Wk_reckon_129 : vx_bk tb_Wk_reckon 129 = [(.return_, 1, 0, 0, .null, [])] := rfl
abbrev m_Wk_reckon : Nat := 46
set_option maxRecDepth 100000 in
theorem ck_Wk_reckon : vx_ckM prog_6_method_2_code 4 11 3 false none tb_Wk_reckon = true := by decide +kernel
theorem ok_Wk_reckon {As : List Value} {sz : Nat} {h : vx_H} {P : Option Value → vx_H → Prop} (L0 : vx_L) (hlen : (vx_ar As).length ≤ 11) (hL0 : vx_ar As ++ List.replicate (11 - (vx_ar As).length) none = L0)
    (body : ∀ (lim z : vx_Z) X, vx_cl0 none lim tb_Wk_reckon (fun r z' h' => z' = z ∧ P r h') X → X 0 L0 [] z h) : vx_Ok m_Wk_reckon As sz h P :=
  vx_ok0 (M := (⟨"VoteWalls$Weeks", "reckon", "(LVoteWalls$Yard;LVoteWalls$Calendar;IIII)V"⟩, prog_6_method_2_code, 11, none, 3, 0, 0, 6, 0)) rfl (ow := 4) rfl ck_Wk_reckon rfl hlen hL0 body
def kb_Wk_begin_0 : List vx_I := [(.aload_n 0, 1, 0, 0, .null, []), (.aload_n 1, 1, 1, 0, .null, []), (.getfield 63, 3, 5, 4, .null, []), (.putfield 21, 3, 4, 3, .int 0, []), (.aload_n 0, 1, 0, 0, .null, []), (.aload_n 1, 1, 1, 0, .null, []), (.getfield 66, 3, 5, 3, .null, []), (.putfield 25, 3, 4, 4, .int 0, []), (.aload_n 0, 1, 0, 0, .null, []), (.iconst (-1), 1, 0, 0, .int (-1), []), (.putfield 28, 3, 4, 5, .int 0, []), (.aload_n 0, 1, 0, 0, .null, []), (.iconst (-1), 1, 0, 0, .int (-1), []), (.putfield 31, 3, 4, 6, .int 0, []), (.aload_n 1, 1, 1, 0, .null, []), (.getfield 67, 3, 5, 0, .null, []), (.iconst 0, 1, 0, 0, .int 0, []), (.aload_n 0, 1, 0, 0, .null, []), (.getfield 15, 3, 4, 1, .null, []), (.iconst 0, 1, 0, 0, .int 0, []), (.iconst 5, 1, 0, 0, .int 5, []), (.invokestatic 54, 3, 0, 0, .int 0, []), (.aload_n 0, 1, 0, 0, .null, []), (.getfield 15, 3, 4, 1, .null, []), (.iconst 0, 1, 0, 0, .int 0, []), (.aload_n 0, 1, 0, 0, .null, []), (.getfield 9, 3, 4, 0, .null, []), (.iconst 0, 1, 0, 0, .int 0, []), (.iconst 5, 1, 0, 0, .int 5, []), (.invokestatic 54, 3, 0, 0, .int 0, []), (.return_, 1, 0, 0, .null, [])]
def tb_Wk_begin : List (Nat × List vx_I) := [(0, kb_Wk_begin_0)]
theorem bk_Wk_begin_0 : vx_bk tb_Wk_begin 0 = [(.aload_n 0, 1, 0, 0, .null, []), (.aload_n 1, 1, 1, 0, .null, []), (.getfield 63, 3, 5, 4, .null, []), (.putfield 21, 3, 4, 3, .int 0, []), (.aload_n 0, 1, 0, 0, .null, []), (.aload_n 1, 1, 1, 0, .null, []), (.getfield 66, 3, 5, 3, .null, []), (.putfield 25, 3, 4, 4, .int 0, []), (.aload_n 0, 1, 0, 0, .null, []), (.iconst (-1), 1, 0, 0, .int (-1), []), (.putfield 28, 3, 4, 5, .int 0, []), (.aload_n 0, 1, 0, 0, .null, []), (.iconst (-1), 1, 0, 0, .int (-1), []), (.putfield 31, 3, 4, 6, .int 0, []), (.aload_n 1, 1, 1, 0, .null, []), (.getfield 67, 3, 5, 0, .null, []), (.iconst 0, 1, 0, 0, .int 0, []), (.aload_n 0, 1, 0, 0, .null, []), (.getfield 15, 3, 4, 1, .null, []), (.iconst 0, 1, 0, 0, .int 0, []), (.iconst 5, 1, 0, 0, .int 5, []), (.invokestatic 54, 3, 0, 0, .int 0, []), (.aload_n 0, 1, 0, 0, .null, []), (.getfield 15, 3, 4, 1, .null, []), (.iconst 0, 1, 0, 0, .int 0, []), (.aload_n 0, 1, 0, 0, .null, []), (.getfield 9, 3, 4, 0, .null, []), (.iconst 0, 1, 0, 0, .int 0, []), (.iconst 5, 1, 0, 0, .int 5, []), (.invokestatic 54, 3, 0, 0, .int 0, []), (.return_, 1, 0, 0, .null, [])] := rfl
abbrev m_Wk_begin : Nat := 47
set_option maxRecDepth 100000 in
theorem ck_Wk_begin : vx_ckM prog_6_method_3_code 4 2 1 false none tb_Wk_begin = true := by decide +kernel
theorem ok_Wk_begin {As : List Value} {sz : Nat} {h : vx_H} {P : Option Value → vx_H → Prop} (L0 : vx_L) (hlen : (vx_ar As).length ≤ 2) (hL0 : vx_ar As ++ List.replicate (2 - (vx_ar As).length) none = L0)
    (body : ∀ (lim z : vx_Z) X, vx_cl0 none lim tb_Wk_begin (fun r z' h' => z' = z ∧ P r h') X → X 0 L0 [] z h) : vx_Ok m_Wk_begin As sz h P :=
  vx_ok0 (M := (⟨"VoteWalls$Weeks", "begin", "(LVoteWalls$Yard;)V"⟩, prog_6_method_3_code, 2, none, 1, 0, 0, 1, 0)) rfl (ow := 4) rfl ck_Wk_begin rfl hlen hL0 body
def kb_Wk_countVotes_0 : List vx_I := [(.aload_n 0, 1, 0, 0, .null, []), (.getfield 18, 3, 4, 2, .null, []), (.iconst 0, 1, 0, 0, .int 0, []), (.invokestatic 68, 3, 27, 2, .null, []), (.iconst 0, 1, 0, 0, .int 0, []), (.istore_n 3, 1, 3, 0, .null, [])]
def kb_Wk_countVotes_10 : List vx_I := [(.iload_n 3, 1, 3, 0, .null, []), (.aload_n 1, 1, 1, 0, .null, []), (.getfield 74, 3, 5, 5, .null, []), (.if_icmp .ge 58, 3, 73, 0, .null, []), (.aload_n 1, 1, 1, 0, .null, []), (.getfield 77, 3, 5, 2, .null, []), (.iload_n 3, 1, 3, 0, .null, []), (.iaload, 1, 0, 0, .null, []), (.istore 4, 2, 4, 0, .null, []), (.iload_n 2, 1, 2, 0, .null, []), (.iload_n 3, 1, 3, 0, .null, []), (.invokestatic 80, 3, 49, 2, .null, []), (.ifCond .ne 36, 3, 67, 0, .null, []), (.iload 4, 2, 4, 0, .null, []), (.ifCond .lt 31, 3, 67, 0, .null, []), (.iload 4, 2, 4, 0, .null, []), (.bipush 30, 2, 0, 0, .int 30, []), (.if_icmp .ge 24, 3, 67, 0, .null, []), (.aload_n 0, 1, 0, 0, .null, []), (.getfield 18, 3, 4, 2, .null, []), (.iload 4, 2, 4, 0, .null, []), (.iconst 1, 1, 0, 0, .int 1, []), (.iadd, 1, 0, 0, .null, []), (.dup2, 1, 0, 0, .null, []), (.iaload, 1, 0, 0, .null, []), (.aload_n 1, 1, 1, 0, .null, []), (.getfield 83, 3, 5, 1, .null, []), (.iload_n 3, 1, 3, 0, .null, []), (.iaload, 1, 0, 0, .null, []), (.invokestatic 86, 3, 30, 1, .null, []), (.iadd, 1, 0, 0, .null, []), (.iastore, 1, 0, 0, .null, [])]
def kb_Wk_countVotes_67 : List vx_I := [(.iinc 3 1, 3, 3, 0, .int 1, []), (.goto (-60), 3, 10, 0, .null, [])]
def kb_Wk_countVotes_73 : List vx_I := [(.iconst 1, 1, 0, 0, .int 1, []), (.istore_n 3, 1, 3, 0, .null, [])]
def kb_Wk_countVotes_75 : List vx_I := [(.iload_n 3, 1, 3, 0, .null, []), (.bipush 30, 2, 0, 0, .int 30, []), (.if_icmp .gt 26, 3, 104, 0, .null, []), (.aload_n 0, 1, 0, 0, .null, []), (.getfield 18, 3, 4, 2, .null, []), (.iload_n 3, 1, 3, 0, .null, []), (.dup2, 1, 0, 0, .null, []), (.iaload, 1, 0, 0, .null, []), (.aload_n 0, 1, 0, 0, .null, []), (.getfield 18, 3, 4, 2, .null, []), (.iload_n 3, 1, 3, 0, .null, []), (.iconst 1, 1, 0, 0, .int 1, []), (.isub, 1, 0, 0, .null, []), (.iaload, 1, 0, 0, .null, []), (.iadd, 1, 0, 0, .null, []), (.iastore, 1, 0, 0, .null, []), (.iinc 3 1, 3, 3, 0, .int 1, []), (.goto (-26), 3, 75, 0, .null, [])]
def kb_Wk_countVotes_104 : List vx_I := [(.return_, 1, 0, 0, .null, [])]
def tb_Wk_countVotes : List (Nat × List vx_I) := [(0, kb_Wk_countVotes_0), (10, kb_Wk_countVotes_10), (67, kb_Wk_countVotes_67), (73, kb_Wk_countVotes_73), (75, kb_Wk_countVotes_75), (104, kb_Wk_countVotes_104)]
theorem bk_Wk_countVotes_0 : vx_bk tb_Wk_countVotes 0 = [(.aload_n 0, 1, 0, 0, .null, []), (.getfield 18, 3, 4, 2, .null, []), (.iconst 0, 1, 0, 0, .int 0, []), (.invokestatic 68, 3, 27, 2, .null, []), (.iconst 0, 1, 0, 0, .int 0, []), (.istore_n 3, 1, 3, 0, .null, [])] := rfl
theorem bk_Wk_countVotes_10 : vx_bk tb_Wk_countVotes 10 = [(.iload_n 3, 1, 3, 0, .null, []), (.aload_n 1, 1, 1, 0, .null, []), (.getfield 74, 3, 5, 5, .null, []), (.if_icmp .ge 58, 3, 73, 0, .null, []), (.aload_n 1, 1, 1, 0, .null, []), (.getfield 77, 3, 5, 2, .null, []), (.iload_n 3, 1, 3, 0, .null, []), (.iaload, 1, 0, 0, .null, []), (.istore 4, 2, 4, 0, .null, []), (.iload_n 2, 1, 2, 0, .null, []), (.iload_n 3, 1, 3, 0, .null, []), (.invokestatic 80, 3, 49, 2, .null, []), (.ifCond .ne 36, 3, 67, 0, .null, []), (.iload 4, 2, 4, 0, .null, []), (.ifCond .lt 31, 3, 67, 0, .null, []), (.iload 4, 2, 4, 0, .null, []), (.bipush 30, 2, 0, 0, .int 30, []), (.if_icmp .ge 24, 3, 67, 0, .null, []), (.aload_n 0, 1, 0, 0, .null, []), (.getfield 18, 3, 4, 2, .null, []), (.iload 4, 2, 4, 0, .null, []), (.iconst 1, 1, 0, 0, .int 1, []), (.iadd, 1, 0, 0, .null, []), (.dup2, 1, 0, 0, .null, []), (.iaload, 1, 0, 0, .null, []), (.aload_n 1, 1, 1, 0, .null, []), (.getfield 83, 3, 5, 1, .null, []), (.iload_n 3, 1, 3, 0, .null, []), (.iaload, 1, 0, 0, .null, []), (.invokestatic 86, 3, 30, 1, .null, []), (.iadd, 1, 0, 0, .null, []), (.iastore, 1, 0, 0, .null, [])] := rfl
theorem bk_Wk_countVotes_67 : vx_bk tb_Wk_countVotes 67 = [(.iinc 3 1, 3, 3, 0, .int 1, []), (.goto (-60), 3, 10, 0, .null, [])] := rfl
theorem bk_Wk_countVotes_73 : vx_bk tb_Wk_countVotes 73 = [(.iconst 1, 1, 0, 0, .int 1, []), (.istore_n 3, 1, 3, 0, .null, [])] := rfl
theorem bk_Wk_countVotes_75 : vx_bk tb_Wk_countVotes 75 = [(.iload_n 3, 1, 3, 0, .null, []), (.bipush 30, 2, 0, 0, .int 30, []), (.if_icmp .gt 26, 3, 104, 0, .null, []), (.aload_n 0, 1, 0, 0, .null, []), (.getfield 18, 3, 4, 2, .null, []), (.iload_n 3, 1, 3, 0, .null, []), (.dup2, 1, 0, 0, .null, []), (.iaload, 1, 0, 0, .null, []), (.aload_n 0, 1, 0, 0, .null, []), (.getfield 18, 3, 4, 2, .null, []), (.iload_n 3, 1, 3, 0, .null, []), (.iconst 1, 1, 0, 0, .int 1, []), (.isub, 1, 0, 0, .null, []), (.iaload, 1, 0, 0, .null, []), (.iadd, 1, 0, 0, .null, []), (.iastore, 1, 0, 0, .null, []), (.iinc 3 1, 3, 3, 0, .int 1, []), (.goto (-26), 3, 75, 0, .null, [])] := rfl
theorem bk_Wk_countVotes_104 : vx_bk tb_Wk_countVotes 104 = [(.return_, 1, 0, 0, .null, [])] := rfl
abbrev m_Wk_countVotes : Nat := 48
set_option maxRecDepth 100000 in
theorem ck_Wk_countVotes : vx_ckM prog_6_method_4_code 4 5 1 false none tb_Wk_countVotes = true := by decide +kernel
theorem ok_Wk_countVotes {As : List Value} {sz : Nat} {h : vx_H} {P : Option Value → vx_H → Prop} (L0 : vx_L) (hlen : (vx_ar As).length ≤ 5) (hL0 : vx_ar As ++ List.replicate (5 - (vx_ar As).length) none = L0)
    (body : ∀ (lim z : vx_Z) X, vx_cl0 none lim tb_Wk_countVotes (fun r z' h' => z' = z ∧ P r h') X → X 0 L0 [] z h) : vx_Ok m_Wk_countVotes As sz h P :=
  vx_ok0 (M := (⟨"VoteWalls$Weeks", "countVotes", "(LVoteWalls$Yard;I)V"⟩, prog_6_method_4_code, 5, none, 1, 0, 0, 2, 0)) rfl (ow := 4) rfl ck_Wk_countVotes rfl hlen hL0 body
def kb_Wk_pushAll_0 : List vx_I := [(.iconst 0, 1, 0, 0, .int 0, []), (.istore_n 3, 1, 3, 0, .null, []), (.iconst 0, 1, 0, 0, .int 0, []), (.istore 4, 2, 4, 0, .null, [])]
def kb_Wk_pushAll_5 : List vx_I := [(.iload 4, 2, 4, 0, .null, []), (.aload_n 0, 1, 0, 0, .null, []), (.getfield 21, 3, 4, 3, .null, []), (.if_icmp .ge 49, 3, 60, 0, .null, []), (.iload_n 1, 1, 1, 0, .null, []), (.ifCond .ne 8, 3, 23, 0, .null, []), (.iload 4, 2, 4, 0, .null, []), (.goto 12, 3, 32, 0, .null, [])]
def kb_Wk_pushAll_23 : List vx_I := [(.aload_n 0, 1, 0, 0, .null, []), (.getfield 21, 3, 4, 3, .null, []), (.iconst 1, 1, 0, 0, .int 1, []), (.isub, 1, 0, 0, .null, []), (.iload 4, 2, 4, 0, .null, []), (.isub, 1, 0, 0, .null, [])]
def kb_Wk_pushAll_32 : List vx_I := [(.istore 5, 2, 5, 0, .null, []), (.iload_n 2, 1, 2, 0, .null, []), (.iload 5, 2, 5, 0, .null, []), (.invokestatic 80, 3, 49, 2, .null, []), (.ifCond .ne 14, 3, 54, 0, .null, []), (.aload_n 0, 1, 0, 0, .null, []), (.iload 5, 2, 5, 0, .null, []), (.invokevirtual 90, 3, 51, 1, .null, [(0, 0), (0, 0), (0, 0), (0, 0)]), (.ifCond .eq 5, 3, 54, 0, .null, []), (.iconst 1, 1, 0, 0, .int 1, []), (.istore_n 3, 1, 3, 0, .null, [])]
def kb_Wk_pushAll_54 : List vx_I := [(.iinc 4 1, 3, 4, 0, .int 1, []), (.goto (-52), 3, 5, 0, .null, [])]
def kb_Wk_pushAll_60 : List vx_I := [(.iload_n 3, 1, 3, 0, .null, []), (.ireturn, 1, 1, 0, .null, [])]
def tb_Wk_pushAll : List (Nat × List vx_I) := [(0, kb_Wk_pushAll_0), (5, kb_Wk_pushAll_5), (23, kb_Wk_pushAll_23), (32, kb_Wk_pushAll_32), (54, kb_Wk_pushAll_54), (60, kb_Wk_pushAll_60)]
theorem bk_Wk_pushAll_0 : vx_bk tb_Wk_pushAll 0 = [(.iconst 0, 1, 0, 0, .int 0, []), (.istore_n 3, 1, 3, 0, .null, []), (.iconst 0, 1, 0, 0, .int 0, []), (.istore 4, 2, 4, 0, .null, [])] := rfl
theorem bk_Wk_pushAll_5 : vx_bk tb_Wk_pushAll 5 = [(.iload 4, 2, 4, 0, .null, []), (.aload_n 0, 1, 0, 0, .null, []), (.getfield 21, 3, 4, 3, .null, []), (.if_icmp .ge 49, 3, 60, 0, .null, []), (.iload_n 1, 1, 1, 0, .null, []), (.ifCond .ne 8, 3, 23, 0, .null, []), (.iload 4, 2, 4, 0, .null, []), (.goto 12, 3, 32, 0, .null, [])] := rfl
theorem bk_Wk_pushAll_23 : vx_bk tb_Wk_pushAll 23 = [(.aload_n 0, 1, 0, 0, .null, []), (.getfield 21, 3, 4, 3, .null, []), (.iconst 1, 1, 0, 0, .int 1, []), (.isub, 1, 0, 0, .null, []), (.iload 4, 2, 4, 0, .null, []), (.isub, 1, 0, 0, .null, [])] := rfl
theorem bk_Wk_pushAll_32 : vx_bk tb_Wk_pushAll 32 = [(.istore 5, 2, 5, 0, .null, []), (.iload_n 2, 1, 2, 0, .null, []), (.iload 5, 2, 5, 0, .null, []), (.invokestatic 80, 3, 49, 2, .null, []), (.ifCond .ne 14, 3, 54, 0, .null, []), (.aload_n 0, 1, 0, 0, .null, []), (.iload 5, 2, 5, 0, .null, []), (.invokevirtual 90, 3, 51, 1, .null, [(0, 0), (0, 0), (0, 0), (0, 0)]), (.ifCond .eq 5, 3, 54, 0, .null, []), (.iconst 1, 1, 0, 0, .int 1, []), (.istore_n 3, 1, 3, 0, .null, [])] := rfl
theorem bk_Wk_pushAll_54 : vx_bk tb_Wk_pushAll 54 = [(.iinc 4 1, 3, 4, 0, .int 1, []), (.goto (-52), 3, 5, 0, .null, [])] := rfl
theorem bk_Wk_pushAll_60 : vx_bk tb_Wk_pushAll 60 = [(.iload_n 3, 1, 3, 0, .null, []), (.ireturn, 1, 1, 0, .null, [])] := rfl
abbrev m_Wk_pushAll : Nat := 50
set_option maxRecDepth 100000 in
theorem ck_Wk_pushAll : vx_ckM prog_6_method_5_code 4 6 2 false (some .boolean) tb_Wk_pushAll = true := by decide +kernel
theorem ok_Wk_pushAll {As : List Value} {sz : Nat} {h : vx_H} {P : Option Value → vx_H → Prop} (L0 : vx_L) (hlen : (vx_ar As).length ≤ 6) (hL0 : vx_ar As ++ List.replicate (6 - (vx_ar As).length) none = L0)
    (body : ∀ (lim z : vx_Z) X, vx_cl0 none lim tb_Wk_pushAll (fun r z' h' => z' = z ∧ P r h') X → X 0 L0 [] z h) : vx_Ok m_Wk_pushAll As sz h P :=
  vx_ok0 (M := (⟨"VoteWalls$Weeks", "pushAll", "(II)Z"⟩, prog_6_method_5_code, 6, (some .boolean), 2, 0, 0, 2, 0)) rfl (ow := 4) rfl ck_Wk_pushAll rfl hlen hL0 body
def kb_Wk_pushOne_0 : List vx_I := [(.iload_n 1, 1, 1, 0, .null, []), (.ifCond .ne 7, 3, 8, 0, .null, []), (.iconst 0, 1, 0, 0, .int 0, []), (.goto 11, 3, 16, 0, .null, [])]
def kb_Wk_pushOne_8 : List vx_I := [(.aload_n 0, 1, 0, 0, .null, []), (.getfield 15, 3, 4, 1, .null, []), (.iload_n 1, 1, 1, 0, .null, []), (.iconst 1, 1, 0, 0, .int 1, []), (.isub, 1, 0, 0, .null, []), (.iaload, 1, 0, 0, .null, [])]
def kb_Wk_pushOne_16 : List vx_I := [(.istore_n 2, 1, 2, 0, .null, []), (.iload_n 1, 1, 1, 0, .null, []), (.aload_n 0, 1, 0, 0, .null, []), (.getfield 21, 3, 4, 3, .null, []), (.iconst 1, 1, 0, 0, .int 1, []), (.isub, 1, 0, 0, .null, []), (.if_icmp .ne 10, 3, 34, 0, .null, []), (.aload_n 0, 1, 0, 0, .null, []), (.getfield 25, 3, 4, 4, .null, []), (.goto 11, 3, 42, 0, .null, [])]
def kb_Wk_pushOne_34 : List vx_I := [(.aload_n 0, 1, 0, 0, .null, []), (.getfield 15, 3, 4, 1, .null, []), (.iload_n 1, 1, 1, 0, .null, []), (.iconst 1, 1, 0, 0, .int 1, []), (.iadd, 1, 0, 0, .null, []), (.iaload, 1, 0, 0, .null, [])]
def kb_Wk_pushOne_42 : List vx_I := [(.istore_n 3, 1, 3, 0, .null, []), (.aload_n 0, 1, 0, 0, .null, []), (.getfield 15, 3, 4, 1, .null, []), (.iload_n 1, 1, 1, 0, .null, []), (.iaload, 1, 0, 0, .null, []), (.istore 4, 2, 4, 0, .null, []), (.aload_n 0, 1, 0, 0, .null, []), (.iload_n 2, 1, 2, 0, .null, []), (.iload 4, 2, 4, 0, .null, []), (.invokevirtual 94, 3, 52, 2, .null, [(0, 0), (0, 0), (0, 0), (0, 0)]), (.istore 5, 2, 5, 0, .null, []), (.aload_n 0, 1, 0, 0, .null, []), (.iload 4, 2, 4, 0, .null, []), (.iload_n 3, 1, 3, 0, .null, []), (.invokevirtual 94, 3, 52, 2, .null, [(0, 0), (0, 0), (0, 0), (0, 0)]), (.istore 6, 2, 6, 0, .null, []), (.iload 4, 2, 4, 0, .null, []), (.iload 5, 2, 5, 0, .null, []), (.iload 6, 2, 6, 0, .null, []), (.invokestatic 98, 3, 53, 2, .null, []), (.iadd, 1, 0, 0, .null, []), (.istore 7, 2, 7, 0, .null, []), (.iload 7, 2, 7, 0, .null, []), (.iload 4, 2, 4, 0, .null, []), (.if_icmp .eq 15, 3, 100, 0, .null, []), (.iload 7, 2, 7, 0, .null, []), (.iload_n 2, 1, 2, 0, .null, []), (.if_icmp .le 9, 3, 100, 0, .null, []), (.iload 7, 2, 7, 0, .null, []), (.iload_n 3, 1, 3, 0, .null, []), (.if_icmp .lt 5, 3, 102, 0, .null, [])]
def kb_Wk_pushOne_100 : List vx_I := [(.iconst 0, 1, 0, 0, .int 0, []), (.ireturn, 1, 1, 0, .null, [])]
def kb_Wk_pushOne_102 : List vx_I := [(.aload_n 0, 1, 0, 0, .null, []), (.getfield 15, 3, 4, 1, .null, []), (.iload_n 1, 1, 1, 0, .null, []), (.iload 7, 2, 7, 0, .null, []), (.iastore, 1, 0, 0, .null, []), (.iconst 1, 1, 0, 0, .int 1, []), (.ireturn, 1, 1, 0, .null, [])]
def tb_Wk_pushOne : List (Nat × List vx_I) := [(0, kb_Wk_pushOne_0), (8, kb_Wk_pushOne_8), (16, kb_Wk_pushOne_16), (34, kb_Wk_pushOne_34), (42, kb_Wk_pushOne_42), (100, kb_Wk_pushOne_100), (102, kb_Wk_pushOne_102)]
theorem bk_Wk_pushOne_0 : vx_bk tb_Wk_pushOne 0 = [(.iload_n 1, 1, 1, 0, .null, []), (.ifCond .ne 7, 3, 8, 0, .null, []), (.iconst 0, 1, 0, 0, .int 0, []), (.goto 11, 3, 16, 0, .null, [])] := rfl
theorem bk_Wk_pushOne_8 : vx_bk tb_Wk_pushOne 8 = [(.aload_n 0, 1, 0, 0, .null, []), (.getfield 15, 3, 4, 1, .null, []), (.iload_n 1, 1, 1, 0, .null, []), (.iconst 1, 1, 0, 0, .int 1, []), (.isub, 1, 0, 0, .null, []), (.iaload, 1, 0, 0, .null, [])] := rfl
theorem bk_Wk_pushOne_16 : vx_bk tb_Wk_pushOne 16 = [(.istore_n 2, 1, 2, 0, .null, []), (.iload_n 1, 1, 1, 0, .null, []), (.aload_n 0, 1, 0, 0, .null, []), (.getfield 21, 3, 4, 3, .null, []), (.iconst 1, 1, 0, 0, .int 1, []), (.isub, 1, 0, 0, .null, []), (.if_icmp .ne 10, 3, 34, 0, .null, []), (.aload_n 0, 1, 0, 0, .null, []), (.getfield 25, 3, 4, 4, .null, []), (.goto 11, 3, 42, 0, .null, [])] := rfl
theorem bk_Wk_pushOne_34 : vx_bk tb_Wk_pushOne 34 = [(.aload_n 0, 1, 0, 0, .null, []), (.getfield 15, 3, 4, 1, .null, []), (.iload_n 1, 1, 1, 0, .null, []), (.iconst 1, 1, 0, 0, .int 1, []), (.iadd, 1, 0, 0, .null, []), (.iaload, 1, 0, 0, .null, [])] := rfl
theorem bk_Wk_pushOne_42 : vx_bk tb_Wk_pushOne 42 = [(.istore_n 3, 1, 3, 0, .null, []), (.aload_n 0, 1, 0, 0, .null, []), (.getfield 15, 3, 4, 1, .null, []), (.iload_n 1, 1, 1, 0, .null, []), (.iaload, 1, 0, 0, .null, []), (.istore 4, 2, 4, 0, .null, []), (.aload_n 0, 1, 0, 0, .null, []), (.iload_n 2, 1, 2, 0, .null, []), (.iload 4, 2, 4, 0, .null, []), (.invokevirtual 94, 3, 52, 2, .null, [(0, 0), (0, 0), (0, 0), (0, 0)]), (.istore 5, 2, 5, 0, .null, []), (.aload_n 0, 1, 0, 0, .null, []), (.iload 4, 2, 4, 0, .null, []), (.iload_n 3, 1, 3, 0, .null, []), (.invokevirtual 94, 3, 52, 2, .null, [(0, 0), (0, 0), (0, 0), (0, 0)]), (.istore 6, 2, 6, 0, .null, []), (.iload 4, 2, 4, 0, .null, []), (.iload 5, 2, 5, 0, .null, []), (.iload 6, 2, 6, 0, .null, []), (.invokestatic 98, 3, 53, 2, .null, []), (.iadd, 1, 0, 0, .null, []), (.istore 7, 2, 7, 0, .null, []), (.iload 7, 2, 7, 0, .null, []), (.iload 4, 2, 4, 0, .null, []), (.if_icmp .eq 15, 3, 100, 0, .null, []), (.iload 7, 2, 7, 0, .null, []), (.iload_n 2, 1, 2, 0, .null, []), (.if_icmp .le 9, 3, 100, 0, .null, []), (.iload 7, 2, 7, 0, .null, []), (.iload_n 3, 1, 3, 0, .null, []), (.if_icmp .lt 5, 3, 102, 0, .null, [])] := rfl
theorem bk_Wk_pushOne_100 : vx_bk tb_Wk_pushOne 100 = [(.iconst 0, 1, 0, 0, .int 0, []), (.ireturn, 1, 1, 0, .null, [])] := rfl
theorem bk_Wk_pushOne_102 : vx_bk tb_Wk_pushOne 102 = [(.aload_n 0, 1, 0, 0, .null, []), (.getfield 15, 3, 4, 1, .null, []), (.iload_n 1, 1, 1, 0, .null, []), (.iload 7, 2, 7, 0, .null, []), (.iastore, 1, 0, 0, .null, []), (.iconst 1, 1, 0, 0, .int 1, []), (.ireturn, 1, 1, 0, .null, [])] := rfl
abbrev m_Wk_pushOne : Nat := 51
set_option maxRecDepth 100000 in
theorem ck_Wk_pushOne : vx_ckM prog_6_method_6_code 4 8 1 false (some .boolean) tb_Wk_pushOne = true := by decide +kernel
theorem ok_Wk_pushOne {As : List Value} {sz : Nat} {h : vx_H} {P : Option Value → vx_H → Prop} (L0 : vx_L) (hlen : (vx_ar As).length ≤ 8) (hL0 : vx_ar As ++ List.replicate (8 - (vx_ar As).length) none = L0)
    (body : ∀ (lim z : vx_Z) X, vx_cl0 none lim tb_Wk_pushOne (fun r z' h' => z' = z ∧ P r h') X → X 0 L0 [] z h) : vx_Ok m_Wk_pushOne As sz h P :=
  vx_ok0 (M := (⟨"VoteWalls$Weeks", "pushOne", "(I)Z"⟩, prog_6_method_6_code, 8, (some .boolean), 1, 0, 0, 1, 0)) rfl (ow := 4) rfl ck_Wk_pushOne rfl hlen hL0 body
def kb_Wk_votesFromTo_0 : List vx_I := [(.iload_n 1, 1, 1, 0, .null, []), (.ifCond .lt 19, 3, 20, 0, .null, []), (.iload_n 1, 1, 1, 0, .null, []), (.bipush 30, 2, 0, 0, .int 30, []), (.if_icmp .gt 13, 3, 20, 0, .null, []), (.iload_n 2, 1, 2, 0, .null, []), (.ifCond .lt 9, 3, 20, 0, .null, []), (.iload_n 2, 1, 2, 0, .null, []), (.bipush 30, 2, 0, 0, .int 30, []), (.if_icmp .le 5, 3, 22, 0, .null, [])]
def kb_Wk_votesFromTo_20 : List vx_I := [(.iconst 0, 1, 0, 0, .int 0, []), (.ireturn, 1, 0, 0, .null, [])]
def kb_Wk_votesFromTo_22 : List vx_I := [(.aload_n 0, 1, 0, 0, .null, []), (.getfield 18, 3, 4, 2, .null, []), (.iload_n 2, 1, 2, 0, .null, []), (.iaload, 1, 0, 0, .null, []), (.aload_n 0, 1, 0, 0, .null, []), (.getfield 18, 3, 4, 2, .null, []), (.iload_n 1, 1, 1, 0, .null, []), (.iaload, 1, 0, 0, .null, []), (.isub, 1, 0, 0, .null, []), (.ireturn, 1, 0, 0, .null, [])]
def tb_Wk_votesFromTo : List (Nat × List vx_I) := [(0, kb_Wk_votesFromTo_0), (20, kb_Wk_votesFromTo_20), (22, kb_Wk_votesFromTo_22)]
theorem bk_Wk_votesFromTo_0 : vx_bk tb_Wk_votesFromTo 0 = [(.iload_n 1, 1, 1, 0, .null, []), (.ifCond .lt 19, 3, 20, 0, .null, []), (.iload_n 1, 1, 1, 0, .null, []), (.bipush 30, 2, 0, 0, .int 30, []), (.if_icmp .gt 13, 3, 20, 0, .null, []), (.iload_n 2, 1, 2, 0, .null, []), (.ifCond .lt 9, 3, 20, 0, .null, []), (.iload_n 2, 1, 2, 0, .null, []), (.bipush 30, 2, 0, 0, .int 30, []), (.if_icmp .le 5, 3, 22, 0, .null, [])] := rfl
theorem bk_Wk_votesFromTo_20 : vx_bk tb_Wk_votesFromTo 20 = [(.iconst 0, 1, 0, 0, .int 0, []), (.ireturn, 1, 0, 0, .null, [])] := rfl
theorem bk_Wk_votesFromTo_22 : vx_bk tb_Wk_votesFromTo 22 = [(.aload_n 0, 1, 0, 0, .null, []), (.getfield 18, 3, 4, 2, .null, []), (.iload_n 2, 1, 2, 0, .null, []), (.iaload, 1, 0, 0, .null, []), (.aload_n 0, 1, 0, 0, .null, []), (.getfield 18, 3, 4, 2, .null, []), (.iload_n 1, 1, 1, 0, .null, []), (.iaload, 1, 0, 0, .null, []), (.isub, 1, 0, 0, .null, []), (.ireturn, 1, 0, 0, .null, [])] := rfl
abbrev m_Wk_votesFromTo : Nat := 52
set_option maxRecDepth 100000 in
theorem ck_Wk_votesFromTo : vx_ckM prog_6_method_7_code 4 3 0 false (some .int) tb_Wk_votesFromTo = true := by decide +kernel
theorem ok_Wk_votesFromTo {As : List Value} {sz : Nat} {h : vx_H} {P : Option Value → vx_H → Prop} (L0 : vx_L) (hlen : (vx_ar As).length ≤ 3) (hL0 : vx_ar As ++ List.replicate (3 - (vx_ar As).length) none = L0)
    (body : ∀ (lim z : vx_Z) X, vx_cl0 none lim tb_Wk_votesFromTo (fun r z' h' => z' = z ∧ P r h') X → X 0 L0 [] z h) : vx_Ok m_Wk_votesFromTo As sz h P :=
  vx_ok0 (M := (⟨"VoteWalls$Weeks", "votesFromTo", "(II)I"⟩, prog_6_method_7_code, 3, (some .int), 0, 0, 0, 2, 0)) rfl (ow := 4) rfl ck_Wk_votesFromTo rfl hlen hL0 body
def kb_JI_compare_0 : List vx_I := [(.iload_n 0, 1, 0, 0, .null, []), (.iload_n 1, 1, 1, 0, .null, []), (.if_icmp .ge 7, 3, 9, 0, .null, []), (.iconst (-1), 1, 0, 0, .int (-1), []), (.goto 13, 3, 19, 0, .null, [])]
def kb_JI_compare_9 : List vx_I := [(.iload_n 0, 1, 0, 0, .null, []), (.iload_n 1, 1, 1, 0, .null, []), (.if_icmp .ne 7, 3, 18, 0, .null, []), (.iconst 0, 1, 0, 0, .int 0, []), (.goto 4, 3, 19, 0, .null, [])]
def kb_JI_compare_18 : List vx_I := [(.iconst 1, 1, 0, 0, .int 1, [])]
def kb_JI_compare_19 : List vx_I := [(.ireturn, 1, 0, 0, .null, [])]
def tb_JI_compare : List (Nat × List vx_I) := [(0, kb_JI_compare_0), (9, kb_JI_compare_9), (18, kb_JI_compare_18), (19, kb_JI_compare_19)]
theorem bk_JI_compare_0 : vx_bk tb_JI_compare 0 = [(.iload_n 0, 1, 0, 0, .null, []), (.iload_n 1, 1, 1, 0, .null, []), (.if_icmp .ge 7, 3, 9, 0, .null, []), (.iconst (-1), 1, 0, 0, .int (-1), []), (.goto 13, 3, 19, 0, .null, [])] := rfl
theorem bk_JI_compare_9 : vx_bk tb_JI_compare 9 = [(.iload_n 0, 1, 0, 0, .null, []), (.iload_n 1, 1, 1, 0, .null, []), (.if_icmp .ne 7, 3, 18, 0, .null, []), (.iconst 0, 1, 0, 0, .int 0, []), (.goto 4, 3, 19, 0, .null, [])] := rfl
theorem bk_JI_compare_18 : vx_bk tb_JI_compare 18 = [(.iconst 1, 1, 0, 0, .int 1, [])] := rfl
theorem bk_JI_compare_19 : vx_bk tb_JI_compare 19 = [(.ireturn, 1, 0, 0, .null, [])] := rfl
abbrev m_JI_compare : Nat := 53
set_option maxRecDepth 100000 in
theorem ck_JI_compare : vx_ckM prog_10_method_40_code 9 2 0 false (some .int) tb_JI_compare = true := by decide +kernel
theorem ok_JI_compare {As : List Value} {sz : Nat} {h : vx_H} {P : Option Value → vx_H → Prop} (L0 : vx_L) (hlen : (vx_ar As).length ≤ 2) (hL0 : vx_ar As ++ List.replicate (2 - (vx_ar As).length) none = L0)
    (body : ∀ (lim z : vx_Z) X, vx_cl0 none lim tb_JI_compare (fun r z' h' => z' = z ∧ P r h') X → X 0 L0 [] z h) : vx_Ok m_JI_compare As sz h P :=
  vx_ok0 (M := (⟨"java/lang/Integer", "compare", "(II)I"⟩, prog_10_method_40_code, 2, (some .int), 0, 0, 0, 2, 1)) rfl (ow := 9) rfl ck_JI_compare rfl hlen hL0 body
def kb_Wk_gapAt_0 : List vx_I := [(.iload_n 2, 1, 2, 0, .null, []), (.aload_n 0, 1, 0, 0, .null, []), (.getfield 28, 3, 4, 5, .null, []), (.invokestatic 103, 3, 0, 0, .long 0, []), (.iconst 1, 1, 0, 0, .int 1, []), (.iadd, 1, 0, 0, .null, []), (.iconst 5, 1, 0, 0, .int 5, []), (.imul, 1, 0, 0, .null, []), (.iload_n 1, 1, 1, 0, .null, []), (.iadd, 1, 0, 0, .null, []), (.istore_n 3, 1, 3, 0, .null, []), (.iload_n 3, 1, 3, 0, .null, []), (.ifCond .lt 21, 3, 37, 0, .null, []), (.iload_n 3, 1, 3, 0, .null, []), (.aload_n 0, 1, 0, 0, .null, []), (.getfield 9, 3, 4, 0, .null, []), (.arraylength, 1, 0, 0, .null, []), (.if_icmp .ge 12, 3, 37, 0, .null, []), (.aload_n 0, 1, 0, 0, .null, []), (.getfield 9, 3, 4, 0, .null, []), (.iload_n 3, 1, 3, 0, .null, []), (.iaload, 1, 0, 0, .null, []), (.goto 4, 3, 38, 0, .null, [])]
def kb_Wk_gapAt_37 : List vx_I := [(.iconst 0, 1, 0, 0, .int 0, [])]
def kb_Wk_gapAt_38 : List vx_I := [(.ireturn, 1, 0, 0, .null, [])]
def tb_Wk_gapAt : List (Nat × List vx_I) := [(0, kb_Wk_gapAt_0), (37, kb_Wk_gapAt_37), (38, kb_Wk_gapAt_38)]
theorem bk_Wk_gapAt_0 : vx_bk tb_Wk_gapAt 0 = [(.iload_n 2, 1, 2, 0, .null, []), (.aload_n 0, 1, 0, 0, .null, []), (.getfield 28, 3, 4, 5, .null, []), (.invokestatic 103, 3, 0, 0, .long 0, []), (.iconst 1, 1, 0, 0, .int 1, []), (.iadd, 1, 0, 0, .null, []), (.iconst 5, 1, 0, 0, .int 5, []), (.imul, 1, 0, 0, .null, []), (.iload_n 1, 1, 1, 0, .null, []), (.iadd, 1, 0, 0, .null, []), (.istore_n 3, 1, 3, 0, .null, []), (.iload_n 3, 1, 3, 0, .null, []), (.ifCond .lt 21, 3, 37, 0, .null, []), (.iload_n 3, 1, 3, 0, .null, []), (.aload_n 0, 1, 0, 0, .null, []), (.getfield 9, 3, 4, 0, .null, []), (.arraylength, 1, 0, 0, .null, []), (.if_icmp .ge 12, 3, 37, 0, .null, []), (.aload_n 0, 1, 0, 0, .null, []), (.getfield 9, 3, 4, 0, .null, []), (.iload_n 3, 1, 3, 0, .null, []), (.iaload, 1, 0, 0, .null, []), (.goto 4, 3, 38, 0, .null, [])] := rfl
theorem bk_Wk_gapAt_37 : vx_bk tb_Wk_gapAt 37 = [(.iconst 0, 1, 0, 0, .int 0, [])] := rfl
theorem bk_Wk_gapAt_38 : vx_bk tb_Wk_gapAt 38 = [(.ireturn, 1, 0, 0, .null, [])] := rfl
abbrev m_Wk_gapAt : Nat := 54
set_option maxRecDepth 100000 in
theorem ck_Wk_gapAt : vx_ckM prog_6_method_8_code 4 4 1 false (some .int) tb_Wk_gapAt = true := by decide +kernel
theorem ok_Wk_gapAt {As : List Value} {sz : Nat} {h : vx_H} {P : Option Value → vx_H → Prop} (L0 : vx_L) (hlen : (vx_ar As).length ≤ 4) (hL0 : vx_ar As ++ List.replicate (4 - (vx_ar As).length) none = L0)
    (body : ∀ (lim z : vx_Z) X, vx_cl0 none lim tb_Wk_gapAt (fun r z' h' => z' = z ∧ P r h') X → X 0 L0 [] z h) : vx_Ok m_Wk_gapAt As sz h P :=
  vx_ok0 (M := (⟨"VoteWalls$Weeks", "gapAt", "(II)I"⟩, prog_6_method_8_code, 4, (some .int), 1, 0, 0, 2, 0)) rfl (ow := 4) rfl ck_Wk_gapAt rfl hlen hL0 body
def kb_Wk_cellAt_0 : List vx_I := [(.iconst 0, 1, 0, 0, .int 0, []), (.istore_n 3, 1, 3, 0, .null, []), (.iconst 0, 1, 0, 0, .int 0, []), (.istore 4, 2, 4, 0, .null, [])]
def kb_Wk_cellAt_5 : List vx_I := [(.iload 4, 2, 4, 0, .null, []), (.aload_n 0, 1, 0, 0, .null, []), (.getfield 21, 3, 4, 3, .null, []), (.if_icmp .ge 25, 3, 36, 0, .null, []), (.aload_n 0, 1, 0, 0, .null, []), (.iload 4, 2, 4, 0, .null, []), (.iload_n 2, 1, 2, 0, .null, []), (.invokevirtual 108, 3, 54, 2, .null, [(0, 0), (0, 0), (0, 0), (0, 0)]), (.iload_n 1, 1, 1, 0, .null, []), (.if_icmp .gt 8, 3, 30, 0, .null, []), (.iload 4, 2, 4, 0, .null, []), (.iconst 1, 1, 0, 0, .int 1, []), (.iadd, 1, 0, 0, .null, []), (.istore_n 3, 1, 3, 0, .null, [])]
def kb_Wk_cellAt_30 : List vx_I := [(.iinc 4 1, 3, 4, 0, .int 1, []), (.goto (-28), 3, 5, 0, .null, [])]
def kb_Wk_cellAt_36 : List vx_I := [(.iload_n 3, 1, 3, 0, .null, []), (.ireturn, 1, 0, 0, .null, [])]
def tb_Wk_cellAt : List (Nat × List vx_I) := [(0, kb_Wk_cellAt_0), (5, kb_Wk_cellAt_5), (30, kb_Wk_cellAt_30), (36, kb_Wk_cellAt_36)]
theorem bk_Wk_cellAt_0 : vx_bk tb_Wk_cellAt 0 = [(.iconst 0, 1, 0, 0, .int 0, []), (.istore_n 3, 1, 3, 0, .null, []), (.iconst 0, 1, 0, 0, .int 0, []), (.istore 4, 2, 4, 0, .null, [])] := rfl
theorem bk_Wk_cellAt_5 : vx_bk tb_Wk_cellAt 5 = [(.iload 4, 2, 4, 0, .null, []), (.aload_n 0, 1, 0, 0, .null, []), (.getfield 21, 3, 4, 3, .null, []), (.if_icmp .ge 25, 3, 36, 0, .null, []), (.aload_n 0, 1, 0, 0, .null, []), (.iload 4, 2, 4, 0, .null, []), (.iload_n 2, 1, 2, 0, .null, []), (.invokevirtual 108, 3, 54, 2, .null, [(0, 0), (0, 0), (0, 0), (0, 0)]), (.iload_n 1, 1, 1, 0, .null, []), (.if_icmp .gt 8, 3, 30, 0, .null, []), (.iload 4, 2, 4, 0, .null, []), (.iconst 1, 1, 0, 0, .int 1, []), (.iadd, 1, 0, 0, .null, []), (.istore_n 3, 1, 3, 0, .null, [])] := rfl
theorem bk_Wk_cellAt_30 : vx_bk tb_Wk_cellAt 30 = [(.iinc 4 1, 3, 4, 0, .int 1, []), (.goto (-28), 3, 5, 0, .null, [])] := rfl
theorem bk_Wk_cellAt_36 : vx_bk tb_Wk_cellAt 36 = [(.iload_n 3, 1, 3, 0, .null, []), (.ireturn, 1, 0, 0, .null, [])] := rfl
abbrev m_Wk_cellAt : Nat := 57
set_option maxRecDepth 100000 in
theorem ck_Wk_cellAt : vx_ckM prog_6_method_9_code 4 5 2 false (some .int) tb_Wk_cellAt = true := by decide +kernel
theorem ok_Wk_cellAt {As : List Value} {sz : Nat} {h : vx_H} {P : Option Value → vx_H → Prop} (L0 : vx_L) (hlen : (vx_ar As).length ≤ 5) (hL0 : vx_ar As ++ List.replicate (5 - (vx_ar As).length) none = L0)
    (body : ∀ (lim z : vx_Z) X, vx_cl0 none lim tb_Wk_cellAt (fun r z' h' => z' = z ∧ P r h') X → X 0 L0 [] z h) : vx_Ok m_Wk_cellAt As sz h P :=
  vx_ok0 (M := (⟨"VoteWalls$Weeks", "cellAt", "(II)I"⟩, prog_6_method_9_code, 5, (some .int), 2, 0, 0, 2, 0)) rfl (ow := 4) rfl ck_Wk_cellAt rfl hlen hL0 body
def kb_Wk_widthAt_0 : List vx_I := [(.iload_n 1, 1, 1, 0, .null, []), (.ifCond .ne 7, 3, 8, 0, .null, []), (.iconst 0, 1, 0, 0, .int 0, []), (.goto 11, 3, 16, 0, .null, [])]
def kb_Wk_widthAt_8 : List vx_I := [(.aload_n 0, 1, 0, 0, .null, []), (.iload_n 1, 1, 1, 0, .null, []), (.iconst 1, 1, 0, 0, .int 1, []), (.isub, 1, 0, 0, .null, []), (.iload_n 2, 1, 2, 0, .null, []), (.invokevirtual 108, 3, 54, 2, .null, [(0, 0), (0, 0), (0, 0), (0, 0)])]
def kb_Wk_widthAt_16 : List vx_I := [(.istore_n 3, 1, 3, 0, .null, []), (.iload_n 1, 1, 1, 0, .null, []), (.aload_n 0, 1, 0, 0, .null, []), (.getfield 21, 3, 4, 3, .null, []), (.if_icmp .ne 10, 3, 32, 0, .null, []), (.aload_n 0, 1, 0, 0, .null, []), (.getfield 25, 3, 4, 4, .null, []), (.goto 9, 3, 38, 0, .null, [])]
def kb_Wk_widthAt_32 : List vx_I := [(.aload_n 0, 1, 0, 0, .null, []), (.iload_n 1, 1, 1, 0, .null, []), (.iload_n 2, 1, 2, 0, .null, []), (.invokevirtual 108, 3, 54, 2, .null, [(0, 0), (0, 0), (0, 0), (0, 0)])]
def kb_Wk_widthAt_38 : List vx_I := [(.istore 4, 2, 4, 0, .null, []), (.iload 4, 2, 4, 0, .null, []), (.iload_n 3, 1, 3, 0, .null, []), (.isub, 1, 0, 0, .null, []), (.ireturn, 1, 0, 0, .null, [])]
def tb_Wk_widthAt : List (Nat × List vx_I) := [(0, kb_Wk_widthAt_0), (8, kb_Wk_widthAt_8), (16, kb_Wk_widthAt_16), (32, kb_Wk_widthAt_32), (38, kb_Wk_widthAt_38)]
theorem bk_Wk_widthAt_0 : vx_bk tb_Wk_widthAt 0 = [(.iload_n 1, 1, 1, 0, .null, []), (.ifCond .ne 7, 3, 8, 0, .null, []), (.iconst 0, 1, 0, 0, .int 0, []), (.goto 11, 3, 16, 0, .null, [])] := rfl
theorem bk_Wk_widthAt_8 : vx_bk tb_Wk_widthAt 8 = [(.aload_n 0, 1, 0, 0, .null, []), (.iload_n 1, 1, 1, 0, .null, []), (.iconst 1, 1, 0, 0, .int 1, []), (.isub, 1, 0, 0, .null, []), (.iload_n 2, 1, 2, 0, .null, []), (.invokevirtual 108, 3, 54, 2, .null, [(0, 0), (0, 0), (0, 0), (0, 0)])] := rfl
theorem bk_Wk_widthAt_16 : vx_bk tb_Wk_widthAt 16 = [(.istore_n 3, 1, 3, 0, .null, []), (.iload_n 1, 1, 1, 0, .null, []), (.aload_n 0, 1, 0, 0, .null, []), (.getfield 21, 3, 4, 3, .null, []), (.if_icmp .ne 10, 3, 32, 0, .null, []), (.aload_n 0, 1, 0, 0, .null, []), (.getfield 25, 3, 4, 4, .null, []), (.goto 9, 3, 38, 0, .null, [])] := rfl
theorem bk_Wk_widthAt_32 : vx_bk tb_Wk_widthAt 32 = [(.aload_n 0, 1, 0, 0, .null, []), (.iload_n 1, 1, 1, 0, .null, []), (.iload_n 2, 1, 2, 0, .null, []), (.invokevirtual 108, 3, 54, 2, .null, [(0, 0), (0, 0), (0, 0), (0, 0)])] := rfl
theorem bk_Wk_widthAt_38 : vx_bk tb_Wk_widthAt 38 = [(.istore 4, 2, 4, 0, .null, []), (.iload 4, 2, 4, 0, .null, []), (.iload_n 3, 1, 3, 0, .null, []), (.isub, 1, 0, 0, .null, []), (.ireturn, 1, 0, 0, .null, [])] := rfl
abbrev m_Wk_widthAt : Nat := 60
set_option maxRecDepth 100000 in
theorem ck_Wk_widthAt : vx_ckM prog_6_method_10_code 4 5 2 false (some .int) tb_Wk_widthAt = true := by decide +kernel
theorem ok_Wk_widthAt {As : List Value} {sz : Nat} {h : vx_H} {P : Option Value → vx_H → Prop} (L0 : vx_L) (hlen : (vx_ar As).length ≤ 5) (hL0 : vx_ar As ++ List.replicate (5 - (vx_ar As).length) none = L0)
    (body : ∀ (lim z : vx_Z) X, vx_cl0 none lim tb_Wk_widthAt (fun r z' h' => z' = z ∧ P r h') X → X 0 L0 [] z h) : vx_Ok m_Wk_widthAt As sz h P :=
  vx_ok0 (M := (⟨"VoteWalls$Weeks", "widthAt", "(II)I"⟩, prog_6_method_10_code, 5, (some .int), 2, 0, 0, 2, 0)) rfl (ow := 4) rfl ck_Wk_widthAt rfl hlen hL0 body
def kb_JI_bitCount_0 : List vx_I := [(.iload_n 0, 1, 0, 0, .null, []), (.iload_n 0, 1, 0, 0, .null, []), (.iconst 1, 1, 0, 0, .int 1, []), (.iushr, 1, 0, 0, .null, []), (.ldc_w 265, 3, 0, 0, .int (1431655765), []), (.iand, 1, 0, 0, .null, []), (.isub, 1, 0, 0, .null, []), (.istore_n 0, 1, 0, 0, .null, []), (.iload_n 0, 1, 0, 0, .null, []), (.ldc_w 266, 3, 0, 0, .int (858993459), []), (.iand, 1, 0, 0, .null, []), (.iload_n 0, 1, 0, 0, .null, []), (.iconst 2, 1, 0, 0, .int 2, []), (.iushr, 1, 0, 0, .null, []), (.ldc_w 266, 3, 0, 0, .int (858993459), []), (.iand, 1, 0, 0, .null, []), (.iadd, 1, 0, 0, .null, []), (.istore_n 0, 1, 0, 0, .null, []), (.iload_n 0, 1, 0, 0, .null, []), (.iload_n 0, 1, 0, 0, .null, []), (.iconst 4, 1, 0, 0, .int 4, []), (.iushr, 1, 0, 0, .null, []), (.iadd, 1, 0, 0, .null, []), (.ldc_w 267, 3, 0, 0, .int (252645135), []), (.iand, 1, 0, 0, .null, []), (.istore_n 0, 1, 0, 0, .null, []), (.iload_n 0, 1, 0, 0, .null, []), (.iload_n 0, 1, 0, 0, .null, []), (.bipush 8, 2, 0, 0, .int 8, []), (.iushr, 1, 0, 0, .null, []), (.iadd, 1, 0, 0, .null, []), (.istore_n 0, 1, 0, 0, .null, []), (.iload_n 0, 1, 0, 0, .null, []), (.iload_n 0, 1, 0, 0, .null, []), (.bipush 16, 2, 0, 0, .int 16, []), (.iushr, 1, 0, 0, .null, []), (.iadd, 1, 0, 0, .null, []), (.istore_n 0, 1, 0, 0, .null, []), (.iload_n 0, 1, 0, 0, .null, []), (.bipush 63, 2, 0, 0, .int 63, []), (.iand, 1, 0, 0, .null, []), (.ireturn, 1, 0, 0, .null, [])]
def tb_JI_bitCount : List (Nat × List vx_I) := [(0, kb_JI_bitCount_0)]
theorem bk_JI_bitCount_0 : vx_bk tb_JI_bitCount 0 = [(.iload_n 0, 1, 0, 0, .null, []), (.iload_n 0, 1, 0, 0, .null, []), (.iconst 1, 1, 0, 0, .int 1, []), (.iushr, 1, 0, 0, .null, []), (.ldc_w 265, 3, 0, 0, .int (1431655765), []), (.iand, 1, 0, 0, .null, []), (.isub, 1, 0, 0, .null, []), (.istore_n 0, 1, 0, 0, .null, []), (.iload_n 0, 1, 0, 0, .null, []), (.ldc_w 266, 3, 0, 0, .int (858993459), []), (.iand, 1, 0, 0, .null, []), (.iload_n 0, 1, 0, 0, .null, []), (.iconst 2, 1, 0, 0, .int 2, []), (.iushr, 1, 0, 0, .null, []), (.ldc_w 266, 3, 0, 0, .int (858993459), []), (.iand, 1, 0, 0, .null, []), (.iadd, 1, 0, 0, .null, []), (.istore_n 0, 1, 0, 0, .null, []), (.iload_n 0, 1, 0, 0, .null, []), (.iload_n 0, 1, 0, 0, .null, []), (.iconst 4, 1, 0, 0, .int 4, []), (.iushr, 1, 0, 0, .null, []), (.iadd, 1, 0, 0, .null, []), (.ldc_w 267, 3, 0, 0, .int (252645135), []), (.iand, 1, 0, 0, .null, []), (.istore_n 0, 1, 0, 0, .null, []), (.iload_n 0, 1, 0, 0, .null, []), (.iload_n 0, 1, 0, 0, .null, []), (.bipush 8, 2, 0, 0, .int 8, []), (.iushr, 1, 0, 0, .null, []), (.iadd, 1, 0, 0, .null, []), (.istore_n 0, 1, 0, 0, .null, []), (.iload_n 0, 1, 0, 0, .null, []), (.iload_n 0, 1, 0, 0, .null, []), (.bipush 16, 2, 0, 0, .int 16, []), (.iushr, 1, 0, 0, .null, []), (.iadd, 1, 0, 0, .null, []), (.istore_n 0, 1, 0, 0, .null, []), (.iload_n 0, 1, 0, 0, .null, []), (.bipush 63, 2, 0, 0, .int 63, []), (.iand, 1, 0, 0, .null, []), (.ireturn, 1, 0, 0, .null, [])] := rfl
abbrev m_JI_bitCount : Nat := 68
set_option maxRecDepth 100000 in
theorem ck_JI_bitCount : vx_ckM prog_10_method_49_code 9 1 0 false (some .int) tb_JI_bitCount = true := by decide +kernel
theorem ok_JI_bitCount {As : List Value} {sz : Nat} {h : vx_H} {P : Option Value → vx_H → Prop} (L0 : vx_L) (hlen : (vx_ar As).length ≤ 1) (hL0 : vx_ar As ++ List.replicate (1 - (vx_ar As).length) none = L0)
    (body : ∀ (lim z : vx_Z) X, vx_cl0 none lim tb_JI_bitCount (fun r z' h' => z' = z ∧ P r h') X → X 0 L0 [] z h) : vx_Ok m_JI_bitCount As sz h P :=
  vx_ok0 (M := (⟨"java/lang/Integer", "bitCount", "(I)I"⟩, prog_10_method_49_code, 1, (some .int), 0, 0, 0, 1, 1)) rfl (ow := 9) rfl ck_JI_bitCount rfl hlen hL0 body
def kb_Sh_renew_0 : List vx_I := [(.aload_n 0, 1, 0, 0, .null, []), (.getfield 9, 3, 1, 0, .null, []), (.iconst 0, 1, 0, 0, .int 0, []), (.invokestatic 22, 3, 27, 2, .null, []), (.aload_n 0, 1, 0, 0, .null, []), (.iload_n 1, 1, 1, 0, .null, []), (.putfield 15, 3, 1, 1, .int 0, []), (.aload_n 0, 1, 0, 0, .null, []), (.iload_n 2, 1, 2, 0, .null, []), (.putfield 19, 3, 1, 2, .int 0, []), (.return_, 1, 0, 0, .null, [])]
def tb_Sh_renew : List (Nat × List vx_I) := [(0, kb_Sh_renew_0)]
theorem bk_Sh_renew_0 : vx_bk tb_Sh_renew 0 = [(.aload_n 0, 1, 0, 0, .null, []), (.getfield 9, 3, 1, 0, .null, []), (.iconst 0, 1, 0, 0, .int 0, []), (.invokestatic 22, 3, 27, 2, .null, []), (.aload_n 0, 1, 0, 0, .null, []), (.iload_n 1, 1, 1, 0, .null, []), (.putfield 15, 3, 1, 1, .int 0, []), (.aload_n 0, 1, 0, 0, .null, []), (.iload_n 2, 1, 2, 0, .null, []), (.putfield 19, 3, 1, 2, .int 0, []), (.return_, 1, 0, 0, .null, [])] := rfl
abbrev m_Sh_renew : Nat := 85
set_option maxRecDepth 100000 in
theorem ck_Sh_renew : vx_ckM prog_3_method_2_code 1 3 1 false none tb_Sh_renew = true := by decide +kernel
theorem ok_Sh_renew {As : List Value} {sz : Nat} {h : vx_H} {P : Option Value → vx_H → Prop} (L0 : vx_L) (hlen : (vx_ar As).length ≤ 3) (hL0 : vx_ar As ++ List.replicate (3 - (vx_ar As).length) none = L0)
    (body : ∀ (lim z : vx_Z) X, vx_cl0 none lim tb_Sh_renew (fun r z' h' => z' = z ∧ P r h') X → X 0 L0 [] z h) : vx_Ok m_Sh_renew As sz h P :=
  vx_ok0 (M := (⟨"VoteWalls$Sheet", "renew", "(II)V"⟩, prog_3_method_2_code, 3, none, 1, 0, 0, 2, 0)) rfl (ow := 1) rfl ck_Sh_renew rfl hlen hL0 body
def kb_Sh_setNumber_0 : List vx_I := [(.iload_n 1, 1, 1, 0, .null, []), (.ifCond .lt 22, 3, 23, 0, .null, []), (.iload_n 1, 1, 1, 0, .null, []), (.aload_n 0, 1, 0, 0, .null, []), (.getfield 19, 3, 1, 2, .null, []), (.if_icmp .ge 14, 3, 23, 0, .null, []), (.aload_n 0, 1, 0, 0, .null, []), (.getfield 9, 3, 1, 0, .null, []), (.iload_n 1, 1, 1, 0, .null, []), (.aload_n 0, 1, 0, 0, .null, []), (.iload_n 2, 1, 2, 0, .null, []), (.invokevirtual 32, 3, 89, 1, .null, [(0, 0)]), (.iastore, 1, 0, 0, .null, [])]
def kb_Sh_setNumber_23 : List vx_I := [(.return_, 1, 0, 0, .null, [])]
def tb_Sh_setNumber : List (Nat × List vx_I) := [(0, kb_Sh_setNumber_0), (23, kb_Sh_setNumber_23)]
theorem bk_Sh_setNumber_0 : vx_bk tb_Sh_setNumber 0 = [(.iload_n 1, 1, 1, 0, .null, []), (.ifCond .lt 22, 3, 23, 0, .null, []), (.iload_n 1, 1, 1, 0, .null, []), (.aload_n 0, 1, 0, 0, .null, []), (.getfield 19, 3, 1, 2, .null, []), (.if_icmp .ge 14, 3, 23, 0, .null, []), (.aload_n 0, 1, 0, 0, .null, []), (.getfield 9, 3, 1, 0, .null, []), (.iload_n 1, 1, 1, 0, .null, []), (.aload_n 0, 1, 0, 0, .null, []), (.iload_n 2, 1, 2, 0, .null, []), (.invokevirtual 32, 3, 89, 1, .null, [(0, 0)]), (.iastore, 1, 0, 0, .null, [])] := rfl
theorem bk_Sh_setNumber_23 : vx_bk tb_Sh_setNumber 23 = [(.return_, 1, 0, 0, .null, [])] := rfl
abbrev m_Sh_setNumber : Nat := 88
set_option maxRecDepth 100000 in
theorem ck_Sh_setNumber : vx_ckM prog_3_method_6_code 1 3 1 false none tb_Sh_setNumber = true := by decide +kernel
theorem ok_Sh_setNumber {As : List Value} {sz : Nat} {h : vx_H} {P : Option Value → vx_H → Prop} (L0 : vx_L) (hlen : (vx_ar As).length ≤ 3) (hL0 : vx_ar As ++ List.replicate (3 - (vx_ar As).length) none = L0)
    (body : ∀ (lim z : vx_Z) X, vx_cl0 none lim tb_Sh_setNumber (fun r z' h' => z' = z ∧ P r h') X → X 0 L0 [] z h) : vx_Ok m_Sh_setNumber As sz h P :=
  vx_ok0 (M := (⟨"VoteWalls$Sheet", "setNumber", "(II)V"⟩, prog_3_method_6_code, 3, none, 1, 0, 0, 2, 0)) rfl (ow := 1) rfl ck_Sh_setNumber rfl hlen hL0 body
def kb_Sh_cut_0 : List vx_I := [(.aload_n 0, 1, 0, 0, .null, []), (.getfield 15, 3, 1, 1, .null, []), (.lookupswitch 34 #[(0, 28), (1, 31)], 28, 38, 0, .null, [(0, 32), (1, 35)])]
def kb_Sh_cut_32 : List vx_I := [(.iload_n 1, 1, 1, 0, .null, []), (.i2b, 1, 0, 0, .null, []), (.ireturn, 1, 0, 0, .null, [])]
def kb_Sh_cut_35 : List vx_I := [(.iload_n 1, 1, 1, 0, .null, []), (.i2s, 1, 0, 0, .null, []), (.ireturn, 1, 0, 0, .null, [])]
def kb_Sh_cut_38 : List vx_I := [(.iload_n 1, 1, 1, 0, .null, []), (.ireturn, 1, 0, 0, .null, [])]
def tb_Sh_cut : List (Nat × List vx_I) := [(0, kb_Sh_cut_0), (32, kb_Sh_cut_32), (35, kb_Sh_cut_35), (38, kb_Sh_cut_38)]
theorem bk_Sh_cut_0 : vx_bk tb_Sh_cut 0 = [(.aload_n 0, 1, 0, 0, .null, []), (.getfield 15, 3, 1, 1, .null, []), (.lookupswitch 34 #[(0, 28), (1, 31)], 28, 38, 0, .null, [(0, 32), (1, 35)])] := rfl
theorem bk_Sh_cut_32 : vx_bk tb_Sh_cut 32 = [(.iload_n 1, 1, 1, 0, .null, []), (.i2b, 1, 0, 0, .null, []), (.ireturn, 1, 0, 0, .null, [])] := rfl
theorem bk_Sh_cut_35 : vx_bk tb_Sh_cut 35 = [(.iload_n 1, 1, 1, 0, .null, []), (.i2s, 1, 0, 0, .null, []), (.ireturn, 1, 0, 0, .null, [])] := rfl
theorem bk_Sh_cut_38 : vx_bk tb_Sh_cut 38 = [(.iload_n 1, 1, 1, 0, .null, []), (.ireturn, 1, 0, 0, .null, [])] := rfl
abbrev m_Sh_cut : Nat := 89
set_option maxRecDepth 100000 in
theorem ck_Sh_cut : vx_ckM prog_3_method_7_code 1 2 0 false (some .int) tb_Sh_cut = true := by decide +kernel
theorem ok_Sh_cut {As : List Value} {sz : Nat} {h : vx_H} {P : Option Value → vx_H → Prop} (L0 : vx_L) (hlen : (vx_ar As).length ≤ 2) (hL0 : vx_ar As ++ List.replicate (2 - (vx_ar As).length) none = L0)
    (body : ∀ (lim z : vx_Z) X, vx_cl0 none lim tb_Sh_cut (fun r z' h' => z' = z ∧ P r h') X → X 0 L0 [] z h) : vx_Ok m_Sh_cut As sz h P :=
  vx_ok0 (M := (⟨"VoteWalls$Sheet", "cut", "(I)I"⟩, prog_3_method_7_code, 2, (some .int), 0, 0, 0, 1, 0)) rfl (ow := 1) rfl ck_Sh_cut rfl hlen hL0 body
end
section
/-! blocks, printed by wip/gen.py: of each method its items from every place to which it jumps on -/
def kb_V_init_0 : List vx_I := [(.aload_n 0, 1, 0, 0, .null, []), (.invokespecial 3, 3, 0, 0, .int 0, []), (.aload_n 0, 1, 0, 0, .null, []), (.iconst 4, 1, 0, 0, .int 4, []), (.anewarray 11, 3, 1, 4, .null, []), (.putfield 13, 3, 6, 0, .null, []), (.aload_n 0, 1, 0, 0, .null, []), (.new 17, 3, 2, 4, .null, []), (.dup, 1, 0, 0, .null, []), (.invokespecial 19, 3, 1, 0, .null, [(0, 0), (0, 0)]), (.putfield 20, 3, 6, 1, .null, []), (.aload_n 0, 1, 0, 0, .null, []), (.new 24, 3, 3, 5, .null, []), (.dup, 1, 0, 0, .null, []), (.bipush 6, 2, 0, 0, .int 6, []), (.invokespecial 26, 3, 2, 1, .null, [(0, 3), (0, 24)]), (.putfield 29, 3, 6, 2, .null, []), (.aload_n 0, 1, 0, 0, .null, []), (.new 24, 3, 3, 5, .null, []), (.dup, 1, 0, 0, .null, []), (.bipush 6, 2, 0, 0, .int 6, []), (.invokespecial 26, 3, 2, 1, .null, [(0, 3), (0, 24)]), (.putfield 33, 3, 6, 3, .null, []), (.aload_n 0, 1, 0, 0, .null, []), (.new 24, 3, 3, 5, .null, []), (.dup, 1, 0, 0, .null, []), (.bipush 8, 2, 0, 0, .int 8, []), (.invokespecial 26, 3, 2, 1, .null, [(0, 3), (0, 24)]), (.putfield 36, 3, 6, 4, .null, []), (.aload_n 0, 1, 0, 0, .null, []), (.new 39, 3, 0, 3, .null, []), (.dup, 1, 0, 0, .null, []), (.invokespecial 41, 3, 3, 0, .null, [(0, 2), (0, 100)]), (.putfield 42, 3, 6, 5, .null, []), (.aload_n 0, 1, 0, 0, .null, []), (.new 46, 3, 4, 7, .null, []), (.dup, 1, 0, 0, .null, []), (.invokespecial 48, 3, 4, 0, .null, [(0, 3), (0, 291)]), (.putfield 49, 3, 6, 6, .null, []), (.aload_n 0, 1, 0, 0, .null, []), (.new 53, 3, 5, 6, .null, []), (.dup, 1, 0, 0, .null, []), (.invokespecial 55, 3, 5, 0, .null, [(0, 3), (0, 21)]), (.putfield 56, 3, 6, 7, .null, []), (.aload_n 0, 1, 0, 0, .null, []), (.new 53, 3, 5, 6, .null, []), (.dup, 1, 0, 0, .null, []), (.invokespecial 55, 3, 5, 0, .null, [(0, 3), (0, 21)]), (.putfield 60, 3, 6, 8, .null, []), (.aload_n 0, 1, 0, 0, .null, []), (.iconst 0, 1, 0, 0, .int 0, []), (.putfield 63, 3, 6, 9, .int 0, []), (.aload_n 0, 1, 0, 0, .null, []), (.iconst 0, 1, 0, 0, .int 0, []), (.putfield 67, 3, 6, 10, .int 0, []), (.aload_n 0, 1, 0, 0, .null, []), (.iconst 0, 1, 0, 0, .int 0, []), (.putfield 70, 3, 6, 11, .int 0, []), (.iconst 0, 1, 0, 0, .int 0, []), (.istore_n 1, 1, 1, 0, .null, [])]
def kb_V_init_123 : List vx_I := [(.iload_n 1, 1, 1, 0, .null, []), (.iconst 4, 1, 0, 0, .int 4, []), (.if_icmp .ge 22, 3, 147, 0, .null, []), (.aload_n 0, 1, 0, 0, .null, []), (.getfield 13, 3, 6, 0, .null, []), (.iload_n 1, 1, 1, 0, .null, []), (.new 11, 3, 1, 3, .null, []), (.dup, 1, 0, 0, .null, []), (.invokespecial 73, 3, 6, 0, .null, [(0, 1), (0, 60)]), (.aastore, 1, 0, 0, .null, []), (.iinc 1 1, 3, 1, 0, .int 1, []), (.goto (-21), 3, 123, 0, .null, [])]
def kb_V_init_147 : List vx_I := [(.return_, 1, 0, 0, .null, [])]
def tb_V_init : List (Nat × List vx_I) := [(0, kb_V_init_0), (123, kb_V_init_123), (147, kb_V_init_147)]
theorem bk_V_init_0 : vx_bk tb_V_init 0 = [(.aload_n 0, 1, 0, 0, .null, []), (.invokespecial 3, 3, 0, 0, .int 0, []), (.aload_n 0, 1, 0, 0, .null, []), (.iconst 4, 1, 0, 0, .int 4, []), (.anewarray 11, 3, 1, 4, .null, []), (.putfield 13, 3, 6, 0, .null, []), (.aload_n 0, 1, 0, 0, .null, []), (.new 17, 3, 2, 4, .null, []), (.dup, 1, 0, 0, .null, []), (.invokespecial 19, 3, 1, 0, .null, [(0, 0), (0, 0)]), (.putfield 20, 3, 6, 1, .null, []), (.aload_n 0, 1, 0, 0, .null, []), (.new 24, 3, 3, 5, .null, []), (.dup, 1, 0, 0, .null, []), (.bipush 6, 2, 0, 0, .int 6, []), (.invokespecial 26, 3, 2, 1, .null, [(0, 3), (0, 24)]), (.putfield 29, 3, 6, 2, .null, []), (.aload_n 0, 1, 0, 0, .null, []), (.new 24, 3, 3, 5, .null, []), (.dup, 1, 0, 0, .null, []), (.bipush 6, 2, 0, 0, .int 6, []), (.invokespecial 26, 3, 2, 1, .null, [(0, 3), (0, 24)]), (.putfield 33, 3, 6, 3, .null, []), (.aload_n 0, 1, 0, 0, .null, []), (.new 24, 3, 3, 5, .null, []), (.dup, 1, 0, 0, .null, []), (.bipush 8, 2, 0, 0, .int 8, []), (.invokespecial 26, 3, 2, 1, .null, [(0, 3), (0, 24)]), (.putfield 36, 3, 6, 4, .null, []), (.aload_n 0, 1, 0, 0, .null, []), (.new 39, 3, 0, 3, .null, []), (.dup, 1, 0, 0, .null, []), (.invokespecial 41, 3, 3, 0, .null, [(0, 2), (0, 100)]), (.putfield 42, 3, 6, 5, .null, []), (.aload_n 0, 1, 0, 0, .null, []), (.new 46, 3, 4, 7, .null, []), (.dup, 1, 0, 0, .null, []), (.invokespecial 48, 3, 4, 0, .null, [(0, 3), (0, 291)]), (.putfield 49, 3, 6, 6, .null, []), (.aload_n 0, 1, 0, 0, .null, []), (.new 53, 3, 5, 6, .null, []), (.dup, 1, 0, 0, .null, []), (.invokespecial 55, 3, 5, 0, .null, [(0, 3), (0, 21)]), (.putfield 56, 3, 6, 7, .null, []), (.aload_n 0, 1, 0, 0, .null, []), (.new 53, 3, 5, 6, .null, []), (.dup, 1, 0, 0, .null, []), (.invokespecial 55, 3, 5, 0, .null, [(0, 3), (0, 21)]), (.putfield 60, 3, 6, 8, .null, []), (.aload_n 0, 1, 0, 0, .null, []), (.iconst 0, 1, 0, 0, .int 0, []), (.putfield 63, 3, 6, 9, .int 0, []), (.aload_n 0, 1, 0, 0, .null, []), (.iconst 0, 1, 0, 0, .int 0, []), (.putfield 67, 3, 6, 10, .int 0, []), (.aload_n 0, 1, 0, 0, .null, []), (.iconst 0, 1, 0, 0, .int 0, []), (.putfield 70, 3, 6, 11, .int 0, []), (.iconst 0, 1, 0, 0, .int 0, []), (.istore_n 1, 1, 1, 0, .null, [])] := rfl
theorem bk_V_init_123 : vx_bk tb_V_init 123 = [(.iload_n 1, 1, 1, 0, .null, []), (.iconst 4, 1, 0, 0, .int 4, []), (.if_icmp .ge 22, 3, 147, 0, .null, []), (.aload_n 0, 1, 0, 0, .null, []), (.getfield 13, 3, 6, 0, .null, []), (.iload_n 1, 1, 1, 0, .null, []), (.new 11, 3, 1, 3, .null, []), (.dup, 1, 0, 0, .null, []), (.invokespecial 73, 3, 6, 0, .null, [(0, 1), (0, 60)]), (.aastore, 1, 0, 0, .null, []), (.iinc 1 1, 3, 1, 0, .int 1, []), (.goto (-21), 3, 123, 0, .null, [])] := rfl
theorem bk_V_init_147 : vx_bk tb_V_init 147 = [(.return_, 1, 0, 0, .null, [])] := rfl
abbrev m_V_init : Nat := 0
set_option maxRecDepth 100000 in
theorem ck_V_init : vx_ckM prog_1_method_1_code 6 2 2 true none tb_V_init = true := by decide +kernel
theorem ok_V_init {As : List Value} {sz : Nat} {h : vx_H} {P : Option Value → vx_H → Prop} (L0 : vx_L) (hlen : (vx_ar As).length ≤ 2) (hL0 : vx_ar As ++ List.replicate (2 - (vx_ar As).length) none = L0)
    (body : ∀ X, vx_cl0 none (sz + 37, 802) tb_V_init (fun r z' h' => z'.1 = sz + 37 ∧ P r h') X → X 0 L0 [] (sz, 0) h) : vx_Ok m_V_init As sz h P :=
  vx_ok (M := (⟨"VoteWalls", "<init>", "()V"⟩, prog_1_method_1_code, 2, none, 2, 37, 802, 0, 2)) rfl (ow := 6) rfl ck_V_init hlen hL0 (fun _ _ _ h => h) body
def kb_V_yard_0 : List vx_I := [(.aload_n 0, 1, 0, 0, .null, []), (.iload_n 1, 1, 1, 0, .null, []), (.iload_n 2, 1, 2, 0, .null, []), (.iload_n 3, 1, 3, 0, .null, []), (.iload 4, 2, 4, 0, .null, []), (.invokevirtual 74, 3, 8, 4, .null, [(0, 0), (0, 0), (0, 0), (0, 0), (0, 0), (0, 0)]), (.istore 5, 2, 5, 0, .null, []), (.iload 5, 2, 5, 0, .null, []), (.ifCond .eq 6, 3, 19, 0, .null, []), (.iload 5, 2, 5, 0, .null, []), (.ireturn, 1, 0, 0, .null, [])]
def kb_V_yard_19 : List vx_I := [(.aload_n 0, 1, 0, 0, .null, []), (.getfield 20, 3, 6, 1, .null, []), (.aload_n 0, 1, 0, 0, .null, []), (.getfield 13, 3, 6, 0, .null, []), (.iload_n 1, 1, 1, 0, .null, []), (.aaload, 1, 0, 0, .null, []), (.iload_n 3, 1, 3, 0, .null, []), (.iload 4, 2, 4, 0, .null, []), (.aload_n 0, 1, 0, 0, .null, []), (.getfield 60, 3, 6, 8, .null, []), (.invokevirtual 78, 3, 14, 4, .null, [(0, 0), (0, 0)]), (.ifCond .ne 14, 3, 53, 0, .null, []), (.bipush (-100), 2, 0, 0, .int (-100), []), (.aload_n 0, 1, 0, 0, .null, []), (.getfield 20, 3, 6, 1, .null, []), (.getfield 82, 3, 2, 3, .null, []), (.isub, 1, 0, 0, .null, []), (.ireturn, 1, 0, 0, .null, [])]
def kb_V_yard_53 : List vx_I := [(.aload_n 0, 1, 0, 0, .null, []), (.getfield 56, 3, 6, 7, .null, []), (.astore 6, 2, 6, 0, .null, []), (.aload_n 0, 1, 0, 0, .null, []), (.aload_n 0, 1, 0, 0, .null, []), (.getfield 60, 3, 6, 8, .null, []), (.putfield 56, 3, 6, 7, .null, []), (.aload_n 0, 1, 0, 0, .null, []), (.aload 6, 2, 6, 0, .null, []), (.putfield 60, 3, 6, 8, .null, []), (.aload_n 0, 1, 0, 0, .null, []), (.invokevirtual 85, 3, 24, 0, .null, [(0, 0), (0, 0), (0, 0), (0, 0), (0, 0), (0, 0)]), (.aload_n 0, 1, 0, 0, .null, []), (.getfield 56, 3, 6, 7, .null, []), (.getfield 88, 3, 5, 5, .null, []), (.ireturn, 1, 0, 0, .null, [])]
def tb_V_yard : List (Nat × List vx_I) := [(0, kb_V_yard_0), (19, kb_V_yard_19), (53, kb_V_yard_53)]
theorem bk_V_yard_0 : vx_bk tb_V_yard 0 = [(.aload_n 0, 1, 0, 0, .null, []), (.iload_n 1, 1, 1, 0, .null, []), (.iload_n 2, 1, 2, 0, .null, []), (.iload_n 3, 1, 3, 0, .null, []), (.iload 4, 2, 4, 0, .null, []), (.invokevirtual 74, 3, 8, 4, .null, [(0, 0), (0, 0), (0, 0), (0, 0), (0, 0), (0, 0)]), (.istore 5, 2, 5, 0, .null, []), (.iload 5, 2, 5, 0, .null, []), (.ifCond .eq 6, 3, 19, 0, .null, []), (.iload 5, 2, 5, 0, .null, []), (.ireturn, 1, 0, 0, .null, [])] := rfl
theorem bk_V_yard_19 : vx_bk tb_V_yard 19 = [(.aload_n 0, 1, 0, 0, .null, []), (.getfield 20, 3, 6, 1, .null, []), (.aload_n 0, 1, 0, 0, .null, []), (.getfield 13, 3, 6, 0, .null, []), (.iload_n 1, 1, 1, 0, .null, []), (.aaload, 1, 0, 0, .null, []), (.iload_n 3, 1, 3, 0, .null, []), (.iload 4, 2, 4, 0, .null, []), (.aload_n 0, 1, 0, 0, .null, []), (.getfield 60, 3, 6, 8, .null, []), (.invokevirtual 78, 3, 14, 4, .null, [(0, 0), (0, 0)]), (.ifCond .ne 14, 3, 53, 0, .null, []), (.bipush (-100), 2, 0, 0, .int (-100), []), (.aload_n 0, 1, 0, 0, .null, []), (.getfield 20, 3, 6, 1, .null, []), (.getfield 82, 3, 2, 3, .null, []), (.isub, 1, 0, 0, .null, []), (.ireturn, 1, 0, 0, .null, [])] := rfl
theorem bk_V_yard_53 : vx_bk tb_V_yard 53 = [(.aload_n 0, 1, 0, 0, .null, []), (.getfield 56, 3, 6, 7, .null, []), (.astore 6, 2, 6, 0, .null, []), (.aload_n 0, 1, 0, 0, .null, []), (.aload_n 0, 1, 0, 0, .null, []), (.getfield 60, 3, 6, 8, .null, []), (.putfield 56, 3, 6, 7, .null, []), (.aload_n 0, 1, 0, 0, .null, []), (.aload 6, 2, 6, 0, .null, []), (.putfield 60, 3, 6, 8, .null, []), (.aload_n 0, 1, 0, 0, .null, []), (.invokevirtual 85, 3, 24, 0, .null, [(0, 0), (0, 0), (0, 0), (0, 0), (0, 0), (0, 0)]), (.aload_n 0, 1, 0, 0, .null, []), (.getfield 56, 3, 6, 7, .null, []), (.getfield 88, 3, 5, 5, .null, []), (.ireturn, 1, 0, 0, .null, [])] := rfl
abbrev m_V_yard : Nat := 7
set_option maxRecDepth 100000 in
theorem ck_V_yard : vx_ckM prog_1_method_2_code 6 7 6 false (some .int) tb_V_yard = true := by decide +kernel
theorem ok_V_yard {As : List Value} {sz : Nat} {h : vx_H} {P : Option Value → vx_H → Prop} (L0 : vx_L) (hlen : (vx_ar As).length ≤ 7) (hL0 : vx_ar As ++ List.replicate (7 - (vx_ar As).length) none = L0)
    (body : ∀ (lim z : vx_Z) X, vx_cl0 none lim tb_V_yard (fun r z' h' => z' = z ∧ P r h') X → X 0 L0 [] z h) : vx_Ok m_V_yard As sz h P :=
  vx_ok0 (M := (⟨"VoteWalls", "yard", "(IIII)I"⟩, prog_1_method_2_code, 7, (some .int), 6, 0, 0, 4, 0)) rfl (ow := 6) rfl ck_V_yard rfl hlen hL0 body
def kb_V_refusalOfCells_0 : List vx_I := [(.aload_n 0, 1, 0, 0, .null, []), (.iconst 0, 1, 0, 0, .int 0, []), (.putfield 70, 3, 6, 11, .int 0, []), (.iload_n 1, 1, 1, 0, .null, []), (.invokestatic 197, 3, 9, 1, .null, []), (.ifCond .ne 5, 3, 14, 0, .null, []), (.iconst (-1), 1, 0, 0, .int (-1), []), (.ireturn, 1, 0, 0, .null, [])]
def kb_V_refusalOfCells_14 : List vx_I := [(.iload_n 2, 1, 2, 0, .null, []), (.invokestatic 200, 3, 10, 1, .null, []), (.ifCond .ne 6, 3, 24, 0, .null, []), (.bipush (-2), 2, 0, 0, .int (-2), []), (.ireturn, 1, 0, 0, .null, [])]
def kb_V_refusalOfCells_24 : List vx_I := [(.aload_n 0, 1, 0, 0, .null, []), (.getfield 13, 3, 6, 0, .null, []), (.iload_n 1, 1, 1, 0, .null, []), (.aaload, 1, 0, 0, .null, []), (.iload_n 2, 1, 2, 0, .null, []), (.iload_n 3, 1, 3, 0, .null, []), (.iload 4, 2, 4, 0, .null, []), (.invokevirtual 219, 3, 11, 3, .null, [(0, 0)]), (.istore 5, 2, 5, 0, .null, []), (.iload 5, 2, 5, 0, .null, []), (.ifCond .ne 7, 3, 48, 0, .null, []), (.iconst 0, 1, 0, 0, .int 0, []), (.goto 9, 3, 54, 0, .null, [])]
def kb_V_refusalOfCells_48 : List vx_I := [(.aload_n 0, 1, 0, 0, .null, []), (.iload 5, 2, 5, 0, .null, []), (.invokevirtual 203, 3, 13, 1, .null, [(0, 0), (0, 0), (0, 0), (0, 0), (0, 0), (0, 0)])]
def kb_V_refusalOfCells_54 : List vx_I := [(.ireturn, 1, 0, 0, .null, [])]
def tb_V_refusalOfCells : List (Nat × List vx_I) := [(0, kb_V_refusalOfCells_0), (14, kb_V_refusalOfCells_14), (24, kb_V_refusalOfCells_24), (48, kb_V_refusalOfCells_48), (54, kb_V_refusalOfCells_54)]
theorem bk_V_refusalOfCells_0 : vx_bk tb_V_refusalOfCells 0 = [(.aload_n 0, 1, 0, 0, .null, []), (.iconst 0, 1, 0, 0, .int 0, []), (.putfield 70, 3, 6, 11, .int 0, []), (.iload_n 1, 1, 1, 0, .null, []), (.invokestatic 197, 3, 9, 1, .null, []), (.ifCond .ne 5, 3, 14, 0, .null, []), (.iconst (-1), 1, 0, 0, .int (-1), []), (.ireturn, 1, 0, 0, .null, [])] := rfl
theorem bk_V_refusalOfCells_14 : vx_bk tb_V_refusalOfCells 14 = [(.iload_n 2, 1, 2, 0, .null, []), (.invokestatic 200, 3, 10, 1, .null, []), (.ifCond .ne 6, 3, 24, 0, .null, []), (.bipush (-2), 2, 0, 0, .int (-2), []), (.ireturn, 1, 0, 0, .null, [])] := rfl
theorem bk_V_refusalOfCells_24 : vx_bk tb_V_refusalOfCells 24 = [(.aload_n 0, 1, 0, 0, .null, []), (.getfield 13, 3, 6, 0, .null, []), (.iload_n 1, 1, 1, 0, .null, []), (.aaload, 1, 0, 0, .null, []), (.iload_n 2, 1, 2, 0, .null, []), (.iload_n 3, 1, 3, 0, .null, []), (.iload 4, 2, 4, 0, .null, []), (.invokevirtual 219, 3, 11, 3, .null, [(0, 0)]), (.istore 5, 2, 5, 0, .null, []), (.iload 5, 2, 5, 0, .null, []), (.ifCond .ne 7, 3, 48, 0, .null, []), (.iconst 0, 1, 0, 0, .int 0, []), (.goto 9, 3, 54, 0, .null, [])] := rfl
theorem bk_V_refusalOfCells_48 : vx_bk tb_V_refusalOfCells 48 = [(.aload_n 0, 1, 0, 0, .null, []), (.iload 5, 2, 5, 0, .null, []), (.invokevirtual 203, 3, 13, 1, .null, [(0, 0), (0, 0), (0, 0), (0, 0), (0, 0), (0, 0)])] := rfl
theorem bk_V_refusalOfCells_54 : vx_bk tb_V_refusalOfCells 54 = [(.ireturn, 1, 0, 0, .null, [])] := rfl
abbrev m_V_refusalOfCells : Nat := 8
set_option maxRecDepth 100000 in
theorem ck_V_refusalOfCells : vx_ckM prog_1_method_51_code 6 6 2 false (some .int) tb_V_refusalOfCells = true := by decide +kernel
theorem ok_V_refusalOfCells {As : List Value} {sz : Nat} {h : vx_H} {P : Option Value → vx_H → Prop} (L0 : vx_L) (hlen : (vx_ar As).length ≤ 6) (hL0 : vx_ar As ++ List.replicate (6 - (vx_ar As).length) none = L0)
    (body : ∀ (lim z : vx_Z) X, vx_cl0 none lim tb_V_refusalOfCells (fun r z' h' => z' = z ∧ P r h') X → X 0 L0 [] z h) : vx_Ok m_V_refusalOfCells As sz h P :=
  vx_ok0 (M := (⟨"VoteWalls", "refusalOfCells", "(IIII)I"⟩, prog_1_method_51_code, 6, (some .int), 2, 0, 0, 4, 0)) rfl (ow := 6) rfl ck_V_refusalOfCells rfl hlen hL0 body
def kb_V_isSheet_0 : List vx_I := [(.iload_n 0, 1, 0, 0, .null, []), (.ifCond .lt 12, 3, 13, 0, .null, []), (.iload_n 0, 1, 0, 0, .null, []), (.iconst 4, 1, 0, 0, .int 4, []), (.if_icmp .ge 7, 3, 13, 0, .null, []), (.iconst 1, 1, 0, 0, .int 1, []), (.goto 4, 3, 14, 0, .null, [])]
def kb_V_isSheet_13 : List vx_I := [(.iconst 0, 1, 0, 0, .int 0, [])]
def kb_V_isSheet_14 : List vx_I := [(.ireturn, 1, 1, 0, .null, [])]
def tb_V_isSheet : List (Nat × List vx_I) := [(0, kb_V_isSheet_0), (13, kb_V_isSheet_13), (14, kb_V_isSheet_14)]
theorem bk_V_isSheet_0 : vx_bk tb_V_isSheet 0 = [(.iload_n 0, 1, 0, 0, .null, []), (.ifCond .lt 12, 3, 13, 0, .null, []), (.iload_n 0, 1, 0, 0, .null, []), (.iconst 4, 1, 0, 0, .int 4, []), (.if_icmp .ge 7, 3, 13, 0, .null, []), (.iconst 1, 1, 0, 0, .int 1, []), (.goto 4, 3, 14, 0, .null, [])] := rfl
theorem bk_V_isSheet_13 : vx_bk tb_V_isSheet 13 = [(.iconst 0, 1, 0, 0, .int 0, [])] := rfl
theorem bk_V_isSheet_14 : vx_bk tb_V_isSheet 14 = [(.ireturn, 1, 1, 0, .null, [])] := rfl
abbrev m_V_isSheet : Nat := 9
set_option maxRecDepth 100000 in
theorem ck_V_isSheet : vx_ckM prog_1_method_42_code 6 1 0 false (some .boolean) tb_V_isSheet = true := by decide +kernel
theorem ok_V_isSheet {As : List Value} {sz : Nat} {h : vx_H} {P : Option Value → vx_H → Prop} (L0 : vx_L) (hlen : (vx_ar As).length ≤ 1) (hL0 : vx_ar As ++ List.replicate (1 - (vx_ar As).length) none = L0)
    (body : ∀ (lim z : vx_Z) X, vx_cl0 none lim tb_V_isSheet (fun r z' h' => z' = z ∧ P r h') X → X 0 L0 [] z h) : vx_Ok m_V_isSheet As sz h P :=
  vx_ok0 (M := (⟨"VoteWalls", "isSheet", "(I)Z"⟩, prog_1_method_42_code, 1, (some .boolean), 0, 0, 0, 1, 1)) rfl (ow := 6) rfl ck_V_isSheet rfl hlen hL0 body
def kb_V_isLane_0 : List vx_I := [(.iload_n 0, 1, 0, 0, .null, []), (.ifCond .lt 12, 3, 13, 0, .null, []), (.iload_n 0, 1, 0, 0, .null, []), (.iconst 3, 1, 0, 0, .int 3, []), (.if_icmp .ge 7, 3, 13, 0, .null, []), (.iconst 1, 1, 0, 0, .int 1, []), (.goto 4, 3, 14, 0, .null, [])]
def kb_V_isLane_13 : List vx_I := [(.iconst 0, 1, 0, 0, .int 0, [])]
def kb_V_isLane_14 : List vx_I := [(.ireturn, 1, 1, 0, .null, [])]
def tb_V_isLane : List (Nat × List vx_I) := [(0, kb_V_isLane_0), (13, kb_V_isLane_13), (14, kb_V_isLane_14)]
theorem bk_V_isLane_0 : vx_bk tb_V_isLane 0 = [(.iload_n 0, 1, 0, 0, .null, []), (.ifCond .lt 12, 3, 13, 0, .null, []), (.iload_n 0, 1, 0, 0, .null, []), (.iconst 3, 1, 0, 0, .int 3, []), (.if_icmp .ge 7, 3, 13, 0, .null, []), (.iconst 1, 1, 0, 0, .int 1, []), (.goto 4, 3, 14, 0, .null, [])] := rfl
theorem bk_V_isLane_13 : vx_bk tb_V_isLane 13 = [(.iconst 0, 1, 0, 0, .int 0, [])] := rfl
theorem bk_V_isLane_14 : vx_bk tb_V_isLane 14 = [(.ireturn, 1, 1, 0, .null, [])] := rfl
abbrev m_V_isLane : Nat := 10
set_option maxRecDepth 100000 in
theorem ck_V_isLane : vx_ckM prog_1_method_43_code 6 1 0 false (some .boolean) tb_V_isLane = true := by decide +kernel
theorem ok_V_isLane {As : List Value} {sz : Nat} {h : vx_H} {P : Option Value → vx_H → Prop} (L0 : vx_L) (hlen : (vx_ar As).length ≤ 1) (hL0 : vx_ar As ++ List.replicate (1 - (vx_ar As).length) none = L0)
    (body : ∀ (lim z : vx_Z) X, vx_cl0 none lim tb_V_isLane (fun r z' h' => z' = z ∧ P r h') X → X 0 L0 [] z h) : vx_Ok m_V_isLane As sz h P :=
  vx_ok0 (M := (⟨"VoteWalls", "isLane", "(I)Z"⟩, prog_1_method_43_code, 1, (some .boolean), 0, 0, 0, 1, 1)) rfl (ow := 6) rfl ck_V_isLane rfl hlen hL0 body
def kb_V_failed_0 : List vx_I := [(.aload_n 0, 1, 0, 0, .null, []), (.iload_n 1, 1, 1, 0, .null, []), (.putfield 70, 3, 6, 11, .int 0, []), (.bipush (-10), 2, 0, 0, .int (-10), []), (.iload_n 1, 1, 1, 0, .null, []), (.isub, 1, 0, 0, .null, []), (.ireturn, 1, 0, 0, .null, [])]
def tb_V_failed : List (Nat × List vx_I) := [(0, kb_V_failed_0)]
theorem bk_V_failed_0 : vx_bk tb_V_failed 0 = [(.aload_n 0, 1, 0, 0, .null, []), (.iload_n 1, 1, 1, 0, .null, []), (.putfield 70, 3, 6, 11, .int 0, []), (.bipush (-10), 2, 0, 0, .int (-10), []), (.iload_n 1, 1, 1, 0, .null, []), (.isub, 1, 0, 0, .null, []), (.ireturn, 1, 0, 0, .null, [])] := rfl
abbrev m_V_failed : Nat := 13
set_option maxRecDepth 100000 in
theorem ck_V_failed : vx_ckM prog_1_method_50_code 6 2 0 false (some .int) tb_V_failed = true := by decide +kernel
theorem ok_V_failed {As : List Value} {sz : Nat} {h : vx_H} {P : Option Value → vx_H → Prop} (L0 : vx_L) (hlen : (vx_ar As).length ≤ 2) (hL0 : vx_ar As ++ List.replicate (2 - (vx_ar As).length) none = L0)
    (body : ∀ (lim z : vx_Z) X, vx_cl0 none lim tb_V_failed (fun r z' h' => z' = z ∧ P r h') X → X 0 L0 [] z h) : vx_Ok m_V_failed As sz h P :=
  vx_ok0 (M := (⟨"VoteWalls", "failed", "(I)I"⟩, prog_1_method_50_code, 2, (some .int), 0, 0, 0, 1, 0)) rfl (ow := 6) rfl ck_V_failed rfl hlen hL0 body
def kb_V_forgetRules_0 : List vx_I := [(.aload_n 0, 1, 0, 0, .null, []), (.iconst 0, 1, 0, 0, .int 0, []), (.putfield 63, 3, 6, 9, .int 0, []), (.aload_n 0, 1, 0, 0, .null, []), (.getfield 29, 3, 6, 2, .null, []), (.iconst 0, 1, 0, 0, .int 0, []), (.putfield 243, 3, 3, 4, .int 0, []), (.aload_n 0, 1, 0, 0, .null, []), (.getfield 33, 3, 6, 3, .null, []), (.iconst 0, 1, 0, 0, .int 0, []), (.putfield 243, 3, 3, 4, .int 0, []), (.aload_n 0, 1, 0, 0, .null, []), (.getfield 36, 3, 6, 4, .null, []), (.iconst 0, 1, 0, 0, .int 0, []), (.putfield 243, 3, 3, 4, .int 0, []), (.aload_n 0, 1, 0, 0, .null, []), (.getfield 42, 3, 6, 5, .null, []), (.aload_n 0, 1, 0, 0, .null, []), (.getfield 29, 3, 6, 2, .null, []), (.aload_n 0, 1, 0, 0, .null, []), (.getfield 33, 3, 6, 3, .null, []), (.invokevirtual 121, 3, 25, 2, .null, []), (.return_, 1, 0, 0, .null, [])]
def tb_V_forgetRules : List (Nat × List vx_I) := [(0, kb_V_forgetRules_0)]
theorem bk_V_forgetRules_0 : vx_bk tb_V_forgetRules 0 = [(.aload_n 0, 1, 0, 0, .null, []), (.iconst 0, 1, 0, 0, .int 0, []), (.putfield 63, 3, 6, 9, .int 0, []), (.aload_n 0, 1, 0, 0, .null, []), (.getfield 29, 3, 6, 2, .null, []), (.iconst 0, 1, 0, 0, .int 0, []), (.putfield 243, 3, 3, 4, .int 0, []), (.aload_n 0, 1, 0, 0, .null, []), (.getfield 33, 3, 6, 3, .null, []), (.iconst 0, 1, 0, 0, .int 0, []), (.putfield 243, 3, 3, 4, .int 0, []), (.aload_n 0, 1, 0, 0, .null, []), (.getfield 36, 3, 6, 4, .null, []), (.iconst 0, 1, 0, 0, .int 0, []), (.putfield 243, 3, 3, 4, .int 0, []), (.aload_n 0, 1, 0, 0, .null, []), (.getfield 42, 3, 6, 5, .null, []), (.aload_n 0, 1, 0, 0, .null, []), (.getfield 29, 3, 6, 2, .null, []), (.aload_n 0, 1, 0, 0, .null, []), (.getfield 33, 3, 6, 3, .null, []), (.invokevirtual 121, 3, 25, 2, .null, []), (.return_, 1, 0, 0, .null, [])] := rfl
abbrev m_V_forgetRules : Nat := 24
set_option maxRecDepth 100000 in
theorem ck_V_forgetRules : vx_ckM prog_1_method_52_code 6 1 3 false none tb_V_forgetRules = true := by decide +kernel
theorem ok_V_forgetRules {As : List Value} {sz : Nat} {h : vx_H} {P : Option Value → vx_H → Prop} (L0 : vx_L) (hlen : (vx_ar As).length ≤ 1) (hL0 : vx_ar As ++ List.replicate (1 - (vx_ar As).length) none = L0)
    (body : ∀ (lim z : vx_Z) X, vx_cl0 none lim tb_V_forgetRules (fun r z' h' => z' = z ∧ P r h') X → X 0 L0 [] z h) : vx_Ok m_V_forgetRules As sz h P :=
  vx_ok0 (M := (⟨"VoteWalls", "forgetRules", "()V"⟩, prog_1_method_52_code, 1, none, 3, 0, 0, 0, 0)) rfl (ow := 6) rfl ck_V_forgetRules rfl hlen hL0 body
def kb_V_ofPrisoner_0 : List vx_I := [(.aload_n 0, 1, 0, 0, .null, []), (.iload_n 1, 1, 1, 0, .null, []), (.invokevirtual 91, 3, 29, 1, .null, [(0, 0), (0, 0), (0, 0), (0, 0), (0, 0), (0, 0)]), (.ifCond .ne 5, 3, 10, 0, .null, []), (.iconst (-1), 1, 0, 0, .int (-1), []), (.ireturn, 1, 0, 0, .null, [])]
def kb_V_ofPrisoner_10 : List vx_I := [(.iload_n 2, 1, 2, 0, .null, []), (.tableswitch 58 0 2 #[25, 35, 45], 25, 69, 0, .null, [(0, 36), (1, 46), (2, 56)])]
def kb_V_ofPrisoner_36 : List vx_I := [(.aload_n 0, 1, 0, 0, .null, []), (.getfield 56, 3, 6, 7, .null, []), (.getfield 95, 3, 5, 1, .null, []), (.iload_n 1, 1, 1, 0, .null, []), (.iaload, 1, 0, 0, .null, []), (.ireturn, 1, 0, 0, .null, [])]
def kb_V_ofPrisoner_46 : List vx_I := [(.aload_n 0, 1, 0, 0, .null, []), (.getfield 56, 3, 6, 7, .null, []), (.getfield 99, 3, 5, 2, .null, []), (.iload_n 1, 1, 1, 0, .null, []), (.iaload, 1, 0, 0, .null, []), (.ireturn, 1, 0, 0, .null, [])]
def kb_V_ofPrisoner_56 : List vx_I := [(.aload_n 0, 1, 0, 0, .null, []), (.getfield 56, 3, 6, 7, .null, []), (.getfield 95, 3, 5, 1, .null, []), (.iload_n 1, 1, 1, 0, .null, []), (.iaload, 1, 0, 0, .null, []), (.invokestatic 102, 3, 30, 1, .null, []), (.ireturn, 1, 0, 0, .null, [])]
def kb_V_ofPrisoner_69 : List vx_I := [(.bipush (-2), 2, 0, 0, .int (-2), []), (.ireturn, 1, 0, 0, .null, [])]
def tb_V_ofPrisoner : List (Nat × List vx_I) := [(0, kb_V_ofPrisoner_0), (10, kb_V_ofPrisoner_10), (36, kb_V_ofPrisoner_36), (46, kb_V_ofPrisoner_46), (56, kb_V_ofPrisoner_56), (69, kb_V_ofPrisoner_69)]
theorem bk_V_ofPrisoner_0 : vx_bk tb_V_ofPrisoner 0 = [(.aload_n 0, 1, 0, 0, .null, []), (.iload_n 1, 1, 1, 0, .null, []), (.invokevirtual 91, 3, 29, 1, .null, [(0, 0), (0, 0), (0, 0), (0, 0), (0, 0), (0, 0)]), (.ifCond .ne 5, 3, 10, 0, .null, []), (.iconst (-1), 1, 0, 0, .int (-1), []), (.ireturn, 1, 0, 0, .null, [])] := rfl
theorem bk_V_ofPrisoner_10 : vx_bk tb_V_ofPrisoner 10 = [(.iload_n 2, 1, 2, 0, .null, []), (.tableswitch 58 0 2 #[25, 35, 45], 25, 69, 0, .null, [(0, 36), (1, 46), (2, 56)])] := rfl
theorem bk_V_ofPrisoner_36 : vx_bk tb_V_ofPrisoner 36 = [(.aload_n 0, 1, 0, 0, .null, []), (.getfield 56, 3, 6, 7, .null, []), (.getfield 95, 3, 5, 1, .null, []), (.iload_n 1, 1, 1, 0, .null, []), (.iaload, 1, 0, 0, .null, []), (.ireturn, 1, 0, 0, .null, [])] := rfl
theorem bk_V_ofPrisoner_46 : vx_bk tb_V_ofPrisoner 46 = [(.aload_n 0, 1, 0, 0, .null, []), (.getfield 56, 3, 6, 7, .null, []), (.getfield 99, 3, 5, 2, .null, []), (.iload_n 1, 1, 1, 0, .null, []), (.iaload, 1, 0, 0, .null, []), (.ireturn, 1, 0, 0, .null, [])] := rfl
theorem bk_V_ofPrisoner_56 : vx_bk tb_V_ofPrisoner 56 = [(.aload_n 0, 1, 0, 0, .null, []), (.getfield 56, 3, 6, 7, .null, []), (.getfield 95, 3, 5, 1, .null, []), (.iload_n 1, 1, 1, 0, .null, []), (.iaload, 1, 0, 0, .null, []), (.invokestatic 102, 3, 30, 1, .null, []), (.ireturn, 1, 0, 0, .null, [])] := rfl
theorem bk_V_ofPrisoner_69 : vx_bk tb_V_ofPrisoner 69 = [(.bipush (-2), 2, 0, 0, .int (-2), []), (.ireturn, 1, 0, 0, .null, [])] := rfl
abbrev m_V_ofPrisoner : Nat := 28
set_option maxRecDepth 100000 in
theorem ck_V_ofPrisoner : vx_ckM prog_1_method_3_code 6 3 1 false (some .int) tb_V_ofPrisoner = true := by decide +kernel
theorem ok_V_ofPrisoner {As : List Value} {sz : Nat} {h : vx_H} {P : Option Value → vx_H → Prop} (L0 : vx_L) (hlen : (vx_ar As).length ≤ 3) (hL0 : vx_ar As ++ List.replicate (3 - (vx_ar As).length) none = L0)
    (body : ∀ (lim z : vx_Z) X, vx_cl0 none lim tb_V_ofPrisoner (fun r z' h' => z' = z ∧ P r h') X → X 0 L0 [] z h) : vx_Ok m_V_ofPrisoner As sz h P :=
  vx_ok0 (M := (⟨"VoteWalls", "ofPrisoner", "(II)I"⟩, prog_1_method_3_code, 3, (some .int), 1, 0, 0, 2, 0)) rfl (ow := 6) rfl ck_V_ofPrisoner rfl hlen hL0 body
def kb_V_isPrisoner_0 : List vx_I := [(.iload_n 1, 1, 1, 0, .null, []), (.ifCond .lt 18, 3, 19, 0, .null, []), (.iload_n 1, 1, 1, 0, .null, []), (.aload_n 0, 1, 0, 0, .null, []), (.getfield 56, 3, 6, 7, .null, []), (.getfield 88, 3, 5, 5, .null, []), (.if_icmp .ge 7, 3, 19, 0, .null, []), (.iconst 1, 1, 0, 0, .int 1, []), (.goto 4, 3, 20, 0, .null, [])]
def kb_V_isPrisoner_19 : List vx_I := [(.iconst 0, 1, 0, 0, .int 0, [])]
def kb_V_isPrisoner_20 : List vx_I := [(.ireturn, 1, 1, 0, .null, [])]
def tb_V_isPrisoner : List (Nat × List vx_I) := [(0, kb_V_isPrisoner_0), (19, kb_V_isPrisoner_19), (20, kb_V_isPrisoner_20)]
theorem bk_V_isPrisoner_0 : vx_bk tb_V_isPrisoner 0 = [(.iload_n 1, 1, 1, 0, .null, []), (.ifCond .lt 18, 3, 19, 0, .null, []), (.iload_n 1, 1, 1, 0, .null, []), (.aload_n 0, 1, 0, 0, .null, []), (.getfield 56, 3, 6, 7, .null, []), (.getfield 88, 3, 5, 5, .null, []), (.if_icmp .ge 7, 3, 19, 0, .null, []), (.iconst 1, 1, 0, 0, .int 1, []), (.goto 4, 3, 20, 0, .null, [])] := rfl
theorem bk_V_isPrisoner_19 : vx_bk tb_V_isPrisoner 19 = [(.iconst 0, 1, 0, 0, .int 0, [])] := rfl
theorem bk_V_isPrisoner_20 : vx_bk tb_V_isPrisoner 20 = [(.ireturn, 1, 1, 0, .null, [])] := rfl
abbrev m_V_isPrisoner : Nat := 29
set_option maxRecDepth 100000 in
theorem ck_V_isPrisoner : vx_ckM prog_1_method_40_code 6 2 0 false (some .boolean) tb_V_isPrisoner = true := by decide +kernel
theorem ok_V_isPrisoner {As : List Value} {sz : Nat} {h : vx_H} {P : Option Value → vx_H → Prop} (L0 : vx_L) (hlen : (vx_ar As).length ≤ 2) (hL0 : vx_ar As ++ List.replicate (2 - (vx_ar As).length) none = L0)
    (body : ∀ (lim z : vx_Z) X, vx_cl0 none lim tb_V_isPrisoner (fun r z' h' => z' = z ∧ P r h') X → X 0 L0 [] z h) : vx_Ok m_V_isPrisoner As sz h P :=
  vx_ok0 (M := (⟨"VoteWalls", "isPrisoner", "(I)Z"⟩, prog_1_method_40_code, 2, (some .boolean), 0, 0, 0, 1, 0)) rfl (ow := 6) rfl ck_V_isPrisoner rfl hlen hL0 body
def kb_V_votesOfKind_0 : List vx_I := [(.iload_n 0, 1, 0, 0, .null, []), (.lookupswitch 31 #[(1, 29), (2, 27)], 27, 32, 0, .null, [(1, 30), (2, 28)])]
def kb_V_votesOfKind_28 : List vx_I := [(.iconst 4, 1, 0, 0, .int 4, []), (.ireturn, 1, 0, 0, .null, [])]
def kb_V_votesOfKind_30 : List vx_I := [(.iconst 2, 1, 0, 0, .int 2, []), (.ireturn, 1, 0, 0, .null, [])]
def kb_V_votesOfKind_32 : List vx_I := [(.iconst 1, 1, 0, 0, .int 1, []), (.ireturn, 1, 0, 0, .null, [])]
def tb_V_votesOfKind : List (Nat × List vx_I) := [(0, kb_V_votesOfKind_0), (28, kb_V_votesOfKind_28), (30, kb_V_votesOfKind_30), (32, kb_V_votesOfKind_32)]
theorem bk_V_votesOfKind_0 : vx_bk tb_V_votesOfKind 0 = [(.iload_n 0, 1, 0, 0, .null, []), (.lookupswitch 31 #[(1, 29), (2, 27)], 27, 32, 0, .null, [(1, 30), (2, 28)])] := rfl
theorem bk_V_votesOfKind_28 : vx_bk tb_V_votesOfKind 28 = [(.iconst 4, 1, 0, 0, .int 4, []), (.ireturn, 1, 0, 0, .null, [])] := rfl
theorem bk_V_votesOfKind_30 : vx_bk tb_V_votesOfKind 30 = [(.iconst 2, 1, 0, 0, .int 2, []), (.ireturn, 1, 0, 0, .null, [])] := rfl
theorem bk_V_votesOfKind_32 : vx_bk tb_V_votesOfKind 32 = [(.iconst 1, 1, 0, 0, .int 1, []), (.ireturn, 1, 0, 0, .null, [])] := rfl
abbrev m_V_votesOfKind : Nat := 30
set_option maxRecDepth 100000 in
theorem ck_V_votesOfKind : vx_ckM prog_1_method_49_code 6 1 0 false (some .int) tb_V_votesOfKind = true := by decide +kernel
theorem ok_V_votesOfKind {As : List Value} {sz : Nat} {h : vx_H} {P : Option Value → vx_H → Prop} (L0 : vx_L) (hlen : (vx_ar As).length ≤ 1) (hL0 : vx_ar As ++ List.replicate (1 - (vx_ar As).length) none = L0)
    (body : ∀ (lim z : vx_Z) X, vx_cl0 none lim tb_V_votesOfKind (fun r z' h' => z' = z ∧ P r h') X → X 0 L0 [] z h) : vx_Ok m_V_votesOfKind As sz h P :=
  vx_ok0 (M := (⟨"VoteWalls", "votesOfKind", "(I)I"⟩, prog_1_method_49_code, 1, (some .int), 0, 0, 0, 1, 1)) rfl (ow := 6) rfl ck_V_votesOfKind rfl hlen hL0 body
def kb_V_law_0 : List vx_I := [(.iload_n 1, 1, 1, 0, .null, []), (.ifCond .eq 11, 3, 12, 0, .null, []), (.iload_n 1, 1, 1, 0, .null, []), (.iconst 1, 1, 0, 0, .int 1, []), (.if_icmp .eq 6, 3, 12, 0, .null, []), (.bipush (-2), 2, 0, 0, .int (-2), []), (.ireturn, 1, 0, 0, .null, [])]
def kb_V_law_12 : List vx_I := [(.aload_n 0, 1, 0, 0, .null, []), (.invokevirtual 106, 3, 32, 0, .null, [(0, 0), (0, 0), (0, 0), (0, 0), (0, 0), (0, 0)]), (.ifCond .ne 6, 3, 22, 0, .null, []), (.bipush (-3), 2, 0, 0, .int (-3), []), (.ireturn, 1, 0, 0, .null, [])]
def kb_V_law_22 : List vx_I := [(.aload_n 0, 1, 0, 0, .null, []), (.getfield 63, 3, 6, 9, .null, []), (.istore_n 2, 1, 2, 0, .null, []), (.aload_n 0, 1, 0, 0, .null, []), (.iload_n 1, 1, 1, 0, .null, []), (.putfield 63, 3, 6, 9, .int 0, []), (.iload_n 2, 1, 2, 0, .null, []), (.ireturn, 1, 0, 0, .null, [])]
def tb_V_law : List (Nat × List vx_I) := [(0, kb_V_law_0), (12, kb_V_law_12), (22, kb_V_law_22)]
theorem bk_V_law_0 : vx_bk tb_V_law 0 = [(.iload_n 1, 1, 1, 0, .null, []), (.ifCond .eq 11, 3, 12, 0, .null, []), (.iload_n 1, 1, 1, 0, .null, []), (.iconst 1, 1, 0, 0, .int 1, []), (.if_icmp .eq 6, 3, 12, 0, .null, []), (.bipush (-2), 2, 0, 0, .int (-2), []), (.ireturn, 1, 0, 0, .null, [])] := rfl
theorem bk_V_law_12 : vx_bk tb_V_law 12 = [(.aload_n 0, 1, 0, 0, .null, []), (.invokevirtual 106, 3, 32, 0, .null, [(0, 0), (0, 0), (0, 0), (0, 0), (0, 0), (0, 0)]), (.ifCond .ne 6, 3, 22, 0, .null, []), (.bipush (-3), 2, 0, 0, .int (-3), []), (.ireturn, 1, 0, 0, .null, [])] := rfl
theorem bk_V_law_22 : vx_bk tb_V_law 22 = [(.aload_n 0, 1, 0, 0, .null, []), (.getfield 63, 3, 6, 9, .null, []), (.istore_n 2, 1, 2, 0, .null, []), (.aload_n 0, 1, 0, 0, .null, []), (.iload_n 1, 1, 1, 0, .null, []), (.putfield 63, 3, 6, 9, .int 0, []), (.iload_n 2, 1, 2, 0, .null, []), (.ireturn, 1, 0, 0, .null, [])] := rfl
abbrev m_V_law : Nat := 31
set_option maxRecDepth 100000 in
theorem ck_V_law : vx_ckM prog_1_method_4_code 6 3 1 false (some .int) tb_V_law = true := by decide +kernel
theorem ok_V_law {As : List Value} {sz : Nat} {h : vx_H} {P : Option Value → vx_H → Prop} (L0 : vx_L) (hlen : (vx_ar As).length ≤ 3) (hL0 : vx_ar As ++ List.replicate (3 - (vx_ar As).length) none = L0)
    (body : ∀ (lim z : vx_Z) X, vx_cl0 none lim tb_V_law (fun r z' h' => z' = z ∧ P r h') X → X 0 L0 [] z h) : vx_Ok m_V_law As sz h P :=
  vx_ok0 (M := (⟨"VoteWalls", "law", "(I)I"⟩, prog_1_method_4_code, 3, (some .int), 1, 0, 0, 1, 0)) rfl (ow := 6) rfl ck_V_law rfl hlen hL0 body
def kb_V_hasYard_0 : List vx_I := [(.aload_n 0, 1, 0, 0, .null, []), (.getfield 56, 3, 6, 7, .null, []), (.getfield 156, 3, 5, 4, .null, []), (.ifCond .le 7, 3, 14, 0, .null, []), (.iconst 1, 1, 0, 0, .int 1, []), (.goto 4, 3, 15, 0, .null, [])]
def kb_V_hasYard_14 : List vx_I := [(.iconst 0, 1, 0, 0, .int 0, [])]
def kb_V_hasYard_15 : List vx_I := [(.ireturn, 1, 1, 0, .null, [])]
def tb_V_hasYard : List (Nat × List vx_I) := [(0, kb_V_hasYard_0), (14, kb_V_hasYard_14), (15, kb_V_hasYard_15)]
theorem bk_V_hasYard_0 : vx_bk tb_V_hasYard 0 = [(.aload_n 0, 1, 0, 0, .null, []), (.getfield 56, 3, 6, 7, .null, []), (.getfield 156, 3, 5, 4, .null, []), (.ifCond .le 7, 3, 14, 0, .null, []), (.iconst 1, 1, 0, 0, .int 1, []), (.goto 4, 3, 15, 0, .null, [])] := rfl
theorem bk_V_hasYard_14 : vx_bk tb_V_hasYard 14 = [(.iconst 0, 1, 0, 0, .int 0, [])] := rfl
theorem bk_V_hasYard_15 : vx_bk tb_V_hasYard 15 = [(.ireturn, 1, 1, 0, .null, [])] := rfl
abbrev m_V_hasYard : Nat := 32
set_option maxRecDepth 100000 in
theorem ck_V_hasYard : vx_ckM prog_1_method_38_code 6 1 0 false (some .boolean) tb_V_hasYard = true := by decide +kernel
theorem ok_V_hasYard {As : List Value} {sz : Nat} {h : vx_H} {P : Option Value → vx_H → Prop} (L0 : vx_L) (hlen : (vx_ar As).length ≤ 1) (hL0 : vx_ar As ++ List.replicate (1 - (vx_ar As).length) none = L0)
    (body : ∀ (lim z : vx_Z) X, vx_cl0 none lim tb_V_hasYard (fun r z' h' => z' = z ∧ P r h') X → X 0 L0 [] z h) : vx_Ok m_V_hasYard As sz h P :=
  vx_ok0 (M := (⟨"VoteWalls", "hasYard", "()Z"⟩, prog_1_method_38_code, 1, (some .boolean), 0, 0, 0, 0, 0)) rfl (ow := 6) rfl ck_V_hasYard rfl hlen hL0 body
def kb_V_lock_0 : List vx_I := [(.aload_n 0, 1, 0, 0, .null, []), (.iload_n 1, 1, 1, 0, .null, []), (.invokevirtual 110, 3, 34, 1, .null, [(0, 0), (0, 0), (0, 0), (0, 0), (0, 0), (0, 0)]), (.ifCond .ne 5, 3, 10, 0, .null, []), (.iconst (-1), 1, 0, 0, .int (-1), []), (.ireturn, 1, 0, 0, .null, [])]
def kb_V_lock_10 : List vx_I := [(.iload_n 2, 1, 2, 0, .null, []), (.iload_n 3, 1, 3, 0, .null, []), (.invokestatic 113, 3, 35, 2, .null, []), (.ifCond .ne 6, 3, 21, 0, .null, []), (.bipush (-2), 2, 0, 0, .int (-2), []), (.ireturn, 1, 0, 0, .null, [])]
def kb_V_lock_21 : List vx_I := [(.aload_n 0, 1, 0, 0, .null, []), (.getfield 29, 3, 6, 2, .null, []), (.iload_n 1, 1, 1, 0, .null, []), (.iload_n 2, 1, 2, 0, .null, []), (.iload_n 3, 1, 3, 0, .null, []), (.invokevirtual 117, 3, 37, 3, .null, [(0, 0), (0, 0), (0, 0)]), (.istore 4, 2, 4, 0, .null, []), (.aload_n 0, 1, 0, 0, .null, []), (.getfield 42, 3, 6, 5, .null, []), (.aload_n 0, 1, 0, 0, .null, []), (.getfield 29, 3, 6, 2, .null, []), (.aload_n 0, 1, 0, 0, .null, []), (.getfield 33, 3, 6, 3, .null, []), (.invokevirtual 121, 3, 25, 2, .null, []), (.iload 4, 2, 4, 0, .null, []), (.ireturn, 1, 0, 0, .null, [])]
def tb_V_lock : List (Nat × List vx_I) := [(0, kb_V_lock_0), (10, kb_V_lock_10), (21, kb_V_lock_21)]
theorem bk_V_lock_0 : vx_bk tb_V_lock 0 = [(.aload_n 0, 1, 0, 0, .null, []), (.iload_n 1, 1, 1, 0, .null, []), (.invokevirtual 110, 3, 34, 1, .null, [(0, 0), (0, 0), (0, 0), (0, 0), (0, 0), (0, 0)]), (.ifCond .ne 5, 3, 10, 0, .null, []), (.iconst (-1), 1, 0, 0, .int (-1), []), (.ireturn, 1, 0, 0, .null, [])] := rfl
theorem bk_V_lock_10 : vx_bk tb_V_lock 10 = [(.iload_n 2, 1, 2, 0, .null, []), (.iload_n 3, 1, 3, 0, .null, []), (.invokestatic 113, 3, 35, 2, .null, []), (.ifCond .ne 6, 3, 21, 0, .null, []), (.bipush (-2), 2, 0, 0, .int (-2), []), (.ireturn, 1, 0, 0, .null, [])] := rfl
theorem bk_V_lock_21 : vx_bk tb_V_lock 21 = [(.aload_n 0, 1, 0, 0, .null, []), (.getfield 29, 3, 6, 2, .null, []), (.iload_n 1, 1, 1, 0, .null, []), (.iload_n 2, 1, 2, 0, .null, []), (.iload_n 3, 1, 3, 0, .null, []), (.invokevirtual 117, 3, 37, 3, .null, [(0, 0), (0, 0), (0, 0)]), (.istore 4, 2, 4, 0, .null, []), (.aload_n 0, 1, 0, 0, .null, []), (.getfield 42, 3, 6, 5, .null, []), (.aload_n 0, 1, 0, 0, .null, []), (.getfield 29, 3, 6, 2, .null, []), (.aload_n 0, 1, 0, 0, .null, []), (.getfield 33, 3, 6, 3, .null, []), (.invokevirtual 121, 3, 25, 2, .null, []), (.iload 4, 2, 4, 0, .null, []), (.ireturn, 1, 0, 0, .null, [])] := rfl
abbrev m_V_lock : Nat := 33
set_option maxRecDepth 100000 in
theorem ck_V_lock : vx_ckM prog_1_method_5_code 6 5 3 false (some .int) tb_V_lock = true := by decide +kernel
theorem ok_V_lock {As : List Value} {sz : Nat} {h : vx_H} {P : Option Value → vx_H → Prop} (L0 : vx_L) (hlen : (vx_ar As).length ≤ 5) (hL0 : vx_ar As ++ List.replicate (5 - (vx_ar As).length) none = L0)
    (body : ∀ (lim z : vx_Z) X, vx_cl0 none lim tb_V_lock (fun r z' h' => z' = z ∧ P r h') X → X 0 L0 [] z h) : vx_Ok m_V_lock As sz h P :=
  vx_ok0 (M := (⟨"VoteWalls", "lock", "(III)I"⟩, prog_1_method_5_code, 5, (some .int), 3, 0, 0, 3, 0)) rfl (ow := 6) rfl ck_V_lock rfl hlen hL0 body
def kb_V_isBoard_0 : List vx_I := [(.iload_n 1, 1, 1, 0, .null, []), (.ifCond .lt 18, 3, 19, 0, .null, []), (.iload_n 1, 1, 1, 0, .null, []), (.aload_n 0, 1, 0, 0, .null, []), (.getfield 56, 3, 6, 7, .null, []), (.getfield 156, 3, 5, 4, .null, []), (.if_icmp .ge 7, 3, 19, 0, .null, []), (.iconst 1, 1, 0, 0, .int 1, []), (.goto 4, 3, 20, 0, .null, [])]
def kb_V_isBoard_19 : List vx_I := [(.iconst 0, 1, 0, 0, .int 0, [])]
def kb_V_isBoard_20 : List vx_I := [(.ireturn, 1, 1, 0, .null, [])]
def tb_V_isBoard : List (Nat × List vx_I) := [(0, kb_V_isBoard_0), (19, kb_V_isBoard_19), (20, kb_V_isBoard_20)]
theorem bk_V_isBoard_0 : vx_bk tb_V_isBoard 0 = [(.iload_n 1, 1, 1, 0, .null, []), (.ifCond .lt 18, 3, 19, 0, .null, []), (.iload_n 1, 1, 1, 0, .null, []), (.aload_n 0, 1, 0, 0, .null, []), (.getfield 56, 3, 6, 7, .null, []), (.getfield 156, 3, 5, 4, .null, []), (.if_icmp .ge 7, 3, 19, 0, .null, []), (.iconst 1, 1, 0, 0, .int 1, []), (.goto 4, 3, 20, 0, .null, [])] := rfl
theorem bk_V_isBoard_19 : vx_bk tb_V_isBoard 19 = [(.iconst 0, 1, 0, 0, .int 0, [])] := rfl
theorem bk_V_isBoard_20 : vx_bk tb_V_isBoard 20 = [(.ireturn, 1, 1, 0, .null, [])] := rfl
abbrev m_V_isBoard : Nat := 34
set_option maxRecDepth 100000 in
theorem ck_V_isBoard : vx_ckM prog_1_method_39_code 6 2 0 false (some .boolean) tb_V_isBoard = true := by decide +kernel
theorem ok_V_isBoard {As : List Value} {sz : Nat} {h : vx_H} {P : Option Value → vx_H → Prop} (L0 : vx_L) (hlen : (vx_ar As).length ≤ 2) (hL0 : vx_ar As ++ List.replicate (2 - (vx_ar As).length) none = L0)
    (body : ∀ (lim z : vx_Z) X, vx_cl0 none lim tb_V_isBoard (fun r z' h' => z' = z ∧ P r h') X → X 0 L0 [] z h) : vx_Ok m_V_isBoard As sz h P :=
  vx_ok0 (M := (⟨"VoteWalls", "isBoard", "(I)Z"⟩, prog_1_method_39_code, 2, (some .boolean), 0, 0, 0, 1, 0)) rfl (ow := 6) rfl ck_V_isBoard rfl hlen hL0 body
def kb_V_isSpan_0 : List vx_I := [(.iload_n 0, 1, 0, 0, .null, []), (.invokestatic 169, 3, 36, 1, .null, []), (.ifCond .eq 19, 3, 23, 0, .null, []), (.iload_n 1, 1, 1, 0, .null, []), (.invokestatic 169, 3, 36, 1, .null, []), (.ifCond .eq 12, 3, 23, 0, .null, []), (.iload_n 0, 1, 0, 0, .null, []), (.iload_n 1, 1, 1, 0, .null, []), (.if_icmp .gt 7, 3, 23, 0, .null, []), (.iconst 1, 1, 0, 0, .int 1, []), (.goto 4, 3, 24, 0, .null, [])]
def kb_V_isSpan_23 : List vx_I := [(.iconst 0, 1, 0, 0, .int 0, [])]
def kb_V_isSpan_24 : List vx_I := [(.ireturn, 1, 1, 0, .null, [])]
def tb_V_isSpan : List (Nat × List vx_I) := [(0, kb_V_isSpan_0), (23, kb_V_isSpan_23), (24, kb_V_isSpan_24)]
theorem bk_V_isSpan_0 : vx_bk tb_V_isSpan 0 = [(.iload_n 0, 1, 0, 0, .null, []), (.invokestatic 169, 3, 36, 1, .null, []), (.ifCond .eq 19, 3, 23, 0, .null, []), (.iload_n 1, 1, 1, 0, .null, []), (.invokestatic 169, 3, 36, 1, .null, []), (.ifCond .eq 12, 3, 23, 0, .null, []), (.iload_n 0, 1, 0, 0, .null, []), (.iload_n 1, 1, 1, 0, .null, []), (.if_icmp .gt 7, 3, 23, 0, .null, []), (.iconst 1, 1, 0, 0, .int 1, []), (.goto 4, 3, 24, 0, .null, [])] := rfl
theorem bk_V_isSpan_23 : vx_bk tb_V_isSpan 23 = [(.iconst 0, 1, 0, 0, .int 0, [])] := rfl
theorem bk_V_isSpan_24 : vx_bk tb_V_isSpan 24 = [(.ireturn, 1, 1, 0, .null, [])] := rfl
abbrev m_V_isSpan : Nat := 35
set_option maxRecDepth 100000 in
theorem ck_V_isSpan : vx_ckM prog_1_method_46_code 6 2 1 false (some .boolean) tb_V_isSpan = true := by decide +kernel
theorem ok_V_isSpan {As : List Value} {sz : Nat} {h : vx_H} {P : Option Value → vx_H → Prop} (L0 : vx_L) (hlen : (vx_ar As).length ≤ 2) (hL0 : vx_ar As ++ List.replicate (2 - (vx_ar As).length) none = L0)
    (body : ∀ (lim z : vx_Z) X, vx_cl0 none lim tb_V_isSpan (fun r z' h' => z' = z ∧ P r h') X → X 0 L0 [] z h) : vx_Ok m_V_isSpan As sz h P :=
  vx_ok0 (M := (⟨"VoteWalls", "isSpan", "(II)Z"⟩, prog_1_method_46_code, 2, (some .boolean), 1, 0, 0, 2, 1)) rfl (ow := 6) rfl ck_V_isSpan rfl hlen hL0 body
def kb_V_isSunday_0 : List vx_I := [(.iload_n 0, 1, 0, 0, .null, []), (.ifCond .lt 13, 3, 14, 0, .null, []), (.iload_n 0, 1, 0, 0, .null, []), (.bipush 49, 2, 0, 0, .int 49, []), (.if_icmp .gt 7, 3, 14, 0, .null, []), (.iconst 1, 1, 0, 0, .int 1, []), (.goto 4, 3, 15, 0, .null, [])]
def kb_V_isSunday_14 : List vx_I := [(.iconst 0, 1, 0, 0, .int 0, [])]
def kb_V_isSunday_15 : List vx_I := [(.ireturn, 1, 1, 0, .null, [])]
def tb_V_isSunday : List (Nat × List vx_I) := [(0, kb_V_isSunday_0), (14, kb_V_isSunday_14), (15, kb_V_isSunday_15)]
theorem bk_V_isSunday_0 : vx_bk tb_V_isSunday 0 = [(.iload_n 0, 1, 0, 0, .null, []), (.ifCond .lt 13, 3, 14, 0, .null, []), (.iload_n 0, 1, 0, 0, .null, []), (.bipush 49, 2, 0, 0, .int 49, []), (.if_icmp .gt 7, 3, 14, 0, .null, []), (.iconst 1, 1, 0, 0, .int 1, []), (.goto 4, 3, 15, 0, .null, [])] := rfl
theorem bk_V_isSunday_14 : vx_bk tb_V_isSunday 14 = [(.iconst 0, 1, 0, 0, .int 0, [])] := rfl
theorem bk_V_isSunday_15 : vx_bk tb_V_isSunday 15 = [(.ireturn, 1, 1, 0, .null, [])] := rfl
abbrev m_V_isSunday : Nat := 36
set_option maxRecDepth 100000 in
theorem ck_V_isSunday : vx_ckM prog_1_method_44_code 6 1 0 false (some .boolean) tb_V_isSunday = true := by decide +kernel
theorem ok_V_isSunday {As : List Value} {sz : Nat} {h : vx_H} {P : Option Value → vx_H → Prop} (L0 : vx_L) (hlen : (vx_ar As).length ≤ 1) (hL0 : vx_ar As ++ List.replicate (1 - (vx_ar As).length) none = L0)
    (body : ∀ (lim z : vx_Z) X, vx_cl0 none lim tb_V_isSunday (fun r z' h' => z' = z ∧ P r h') X → X 0 L0 [] z h) : vx_Ok m_V_isSunday As sz h P :=
  vx_ok0 (M := (⟨"VoteWalls", "isSunday", "(I)Z"⟩, prog_1_method_44_code, 1, (some .boolean), 0, 0, 0, 1, 1)) rfl (ow := 6) rfl ck_V_isSunday rfl hlen hL0 body
def kb_V_unlock_0 : List vx_I := [(.aload_n 0, 1, 0, 0, .null, []), (.getfield 29, 3, 6, 2, .null, []), (.iload_n 1, 1, 1, 0, .null, []), (.invokevirtual 125, 3, 39, 1, .null, [(0, 0), (0, 0), (0, 0)]), (.istore_n 2, 1, 2, 0, .null, []), (.aload_n 0, 1, 0, 0, .null, []), (.getfield 42, 3, 6, 5, .null, []), (.aload_n 0, 1, 0, 0, .null, []), (.getfield 29, 3, 6, 2, .null, []), (.aload_n 0, 1, 0, 0, .null, []), (.getfield 33, 3, 6, 3, .null, []), (.invokevirtual 121, 3, 25, 2, .null, []), (.iload_n 2, 1, 2, 0, .null, []), (.ireturn, 1, 0, 0, .null, [])]
def tb_V_unlock : List (Nat × List vx_I) := [(0, kb_V_unlock_0)]
theorem bk_V_unlock_0 : vx_bk tb_V_unlock 0 = [(.aload_n 0, 1, 0, 0, .null, []), (.getfield 29, 3, 6, 2, .null, []), (.iload_n 1, 1, 1, 0, .null, []), (.invokevirtual 125, 3, 39, 1, .null, [(0, 0), (0, 0), (0, 0)]), (.istore_n 2, 1, 2, 0, .null, []), (.aload_n 0, 1, 0, 0, .null, []), (.getfield 42, 3, 6, 5, .null, []), (.aload_n 0, 1, 0, 0, .null, []), (.getfield 29, 3, 6, 2, .null, []), (.aload_n 0, 1, 0, 0, .null, []), (.getfield 33, 3, 6, 3, .null, []), (.invokevirtual 121, 3, 25, 2, .null, []), (.iload_n 2, 1, 2, 0, .null, []), (.ireturn, 1, 0, 0, .null, [])] := rfl
abbrev m_V_unlock : Nat := 38
set_option maxRecDepth 100000 in
theorem ck_V_unlock : vx_ckM prog_1_method_6_code 6 3 3 false (some .int) tb_V_unlock = true := by decide +kernel
theorem ok_V_unlock {As : List Value} {sz : Nat} {h : vx_H} {P : Option Value → vx_H → Prop} (L0 : vx_L) (hlen : (vx_ar As).length ≤ 3) (hL0 : vx_ar As ++ List.replicate (3 - (vx_ar As).length) none = L0)
    (body : ∀ (lim z : vx_Z) X, vx_cl0 none lim tb_V_unlock (fun r z' h' => z' = z ∧ P r h') X → X 0 L0 [] z h) : vx_Ok m_V_unlock As sz h P :=
  vx_ok0 (M := (⟨"VoteWalls", "unlock", "(I)I"⟩, prog_1_method_6_code, 3, (some .int), 3, 0, 0, 1, 0)) rfl (ow := 6) rfl ck_V_unlock rfl hlen hL0 body
def kb_V_strike_0 : List vx_I := [(.aload_n 0, 1, 0, 0, .null, []), (.iload_n 1, 1, 1, 0, .null, []), (.invokevirtual 91, 3, 29, 1, .null, [(0, 0), (0, 0), (0, 0), (0, 0), (0, 0), (0, 0)]), (.ifCond .ne 5, 3, 10, 0, .null, []), (.iconst (-1), 1, 0, 0, .int (-1), []), (.ireturn, 1, 0, 0, .null, [])]
def kb_V_strike_10 : List vx_I := [(.iload_n 2, 1, 2, 0, .null, []), (.iload_n 3, 1, 3, 0, .null, []), (.invokestatic 113, 3, 35, 2, .null, []), (.ifCond .ne 6, 3, 21, 0, .null, []), (.bipush (-2), 2, 0, 0, .int (-2), []), (.ireturn, 1, 0, 0, .null, [])]
def kb_V_strike_21 : List vx_I := [(.aload_n 0, 1, 0, 0, .null, []), (.getfield 33, 3, 6, 3, .null, []), (.iload_n 1, 1, 1, 0, .null, []), (.iload_n 2, 1, 2, 0, .null, []), (.iload_n 3, 1, 3, 0, .null, []), (.invokevirtual 117, 3, 37, 3, .null, [(0, 0), (0, 0), (0, 0)]), (.istore 4, 2, 4, 0, .null, []), (.aload_n 0, 1, 0, 0, .null, []), (.getfield 42, 3, 6, 5, .null, []), (.aload_n 0, 1, 0, 0, .null, []), (.getfield 29, 3, 6, 2, .null, []), (.aload_n 0, 1, 0, 0, .null, []), (.getfield 33, 3, 6, 3, .null, []), (.invokevirtual 121, 3, 25, 2, .null, []), (.iload 4, 2, 4, 0, .null, []), (.ireturn, 1, 0, 0, .null, [])]
def tb_V_strike : List (Nat × List vx_I) := [(0, kb_V_strike_0), (10, kb_V_strike_10), (21, kb_V_strike_21)]
theorem bk_V_strike_0 : vx_bk tb_V_strike 0 = [(.aload_n 0, 1, 0, 0, .null, []), (.iload_n 1, 1, 1, 0, .null, []), (.invokevirtual 91, 3, 29, 1, .null, [(0, 0), (0, 0), (0, 0), (0, 0), (0, 0), (0, 0)]), (.ifCond .ne 5, 3, 10, 0, .null, []), (.iconst (-1), 1, 0, 0, .int (-1), []), (.ireturn, 1, 0, 0, .null, [])] := rfl
theorem bk_V_strike_10 : vx_bk tb_V_strike 10 = [(.iload_n 2, 1, 2, 0, .null, []), (.iload_n 3, 1, 3, 0, .null, []), (.invokestatic 113, 3, 35, 2, .null, []), (.ifCond .ne 6, 3, 21, 0, .null, []), (.bipush (-2), 2, 0, 0, .int (-2), []), (.ireturn, 1, 0, 0, .null, [])] := rfl
theorem bk_V_strike_21 : vx_bk tb_V_strike 21 = [(.aload_n 0, 1, 0, 0, .null, []), (.getfield 33, 3, 6, 3, .null, []), (.iload_n 1, 1, 1, 0, .null, []), (.iload_n 2, 1, 2, 0, .null, []), (.iload_n 3, 1, 3, 0, .null, []), (.invokevirtual 117, 3, 37, 3, .null, [(0, 0), (0, 0), (0, 0)]), (.istore 4, 2, 4, 0, .null, []), (.aload_n 0, 1, 0, 0, .null, []), (.getfield 42, 3, 6, 5, .null, []), (.aload_n 0, 1, 0, 0, .null, []), (.getfield 29, 3, 6, 2, .null, []), (.aload_n 0, 1, 0, 0, .null, []), (.getfield 33, 3, 6, 3, .null, []), (.invokevirtual 121, 3, 25, 2, .null, []), (.iload 4, 2, 4, 0, .null, []), (.ireturn, 1, 0, 0, .null, [])] := rfl
abbrev m_V_strike : Nat := 40
set_option maxRecDepth 100000 in
theorem ck_V_strike : vx_ckM prog_1_method_7_code 6 5 3 false (some .int) tb_V_strike = true := by decide +kernel
theorem ok_V_strike {As : List Value} {sz : Nat} {h : vx_H} {P : Option Value → vx_H → Prop} (L0 : vx_L) (hlen : (vx_ar As).length ≤ 5) (hL0 : vx_ar As ++ List.replicate (5 - (vx_ar As).length) none = L0)
    (body : ∀ (lim z : vx_Z) X, vx_cl0 none lim tb_V_strike (fun r z' h' => z' = z ∧ P r h') X → X 0 L0 [] z h) : vx_Ok m_V_strike As sz h P :=
  vx_ok0 (M := (⟨"VoteWalls", "strike", "(III)I"⟩, prog_1_method_7_code, 5, (some .int), 3, 0, 0, 3, 0)) rfl (ow := 6) rfl ck_V_strike rfl hlen hL0 body
def kb_V_eat_0 : List vx_I := [(.aload_n 0, 1, 0, 0, .null, []), (.getfield 33, 3, 6, 3, .null, []), (.iload_n 1, 1, 1, 0, .null, []), (.invokevirtual 125, 3, 39, 1, .null, [(0, 0), (0, 0), (0, 0)]), (.istore_n 2, 1, 2, 0, .null, []), (.aload_n 0, 1, 0, 0, .null, []), (.getfield 42, 3, 6, 5, .null, []), (.aload_n 0, 1, 0, 0, .null, []), (.getfield 29, 3, 6, 2, .null, []), (.aload_n 0, 1, 0, 0, .null, []), (.getfield 33, 3, 6, 3, .null, []), (.invokevirtual 121, 3, 25, 2, .null, []), (.iload_n 2, 1, 2, 0, .null, []), (.ireturn, 1, 0, 0, .null, [])]
def tb_V_eat : List (Nat × List vx_I) := [(0, kb_V_eat_0)]
theorem bk_V_eat_0 : vx_bk tb_V_eat 0 = [(.aload_n 0, 1, 0, 0, .null, []), (.getfield 33, 3, 6, 3, .null, []), (.iload_n 1, 1, 1, 0, .null, []), (.invokevirtual 125, 3, 39, 1, .null, [(0, 0), (0, 0), (0, 0)]), (.istore_n 2, 1, 2, 0, .null, []), (.aload_n 0, 1, 0, 0, .null, []), (.getfield 42, 3, 6, 5, .null, []), (.aload_n 0, 1, 0, 0, .null, []), (.getfield 29, 3, 6, 2, .null, []), (.aload_n 0, 1, 0, 0, .null, []), (.getfield 33, 3, 6, 3, .null, []), (.invokevirtual 121, 3, 25, 2, .null, []), (.iload_n 2, 1, 2, 0, .null, []), (.ireturn, 1, 0, 0, .null, [])] := rfl
abbrev m_V_eat : Nat := 41
set_option maxRecDepth 100000 in
theorem ck_V_eat : vx_ckM prog_1_method_8_code 6 3 3 false (some .int) tb_V_eat = true := by decide +kernel
theorem ok_V_eat {As : List Value} {sz : Nat} {h : vx_H} {P : Option Value → vx_H → Prop} (L0 : vx_L) (hlen : (vx_ar As).length ≤ 3) (hL0 : vx_ar As ++ List.replicate (3 - (vx_ar As).length) none = L0)
    (body : ∀ (lim z : vx_Z) X, vx_cl0 none lim tb_V_eat (fun r z' h' => z' = z ∧ P r h') X → X 0 L0 [] z h) : vx_Ok m_V_eat As sz h P :=
  vx_ok0 (M := (⟨"VoteWalls", "eat", "(I)I"⟩, prog_1_method_8_code, 3, (some .int), 3, 0, 0, 1, 0)) rfl (ow := 6) rfl ck_V_eat rfl hlen hL0 body
def kb_V_gap_0 : List vx_I := [(.aload_n 0, 1, 0, 0, .null, []), (.iload_n 1, 1, 1, 0, .null, []), (.invokevirtual 110, 3, 34, 1, .null, [(0, 0), (0, 0), (0, 0), (0, 0), (0, 0), (0, 0)]), (.ifCond .ne 5, 3, 10, 0, .null, []), (.iconst (-1), 1, 0, 0, .int (-1), []), (.ireturn, 1, 0, 0, .null, [])]
def kb_V_gap_10 : List vx_I := [(.iload_n 2, 1, 2, 0, .null, []), (.invokestatic 128, 3, 43, 1, .null, []), (.ifCond .ne 6, 3, 20, 0, .null, []), (.bipush (-2), 2, 0, 0, .int (-2), []), (.ireturn, 1, 0, 0, .null, [])]
def kb_V_gap_20 : List vx_I := [(.aload_n 0, 1, 0, 0, .null, []), (.iload_n 2, 1, 2, 0, .null, []), (.invokevirtual 131, 3, 44, 1, .null, [(0, 0), (0, 0), (0, 0), (0, 0), (0, 0), (0, 0)]), (.aload_n 0, 1, 0, 0, .null, []), (.getfield 49, 3, 6, 6, .null, []), (.iload_n 1, 1, 1, 0, .null, []), (.iload_n 2, 1, 2, 0, .null, []), (.invokevirtual 134, 3, 54, 2, .null, [(0, 0), (0, 0), (0, 0), (0, 0)]), (.ireturn, 1, 0, 0, .null, [])]
def tb_V_gap : List (Nat × List vx_I) := [(0, kb_V_gap_0), (10, kb_V_gap_10), (20, kb_V_gap_20)]
theorem bk_V_gap_0 : vx_bk tb_V_gap 0 = [(.aload_n 0, 1, 0, 0, .null, []), (.iload_n 1, 1, 1, 0, .null, []), (.invokevirtual 110, 3, 34, 1, .null, [(0, 0), (0, 0), (0, 0), (0, 0), (0, 0), (0, 0)]), (.ifCond .ne 5, 3, 10, 0, .null, []), (.iconst (-1), 1, 0, 0, .int (-1), []), (.ireturn, 1, 0, 0, .null, [])] := rfl
theorem bk_V_gap_10 : vx_bk tb_V_gap 10 = [(.iload_n 2, 1, 2, 0, .null, []), (.invokestatic 128, 3, 43, 1, .null, []), (.ifCond .ne 6, 3, 20, 0, .null, []), (.bipush (-2), 2, 0, 0, .int (-2), []), (.ireturn, 1, 0, 0, .null, [])] := rfl
theorem bk_V_gap_20 : vx_bk tb_V_gap 20 = [(.aload_n 0, 1, 0, 0, .null, []), (.iload_n 2, 1, 2, 0, .null, []), (.invokevirtual 131, 3, 44, 1, .null, [(0, 0), (0, 0), (0, 0), (0, 0), (0, 0), (0, 0)]), (.aload_n 0, 1, 0, 0, .null, []), (.getfield 49, 3, 6, 6, .null, []), (.iload_n 1, 1, 1, 0, .null, []), (.iload_n 2, 1, 2, 0, .null, []), (.invokevirtual 134, 3, 54, 2, .null, [(0, 0), (0, 0), (0, 0), (0, 0)]), (.ireturn, 1, 0, 0, .null, [])] := rfl
abbrev m_V_gap : Nat := 42
set_option maxRecDepth 100000 in
theorem ck_V_gap : vx_ckM prog_1_method_9_code 6 3 6 false (some .int) tb_V_gap = true := by decide +kernel
theorem ok_V_gap {As : List Value} {sz : Nat} {h : vx_H} {P : Option Value → vx_H → Prop} (L0 : vx_L) (hlen : (vx_ar As).length ≤ 3) (hL0 : vx_ar As ++ List.replicate (3 - (vx_ar As).length) none = L0)
    (body : ∀ (lim z : vx_Z) X, vx_cl0 none lim tb_V_gap (fun r z' h' => z' = z ∧ P r h') X → X 0 L0 [] z h) : vx_Ok m_V_gap As sz h P :=
  vx_ok0 (M := (⟨"VoteWalls", "gap", "(II)I"⟩, prog_1_method_9_code, 3, (some .int), 6, 0, 0, 2, 0)) rfl (ow := 6) rfl ck_V_gap rfl hlen hL0 body
def kb_V_isSundayOrFirst_0 : List vx_I := [(.iload_n 0, 1, 0, 0, .null, []), (.iconst (-1), 1, 0, 0, .int (-1), []), (.if_icmp .eq 10, 3, 12, 0, .null, []), (.iload_n 0, 1, 0, 0, .null, []), (.invokestatic 169, 3, 36, 1, .null, []), (.ifCond .eq 7, 3, 16, 0, .null, [])]
def kb_V_isSundayOrFirst_12 : List vx_I := [(.iconst 1, 1, 0, 0, .int 1, []), (.goto 4, 3, 17, 0, .null, [])]
def kb_V_isSundayOrFirst_16 : List vx_I := [(.iconst 0, 1, 0, 0, .int 0, [])]
def kb_V_isSundayOrFirst_17 : List vx_I := [(.ireturn, 1, 1, 0, .null, [])]
def tb_V_isSundayOrFirst : List (Nat × List vx_I) := [(0, kb_V_isSundayOrFirst_0), (12, kb_V_isSundayOrFirst_12), (16, kb_V_isSundayOrFirst_16), (17, kb_V_isSundayOrFirst_17)]
theorem bk_V_isSundayOrFirst_0 : vx_bk tb_V_isSundayOrFirst 0 = [(.iload_n 0, 1, 0, 0, .null, []), (.iconst (-1), 1, 0, 0, .int (-1), []), (.if_icmp .eq 10, 3, 12, 0, .null, []), (.iload_n 0, 1, 0, 0, .null, []), (.invokestatic 169, 3, 36, 1, .null, []), (.ifCond .eq 7, 3, 16, 0, .null, [])] := rfl
theorem bk_V_isSundayOrFirst_12 : vx_bk tb_V_isSundayOrFirst 12 = [(.iconst 1, 1, 0, 0, .int 1, []), (.goto 4, 3, 17, 0, .null, [])] := rfl
theorem bk_V_isSundayOrFirst_16 : vx_bk tb_V_isSundayOrFirst 16 = [(.iconst 0, 1, 0, 0, .int 0, [])] := rfl
theorem bk_V_isSundayOrFirst_17 : vx_bk tb_V_isSundayOrFirst 17 = [(.ireturn, 1, 1, 0, .null, [])] := rfl
abbrev m_V_isSundayOrFirst : Nat := 43
set_option maxRecDepth 100000 in
theorem ck_V_isSundayOrFirst : vx_ckM prog_1_method_45_code 6 1 1 false (some .boolean) tb_V_isSundayOrFirst = true := by decide +kernel
theorem ok_V_isSundayOrFirst {As : List Value} {sz : Nat} {h : vx_H} {P : Option Value → vx_H → Prop} (L0 : vx_L) (hlen : (vx_ar As).length ≤ 1) (hL0 : vx_ar As ++ List.replicate (1 - (vx_ar As).length) none = L0)
    (body : ∀ (lim z : vx_Z) X, vx_cl0 none lim tb_V_isSundayOrFirst (fun r z' h' => z' = z ∧ P r h') X → X 0 L0 [] z h) : vx_Ok m_V_isSundayOrFirst As sz h P :=
  vx_ok0 (M := (⟨"VoteWalls", "isSundayOrFirst", "(I)Z"⟩, prog_1_method_45_code, 1, (some .boolean), 1, 0, 0, 1, 1)) rfl (ow := 6) rfl ck_V_isSundayOrFirst rfl hlen hL0 body
def kb_V_reckonAsItIs_0 : List vx_I := [(.aload_n 0, 1, 0, 0, .null, []), (.iconst 0, 1, 0, 0, .int 0, []), (.iconst 0, 1, 0, 0, .int 0, []), (.iload_n 1, 1, 1, 0, .null, []), (.invokevirtual 162, 3, 45, 3, .null, [(0, 0), (0, 0), (0, 0), (0, 0), (0, 0), (0, 0)]), (.return_, 1, 0, 0, .null, [])]
def tb_V_reckonAsItIs : List (Nat × List vx_I) := [(0, kb_V_reckonAsItIs_0)]
theorem bk_V_reckonAsItIs_0 : vx_bk tb_V_reckonAsItIs 0 = [(.aload_n 0, 1, 0, 0, .null, []), (.iconst 0, 1, 0, 0, .int 0, []), (.iconst 0, 1, 0, 0, .int 0, []), (.iload_n 1, 1, 1, 0, .null, []), (.invokevirtual 162, 3, 45, 3, .null, [(0, 0), (0, 0), (0, 0), (0, 0), (0, 0), (0, 0)]), (.return_, 1, 0, 0, .null, [])] := rfl
abbrev m_V_reckonAsItIs : Nat := 44
set_option maxRecDepth 100000 in
theorem ck_V_reckonAsItIs : vx_ckM prog_1_method_53_code 6 2 5 false none tb_V_reckonAsItIs = true := by decide +kernel
theorem ok_V_reckonAsItIs {As : List Value} {sz : Nat} {h : vx_H} {P : Option Value → vx_H → Prop} (L0 : vx_L) (hlen : (vx_ar As).length ≤ 2) (hL0 : vx_ar As ++ List.replicate (2 - (vx_ar As).length) none = L0)
    (body : ∀ (lim z : vx_Z) X, vx_cl0 none lim tb_V_reckonAsItIs (fun r z' h' => z' = z ∧ P r h') X → X 0 L0 [] z h) : vx_Ok m_V_reckonAsItIs As sz h P :=
  vx_ok0 (M := (⟨"VoteWalls", "reckonAsItIs", "(I)V"⟩, prog_1_method_53_code, 2, none, 5, 0, 0, 1, 0)) rfl (ow := 6) rfl ck_V_reckonAsItIs rfl hlen hL0 body
def kb_V_reckonWith_0 : List vx_I := [(.aload_n 0, 1, 0, 0, .null, []), (.getfield 49, 3, 6, 6, .null, []), (.aload_n 0, 1, 0, 0, .null, []), (.getfield 56, 3, 6, 7, .null, []), (.aload_n 0, 1, 0, 0, .null, []), (.getfield 42, 3, 6, 5, .null, []), (.aload_n 0, 1, 0, 0, .null, []), (.getfield 63, 3, 6, 9, .null, []), (.iload_n 1, 1, 1, 0, .null, []), (.iload_n 2, 1, 2, 0, .null, []), (.iload_n 3, 1, 3, 0, .null, []), (.invokevirtual 191, 3, 46, 6, .null, [(0, 0), (0, 0), (0, 0), (0, 0)]), (.return_, 1, 0, 0, .null, [])]
def tb_V_reckonWith : List (Nat × List vx_I) := [(0, kb_V_reckonWith_0)]
theorem bk_V_reckonWith_0 : vx_bk tb_V_reckonWith 0 = [(.aload_n 0, 1, 0, 0, .null, []), (.getfield 49, 3, 6, 6, .null, []), (.aload_n 0, 1, 0, 0, .null, []), (.getfield 56, 3, 6, 7, .null, []), (.aload_n 0, 1, 0, 0, .null, []), (.getfield 42, 3, 6, 5, .null, []), (.aload_n 0, 1, 0, 0, .null, []), (.getfield 63, 3, 6, 9, .null, []), (.iload_n 1, 1, 1, 0, .null, []), (.iload_n 2, 1, 2, 0, .null, []), (.iload_n 3, 1, 3, 0, .null, []), (.invokevirtual 191, 3, 46, 6, .null, [(0, 0), (0, 0), (0, 0), (0, 0)]), (.return_, 1, 0, 0, .null, [])] := rfl
abbrev m_V_reckonWith : Nat := 45
set_option maxRecDepth 100000 in
theorem ck_V_reckonWith : vx_ckM prog_1_method_54_code 6 4 4 false none tb_V_reckonWith = true := by decide +kernel
theorem ok_V_reckonWith {As : List Value} {sz : Nat} {h : vx_H} {P : Option Value → vx_H → Prop} (L0 : vx_L) (hlen : (vx_ar As).length ≤ 4) (hL0 : vx_ar As ++ List.replicate (4 - (vx_ar As).length) none = L0)
    (body : ∀ (lim z : vx_Z) X, vx_cl0 none lim tb_V_reckonWith (fun r z' h' => z' = z ∧ P r h') X → X 0 L0 [] z h) : vx_Ok m_V_reckonWith As sz h P :=
  vx_ok0 (M := (⟨"VoteWalls", "reckonWith", "(III)V"⟩, prog_1_method_54_code, 4, none, 4, 0, 0, 3, 0)) rfl (ow := 6) rfl ck_V_reckonWith rfl hlen hL0 body
def kb_V_isIn_0 : List vx_I := [(.iload_n 0, 1, 0, 0, .null, []), (.iload_n 1, 1, 1, 0, .null, []), (.ishr, 1, 0, 0, .null, []), (.iconst 1, 1, 0, 0, .int 1, []), (.iand, 1, 0, 0, .null, []), (.ifCond .eq 7, 3, 12, 0, .null, []), (.iconst 1, 1, 0, 0, .int 1, []), (.goto 4, 3, 13, 0, .null, [])]
def kb_V_isIn_12 : List vx_I := [(.iconst 0, 1, 0, 0, .int 0, [])]
def kb_V_isIn_13 : List vx_I := [(.ireturn, 1, 1, 0, .null, [])]
def tb_V_isIn : List (Nat × List vx_I) := [(0, kb_V_isIn_0), (12, kb_V_isIn_12), (13, kb_V_isIn_13)]
theorem bk_V_isIn_0 : vx_bk tb_V_isIn 0 = [(.iload_n 0, 1, 0, 0, .null, []), (.iload_n 1, 1, 1, 0, .null, []), (.ishr, 1, 0, 0, .null, []), (.iconst 1, 1, 0, 0, .int 1, []), (.iand, 1, 0, 0, .null, []), (.ifCond .eq 7, 3, 12, 0, .null, []), (.iconst 1, 1, 0, 0, .int 1, []), (.goto 4, 3, 13, 0, .null, [])] := rfl
theorem bk_V_isIn_12 : vx_bk tb_V_isIn 12 = [(.iconst 0, 1, 0, 0, .int 0, [])] := rfl
theorem bk_V_isIn_13 : vx_bk tb_V_isIn 13 = [(.ireturn, 1, 1, 0, .null, [])] := rfl
abbrev m_V_isIn : Nat := 49
set_option maxRecDepth 100000 in
theorem ck_V_isIn : vx_ckM prog_1_method_47_code 6 2 0 false (some .boolean) tb_V_isIn = true := by decide +kernel
theorem ok_V_isIn {As : List Value} {sz : Nat} {h : vx_H} {P : Option Value → vx_H → Prop} (L0 : vx_L) (hlen : (vx_ar As).length ≤ 2) (hL0 : vx_ar As ++ List.replicate (2 - (vx_ar As).length) none = L0)
    (body : ∀ (lim z : vx_Z) X, vx_cl0 none lim tb_V_isIn (fun r z' h' => z' = z ∧ P r h') X → X 0 L0 [] z h) : vx_Ok m_V_isIn As sz h P :=
  vx_ok0 (M := (⟨"VoteWalls", "isIn", "(II)Z"⟩, prog_1_method_47_code, 2, (some .boolean), 0, 0, 0, 2, 1)) rfl (ow := 6) rfl ck_V_isIn rfl hlen hL0 body
def kb_V_cellOf_0 : List vx_I := [(.aload_n 0, 1, 0, 0, .null, []), (.iload_n 1, 1, 1, 0, .null, []), (.invokevirtual 91, 3, 29, 1, .null, [(0, 0), (0, 0), (0, 0), (0, 0), (0, 0), (0, 0)]), (.ifCond .ne 5, 3, 10, 0, .null, []), (.iconst (-1), 1, 0, 0, .int (-1), []), (.ireturn, 1, 0, 0, .null, [])]
def kb_V_cellOf_10 : List vx_I := [(.iload_n 2, 1, 2, 0, .null, []), (.invokestatic 128, 3, 43, 1, .null, []), (.ifCond .ne 6, 3, 20, 0, .null, []), (.bipush (-2), 2, 0, 0, .int (-2), []), (.ireturn, 1, 0, 0, .null, [])]
def kb_V_cellOf_20 : List vx_I := [(.aload_n 0, 1, 0, 0, .null, []), (.iload_n 2, 1, 2, 0, .null, []), (.invokevirtual 131, 3, 44, 1, .null, [(0, 0), (0, 0), (0, 0), (0, 0), (0, 0), (0, 0)]), (.aload_n 0, 1, 0, 0, .null, []), (.iload_n 1, 1, 1, 0, .null, []), (.iload_n 2, 1, 2, 0, .null, []), (.invokevirtual 138, 3, 56, 2, .null, [(0, 0), (0, 0), (0, 0), (0, 0), (0, 0), (0, 0)]), (.ireturn, 1, 0, 0, .null, [])]
def tb_V_cellOf : List (Nat × List vx_I) := [(0, kb_V_cellOf_0), (10, kb_V_cellOf_10), (20, kb_V_cellOf_20)]
theorem bk_V_cellOf_0 : vx_bk tb_V_cellOf 0 = [(.aload_n 0, 1, 0, 0, .null, []), (.iload_n 1, 1, 1, 0, .null, []), (.invokevirtual 91, 3, 29, 1, .null, [(0, 0), (0, 0), (0, 0), (0, 0), (0, 0), (0, 0)]), (.ifCond .ne 5, 3, 10, 0, .null, []), (.iconst (-1), 1, 0, 0, .int (-1), []), (.ireturn, 1, 0, 0, .null, [])] := rfl
theorem bk_V_cellOf_10 : vx_bk tb_V_cellOf 10 = [(.iload_n 2, 1, 2, 0, .null, []), (.invokestatic 128, 3, 43, 1, .null, []), (.ifCond .ne 6, 3, 20, 0, .null, []), (.bipush (-2), 2, 0, 0, .int (-2), []), (.ireturn, 1, 0, 0, .null, [])] := rfl
theorem bk_V_cellOf_20 : vx_bk tb_V_cellOf 20 = [(.aload_n 0, 1, 0, 0, .null, []), (.iload_n 2, 1, 2, 0, .null, []), (.invokevirtual 131, 3, 44, 1, .null, [(0, 0), (0, 0), (0, 0), (0, 0), (0, 0), (0, 0)]), (.aload_n 0, 1, 0, 0, .null, []), (.iload_n 1, 1, 1, 0, .null, []), (.iload_n 2, 1, 2, 0, .null, []), (.invokevirtual 138, 3, 56, 2, .null, [(0, 0), (0, 0), (0, 0), (0, 0), (0, 0), (0, 0)]), (.ireturn, 1, 0, 0, .null, [])] := rfl
abbrev m_V_cellOf : Nat := 55
set_option maxRecDepth 100000 in
theorem ck_V_cellOf : vx_ckM prog_1_method_10_code 6 3 6 false (some .int) tb_V_cellOf = true := by decide +kernel
theorem ok_V_cellOf {As : List Value} {sz : Nat} {h : vx_H} {P : Option Value → vx_H → Prop} (L0 : vx_L) (hlen : (vx_ar As).length ≤ 3) (hL0 : vx_ar As ++ List.replicate (3 - (vx_ar As).length) none = L0)
    (body : ∀ (lim z : vx_Z) X, vx_cl0 none lim tb_V_cellOf (fun r z' h' => z' = z ∧ P r h') X → X 0 L0 [] z h) : vx_Ok m_V_cellOf As sz h P :=
  vx_ok0 (M := (⟨"VoteWalls", "cellOf", "(II)I"⟩, prog_1_method_10_code, 3, (some .int), 6, 0, 0, 2, 0)) rfl (ow := 6) rfl ck_V_cellOf rfl hlen hL0 body
def kb_V_whereIs_0 : List vx_I := [(.aload_n 0, 1, 0, 0, .null, []), (.getfield 49, 3, 6, 6, .null, []), (.aload_n 0, 1, 0, 0, .null, []), (.getfield 56, 3, 6, 7, .null, []), (.getfield 99, 3, 5, 2, .null, []), (.iload_n 1, 1, 1, 0, .null, []), (.iaload, 1, 0, 0, .null, []), (.iload_n 2, 1, 2, 0, .null, []), (.invokevirtual 251, 3, 57, 2, .null, [(0, 0), (0, 0), (0, 0), (0, 0)]), (.ireturn, 1, 0, 0, .null, [])]
def tb_V_whereIs : List (Nat × List vx_I) := [(0, kb_V_whereIs_0)]
theorem bk_V_whereIs_0 : vx_bk tb_V_whereIs 0 = [(.aload_n 0, 1, 0, 0, .null, []), (.getfield 49, 3, 6, 6, .null, []), (.aload_n 0, 1, 0, 0, .null, []), (.getfield 56, 3, 6, 7, .null, []), (.getfield 99, 3, 5, 2, .null, []), (.iload_n 1, 1, 1, 0, .null, []), (.iaload, 1, 0, 0, .null, []), (.iload_n 2, 1, 2, 0, .null, []), (.invokevirtual 251, 3, 57, 2, .null, [(0, 0), (0, 0), (0, 0), (0, 0)]), (.ireturn, 1, 0, 0, .null, [])] := rfl
abbrev m_V_whereIs : Nat := 56
set_option maxRecDepth 100000 in
theorem ck_V_whereIs : vx_ckM prog_1_method_55_code 6 3 3 false (some .int) tb_V_whereIs = true := by decide +kernel
theorem ok_V_whereIs {As : List Value} {sz : Nat} {h : vx_H} {P : Option Value → vx_H → Prop} (L0 : vx_L) (hlen : (vx_ar As).length ≤ 3) (hL0 : vx_ar As ++ List.replicate (3 - (vx_ar As).length) none = L0)
    (body : ∀ (lim z : vx_Z) X, vx_cl0 none lim tb_V_whereIs (fun r z' h' => z' = z ∧ P r h') X → X 0 L0 [] z h) : vx_Ok m_V_whereIs As sz h P :=
  vx_ok0 (M := (⟨"VoteWalls", "whereIs", "(II)I"⟩, prog_1_method_55_code, 3, (some .int), 3, 0, 0, 2, 0)) rfl (ow := 6) rfl ck_V_whereIs rfl hlen hL0 body
def kb_V_wide_0 : List vx_I := [(.aload_n 0, 1, 0, 0, .null, []), (.iload_n 1, 1, 1, 0, .null, []), (.invokevirtual 141, 3, 59, 1, .null, [(0, 0), (0, 0), (0, 0), (0, 0), (0, 0), (0, 0)]), (.ifCond .ne 5, 3, 10, 0, .null, []), (.iconst (-1), 1, 0, 0, .int (-1), []), (.ireturn, 1, 0, 0, .null, [])]
def kb_V_wide_10 : List vx_I := [(.iload_n 2, 1, 2, 0, .null, []), (.invokestatic 128, 3, 43, 1, .null, []), (.ifCond .ne 6, 3, 20, 0, .null, []), (.bipush (-2), 2, 0, 0, .int (-2), []), (.ireturn, 1, 0, 0, .null, [])]
def kb_V_wide_20 : List vx_I := [(.aload_n 0, 1, 0, 0, .null, []), (.iload_n 2, 1, 2, 0, .null, []), (.invokevirtual 131, 3, 44, 1, .null, [(0, 0), (0, 0), (0, 0), (0, 0), (0, 0), (0, 0)]), (.aload_n 0, 1, 0, 0, .null, []), (.getfield 49, 3, 6, 6, .null, []), (.iload_n 1, 1, 1, 0, .null, []), (.iload_n 2, 1, 2, 0, .null, []), (.invokevirtual 144, 3, 60, 2, .null, [(0, 0), (0, 0), (0, 0), (0, 0)]), (.ireturn, 1, 0, 0, .null, [])]
def tb_V_wide : List (Nat × List vx_I) := [(0, kb_V_wide_0), (10, kb_V_wide_10), (20, kb_V_wide_20)]
theorem bk_V_wide_0 : vx_bk tb_V_wide 0 = [(.aload_n 0, 1, 0, 0, .null, []), (.iload_n 1, 1, 1, 0, .null, []), (.invokevirtual 141, 3, 59, 1, .null, [(0, 0), (0, 0), (0, 0), (0, 0), (0, 0), (0, 0)]), (.ifCond .ne 5, 3, 10, 0, .null, []), (.iconst (-1), 1, 0, 0, .int (-1), []), (.ireturn, 1, 0, 0, .null, [])] := rfl
theorem bk_V_wide_10 : vx_bk tb_V_wide 10 = [(.iload_n 2, 1, 2, 0, .null, []), (.invokestatic 128, 3, 43, 1, .null, []), (.ifCond .ne 6, 3, 20, 0, .null, []), (.bipush (-2), 2, 0, 0, .int (-2), []), (.ireturn, 1, 0, 0, .null, [])] := rfl
theorem bk_V_wide_20 : vx_bk tb_V_wide 20 = [(.aload_n 0, 1, 0, 0, .null, []), (.iload_n 2, 1, 2, 0, .null, []), (.invokevirtual 131, 3, 44, 1, .null, [(0, 0), (0, 0), (0, 0), (0, 0), (0, 0), (0, 0)]), (.aload_n 0, 1, 0, 0, .null, []), (.getfield 49, 3, 6, 6, .null, []), (.iload_n 1, 1, 1, 0, .null, []), (.iload_n 2, 1, 2, 0, .null, []), (.invokevirtual 144, 3, 60, 2, .null, [(0, 0), (0, 0), (0, 0), (0, 0)]), (.ireturn, 1, 0, 0, .null, [])] := rfl
abbrev m_V_wide : Nat := 58
set_option maxRecDepth 100000 in
theorem ck_V_wide : vx_ckM prog_1_method_11_code 6 3 6 false (some .int) tb_V_wide = true := by decide +kernel
theorem ok_V_wide {As : List Value} {sz : Nat} {h : vx_H} {P : Option Value → vx_H → Prop} (L0 : vx_L) (hlen : (vx_ar As).length ≤ 3) (hL0 : vx_ar As ++ List.replicate (3 - (vx_ar As).length) none = L0)
    (body : ∀ (lim z : vx_Z) X, vx_cl0 none lim tb_V_wide (fun r z' h' => z' = z ∧ P r h') X → X 0 L0 [] z h) : vx_Ok m_V_wide As sz h P :=
  vx_ok0 (M := (⟨"VoteWalls", "wide", "(II)I"⟩, prog_1_method_11_code, 3, (some .int), 6, 0, 0, 2, 0)) rfl (ow := 6) rfl ck_V_wide rfl hlen hL0 body
def kb_V_isCell_0 : List vx_I := [(.aload_n 0, 1, 0, 0, .null, []), (.invokevirtual 106, 3, 32, 0, .null, [(0, 0), (0, 0), (0, 0), (0, 0), (0, 0), (0, 0)]), (.ifCond .eq 22, 3, 26, 0, .null, []), (.iload_n 1, 1, 1, 0, .null, []), (.ifCond .lt 18, 3, 26, 0, .null, []), (.iload_n 1, 1, 1, 0, .null, []), (.aload_n 0, 1, 0, 0, .null, []), (.getfield 56, 3, 6, 7, .null, []), (.getfield 156, 3, 5, 4, .null, []), (.if_icmp .gt 7, 3, 26, 0, .null, []), (.iconst 1, 1, 0, 0, .int 1, []), (.goto 4, 3, 27, 0, .null, [])]
def kb_V_isCell_26 : List vx_I := [(.iconst 0, 1, 0, 0, .int 0, [])]
def kb_V_isCell_27 : List vx_I := [(.ireturn, 1, 1, 0, .null, [])]
def tb_V_isCell : List (Nat × List vx_I) := [(0, kb_V_isCell_0), (26, kb_V_isCell_26), (27, kb_V_isCell_27)]
theorem bk_V_isCell_0 : vx_bk tb_V_isCell 0 = [(.aload_n 0, 1, 0, 0, .null, []), (.invokevirtual 106, 3, 32, 0, .null, [(0, 0), (0, 0), (0, 0), (0, 0), (0, 0), (0, 0)]), (.ifCond .eq 22, 3, 26, 0, .null, []), (.iload_n 1, 1, 1, 0, .null, []), (.ifCond .lt 18, 3, 26, 0, .null, []), (.iload_n 1, 1, 1, 0, .null, []), (.aload_n 0, 1, 0, 0, .null, []), (.getfield 56, 3, 6, 7, .null, []), (.getfield 156, 3, 5, 4, .null, []), (.if_icmp .gt 7, 3, 26, 0, .null, []), (.iconst 1, 1, 0, 0, .int 1, []), (.goto 4, 3, 27, 0, .null, [])] := rfl
theorem bk_V_isCell_26 : vx_bk tb_V_isCell 26 = [(.iconst 0, 1, 0, 0, .int 0, [])] := rfl
theorem bk_V_isCell_27 : vx_bk tb_V_isCell 27 = [(.ireturn, 1, 1, 0, .null, [])] := rfl
abbrev m_V_isCell : Nat := 59
set_option maxRecDepth 100000 in
theorem ck_V_isCell : vx_ckM prog_1_method_41_code 6 2 1 false (some .boolean) tb_V_isCell = true := by decide +kernel
theorem ok_V_isCell {As : List Value} {sz : Nat} {h : vx_H} {P : Option Value → vx_H → Prop} (L0 : vx_L) (hlen : (vx_ar As).length ≤ 2) (hL0 : vx_ar As ++ List.replicate (2 - (vx_ar As).length) none = L0)
    (body : ∀ (lim z : vx_Z) X, vx_cl0 none lim tb_V_isCell (fun r z' h' => z' = z ∧ P r h') X → X 0 L0 [] z h) : vx_Ok m_V_isCell As sz h P :=
  vx_ok0 (M := (⟨"VoteWalls", "isCell", "(I)Z"⟩, prog_1_method_41_code, 2, (some .boolean), 1, 0, 0, 1, 0)) rfl (ow := 6) rfl ck_V_isCell rfl hlen hL0 body
def kb_V_with_0 : List vx_I := [(.aload_n 0, 1, 0, 0, .null, []), (.iload_n 1, 1, 1, 0, .null, []), (.invokevirtual 91, 3, 29, 1, .null, [(0, 0), (0, 0), (0, 0), (0, 0), (0, 0), (0, 0)]), (.ifCond .ne 5, 3, 10, 0, .null, []), (.iconst (-1), 1, 0, 0, .int (-1), []), (.ireturn, 1, 0, 0, .null, [])]
def kb_V_with_10 : List vx_I := [(.iload_n 2, 1, 2, 0, .null, []), (.invokestatic 128, 3, 43, 1, .null, []), (.ifCond .ne 6, 3, 20, 0, .null, []), (.bipush (-2), 2, 0, 0, .int (-2), []), (.ireturn, 1, 0, 0, .null, [])]
def kb_V_with_20 : List vx_I := [(.aload_n 0, 1, 0, 0, .null, []), (.iload_n 2, 1, 2, 0, .null, []), (.invokevirtual 131, 3, 44, 1, .null, [(0, 0), (0, 0), (0, 0), (0, 0), (0, 0), (0, 0)]), (.aload_n 0, 1, 0, 0, .null, []), (.iconst 1, 1, 0, 0, .int 1, []), (.aload_n 0, 1, 0, 0, .null, []), (.iload_n 1, 1, 1, 0, .null, []), (.iload_n 2, 1, 2, 0, .null, []), (.invokevirtual 138, 3, 56, 2, .null, [(0, 0), (0, 0), (0, 0), (0, 0), (0, 0), (0, 0)]), (.ishl, 1, 0, 0, .null, []), (.iload_n 2, 1, 2, 0, .null, []), (.invokevirtual 147, 3, 62, 2, .null, [(0, 0), (0, 0), (0, 0), (0, 0), (0, 0), (0, 0)]), (.ireturn, 1, 0, 0, .null, [])]
def tb_V_with : List (Nat × List vx_I) := [(0, kb_V_with_0), (10, kb_V_with_10), (20, kb_V_with_20)]
theorem bk_V_with_0 : vx_bk tb_V_with 0 = [(.aload_n 0, 1, 0, 0, .null, []), (.iload_n 1, 1, 1, 0, .null, []), (.invokevirtual 91, 3, 29, 1, .null, [(0, 0), (0, 0), (0, 0), (0, 0), (0, 0), (0, 0)]), (.ifCond .ne 5, 3, 10, 0, .null, []), (.iconst (-1), 1, 0, 0, .int (-1), []), (.ireturn, 1, 0, 0, .null, [])] := rfl
theorem bk_V_with_10 : vx_bk tb_V_with 10 = [(.iload_n 2, 1, 2, 0, .null, []), (.invokestatic 128, 3, 43, 1, .null, []), (.ifCond .ne 6, 3, 20, 0, .null, []), (.bipush (-2), 2, 0, 0, .int (-2), []), (.ireturn, 1, 0, 0, .null, [])] := rfl
theorem bk_V_with_20 : vx_bk tb_V_with 20 = [(.aload_n 0, 1, 0, 0, .null, []), (.iload_n 2, 1, 2, 0, .null, []), (.invokevirtual 131, 3, 44, 1, .null, [(0, 0), (0, 0), (0, 0), (0, 0), (0, 0), (0, 0)]), (.aload_n 0, 1, 0, 0, .null, []), (.iconst 1, 1, 0, 0, .int 1, []), (.aload_n 0, 1, 0, 0, .null, []), (.iload_n 1, 1, 1, 0, .null, []), (.iload_n 2, 1, 2, 0, .null, []), (.invokevirtual 138, 3, 56, 2, .null, [(0, 0), (0, 0), (0, 0), (0, 0), (0, 0), (0, 0)]), (.ishl, 1, 0, 0, .null, []), (.iload_n 2, 1, 2, 0, .null, []), (.invokevirtual 147, 3, 62, 2, .null, [(0, 0), (0, 0), (0, 0), (0, 0), (0, 0), (0, 0)]), (.ireturn, 1, 0, 0, .null, [])] := rfl
abbrev m_V_with : Nat := 61
set_option maxRecDepth 100000 in
theorem ck_V_with : vx_ckM prog_1_method_12_code 6 3 6 false (some .int) tb_V_with = true := by decide +kernel
theorem ok_V_with {As : List Value} {sz : Nat} {h : vx_H} {P : Option Value → vx_H → Prop} (L0 : vx_L) (hlen : (vx_ar As).length ≤ 3) (hL0 : vx_ar As ++ List.replicate (3 - (vx_ar As).length) none = L0)
    (body : ∀ (lim z : vx_Z) X, vx_cl0 none lim tb_V_with (fun r z' h' => z' = z ∧ P r h') X → X 0 L0 [] z h) : vx_Ok m_V_with As sz h P :=
  vx_ok0 (M := (⟨"VoteWalls", "with", "(II)I"⟩, prog_1_method_12_code, 3, (some .int), 6, 0, 0, 2, 0)) rfl (ow := 6) rfl ck_V_with rfl hlen hL0 body
def kb_V_thoseInCells_0 : List vx_I := [(.iconst 0, 1, 0, 0, .int 0, []), (.istore_n 3, 1, 3, 0, .null, []), (.iconst 0, 1, 0, 0, .int 0, []), (.istore 4, 2, 4, 0, .null, [])]
def kb_V_thoseInCells_5 : List vx_I := [(.iload 4, 2, 4, 0, .null, []), (.aload_n 0, 1, 0, 0, .null, []), (.getfield 56, 3, 6, 7, .null, []), (.getfield 88, 3, 5, 5, .null, []), (.if_icmp .ge 30, 3, 44, 0, .null, []), (.iload_n 1, 1, 1, 0, .null, []), (.aload_n 0, 1, 0, 0, .null, []), (.iload 4, 2, 4, 0, .null, []), (.iload_n 2, 1, 2, 0, .null, []), (.invokevirtual 138, 3, 56, 2, .null, [(0, 0), (0, 0), (0, 0), (0, 0), (0, 0), (0, 0)]), (.invokestatic 178, 3, 49, 2, .null, []), (.ifCond .eq 10, 3, 38, 0, .null, []), (.iload_n 3, 1, 3, 0, .null, []), (.iconst 1, 1, 0, 0, .int 1, []), (.iload 4, 2, 4, 0, .null, []), (.ishl, 1, 0, 0, .null, []), (.ior, 1, 0, 0, .null, []), (.istore_n 3, 1, 3, 0, .null, [])]
def kb_V_thoseInCells_38 : List vx_I := [(.iinc 4 1, 3, 4, 0, .int 1, []), (.goto (-36), 3, 5, 0, .null, [])]
def kb_V_thoseInCells_44 : List vx_I := [(.iload_n 3, 1, 3, 0, .null, []), (.ireturn, 1, 0, 0, .null, [])]
def tb_V_thoseInCells : List (Nat × List vx_I) := [(0, kb_V_thoseInCells_0), (5, kb_V_thoseInCells_5), (38, kb_V_thoseInCells_38), (44, kb_V_thoseInCells_44)]
theorem bk_V_thoseInCells_0 : vx_bk tb_V_thoseInCells 0 = [(.iconst 0, 1, 0, 0, .int 0, []), (.istore_n 3, 1, 3, 0, .null, []), (.iconst 0, 1, 0, 0, .int 0, []), (.istore 4, 2, 4, 0, .null, [])] := rfl
theorem bk_V_thoseInCells_5 : vx_bk tb_V_thoseInCells 5 = [(.iload 4, 2, 4, 0, .null, []), (.aload_n 0, 1, 0, 0, .null, []), (.getfield 56, 3, 6, 7, .null, []), (.getfield 88, 3, 5, 5, .null, []), (.if_icmp .ge 30, 3, 44, 0, .null, []), (.iload_n 1, 1, 1, 0, .null, []), (.aload_n 0, 1, 0, 0, .null, []), (.iload 4, 2, 4, 0, .null, []), (.iload_n 2, 1, 2, 0, .null, []), (.invokevirtual 138, 3, 56, 2, .null, [(0, 0), (0, 0), (0, 0), (0, 0), (0, 0), (0, 0)]), (.invokestatic 178, 3, 49, 2, .null, []), (.ifCond .eq 10, 3, 38, 0, .null, []), (.iload_n 3, 1, 3, 0, .null, []), (.iconst 1, 1, 0, 0, .int 1, []), (.iload 4, 2, 4, 0, .null, []), (.ishl, 1, 0, 0, .null, []), (.ior, 1, 0, 0, .null, []), (.istore_n 3, 1, 3, 0, .null, [])] := rfl
theorem bk_V_thoseInCells_38 : vx_bk tb_V_thoseInCells 38 = [(.iinc 4 1, 3, 4, 0, .int 1, []), (.goto (-36), 3, 5, 0, .null, [])] := rfl
theorem bk_V_thoseInCells_44 : vx_bk tb_V_thoseInCells 44 = [(.iload_n 3, 1, 3, 0, .null, []), (.ireturn, 1, 0, 0, .null, [])] := rfl
abbrev m_V_thoseInCells : Nat := 62
set_option maxRecDepth 100000 in
theorem ck_V_thoseInCells : vx_ckM prog_1_method_57_code 6 5 4 false (some .int) tb_V_thoseInCells = true := by decide +kernel
theorem ok_V_thoseInCells {As : List Value} {sz : Nat} {h : vx_H} {P : Option Value → vx_H → Prop} (L0 : vx_L) (hlen : (vx_ar As).length ≤ 5) (hL0 : vx_ar As ++ List.replicate (5 - (vx_ar As).length) none = L0)
    (body : ∀ (lim z : vx_Z) X, vx_cl0 none lim tb_V_thoseInCells (fun r z' h' => z' = z ∧ P r h') X → X 0 L0 [] z h) : vx_Ok m_V_thoseInCells As sz h P :=
  vx_ok0 (M := (⟨"VoteWalls", "thoseInCells", "(II)I"⟩, prog_1_method_57_code, 5, (some .int), 4, 0, 0, 2, 0)) rfl (ow := 6) rfl ck_V_thoseInCells rfl hlen hL0 body
def kb_V_meet_0 : List vx_I := [(.aload_n 0, 1, 0, 0, .null, []), (.iload_n 1, 1, 1, 0, .null, []), (.invokevirtual 91, 3, 29, 1, .null, [(0, 0), (0, 0), (0, 0), (0, 0), (0, 0), (0, 0)]), (.ifCond .eq 11, 3, 16, 0, .null, []), (.aload_n 0, 1, 0, 0, .null, []), (.iload_n 2, 1, 2, 0, .null, []), (.invokevirtual 91, 3, 29, 1, .null, [(0, 0), (0, 0), (0, 0), (0, 0), (0, 0), (0, 0)]), (.ifCond .ne 5, 3, 18, 0, .null, [])]
def kb_V_meet_16 : List vx_I := [(.iconst (-1), 1, 0, 0, .int (-1), []), (.ireturn, 1, 0, 0, .null, [])]
def kb_V_meet_18 : List vx_I := [(.aload_n 0, 1, 0, 0, .null, []), (.bipush 49, 2, 0, 0, .int 49, []), (.invokevirtual 131, 3, 44, 1, .null, [(0, 0), (0, 0), (0, 0), (0, 0), (0, 0), (0, 0)]), (.aload_n 0, 1, 0, 0, .null, []), (.iload_n 1, 1, 1, 0, .null, []), (.iload_n 2, 1, 2, 0, .null, []), (.invokevirtual 150, 3, 64, 2, .null, [(0, 0), (0, 0), (0, 0), (0, 0), (0, 0), (0, 0)]), (.ireturn, 1, 0, 0, .null, [])]
def tb_V_meet : List (Nat × List vx_I) := [(0, kb_V_meet_0), (16, kb_V_meet_16), (18, kb_V_meet_18)]
theorem bk_V_meet_0 : vx_bk tb_V_meet 0 = [(.aload_n 0, 1, 0, 0, .null, []), (.iload_n 1, 1, 1, 0, .null, []), (.invokevirtual 91, 3, 29, 1, .null, [(0, 0), (0, 0), (0, 0), (0, 0), (0, 0), (0, 0)]), (.ifCond .eq 11, 3, 16, 0, .null, []), (.aload_n 0, 1, 0, 0, .null, []), (.iload_n 2, 1, 2, 0, .null, []), (.invokevirtual 91, 3, 29, 1, .null, [(0, 0), (0, 0), (0, 0), (0, 0), (0, 0), (0, 0)]), (.ifCond .ne 5, 3, 18, 0, .null, [])] := rfl
theorem bk_V_meet_16 : vx_bk tb_V_meet 16 = [(.iconst (-1), 1, 0, 0, .int (-1), []), (.ireturn, 1, 0, 0, .null, [])] := rfl
theorem bk_V_meet_18 : vx_bk tb_V_meet 18 = [(.aload_n 0, 1, 0, 0, .null, []), (.bipush 49, 2, 0, 0, .int 49, []), (.invokevirtual 131, 3, 44, 1, .null, [(0, 0), (0, 0), (0, 0), (0, 0), (0, 0), (0, 0)]), (.aload_n 0, 1, 0, 0, .null, []), (.iload_n 1, 1, 1, 0, .null, []), (.iload_n 2, 1, 2, 0, .null, []), (.invokevirtual 150, 3, 64, 2, .null, [(0, 0), (0, 0), (0, 0), (0, 0), (0, 0), (0, 0)]), (.ireturn, 1, 0, 0, .null, [])] := rfl
abbrev m_V_meet : Nat := 63
set_option maxRecDepth 100000 in
theorem ck_V_meet : vx_ckM prog_1_method_13_code 6 3 6 false (some .int) tb_V_meet = true := by decide +kernel
theorem ok_V_meet {As : List Value} {sz : Nat} {h : vx_H} {P : Option Value → vx_H → Prop} (L0 : vx_L) (hlen : (vx_ar As).length ≤ 3) (hL0 : vx_ar As ++ List.replicate (3 - (vx_ar As).length) none = L0)
    (body : ∀ (lim z : vx_Z) X, vx_cl0 none lim tb_V_meet (fun r z' h' => z' = z ∧ P r h') X → X 0 L0 [] z h) : vx_Ok m_V_meet As sz h P :=
  vx_ok0 (M := (⟨"VoteWalls", "meet", "(II)I"⟩, prog_1_method_13_code, 3, (some .int), 6, 0, 0, 2, 0)) rfl (ow := 6) rfl ck_V_meet rfl hlen hL0 body
def kb_V_firstTogether_0 : List vx_I := [(.iconst 0, 1, 0, 0, .int 0, []), (.istore_n 3, 1, 3, 0, .null, [])]
def kb_V_firstTogether_2 : List vx_I := [(.iload_n 3, 1, 3, 0, .null, []), (.aload_n 0, 1, 0, 0, .null, []), (.getfield 49, 3, 6, 6, .null, []), (.getfield 254, 3, 4, 5, .null, []), (.if_icmp .gt 26, 3, 36, 0, .null, []), (.aload_n 0, 1, 0, 0, .null, []), (.iload_n 1, 1, 1, 0, .null, []), (.iload_n 3, 1, 3, 0, .null, []), (.invokevirtual 138, 3, 56, 2, .null, [(0, 0), (0, 0), (0, 0), (0, 0), (0, 0), (0, 0)]), (.aload_n 0, 1, 0, 0, .null, []), (.iload_n 2, 1, 2, 0, .null, []), (.iload_n 3, 1, 3, 0, .null, []), (.invokevirtual 138, 3, 56, 2, .null, [(0, 0), (0, 0), (0, 0), (0, 0), (0, 0), (0, 0)]), (.if_icmp .ne 5, 3, 30, 0, .null, []), (.iload_n 3, 1, 3, 0, .null, []), (.ireturn, 1, 0, 0, .null, [])]
def kb_V_firstTogether_30 : List vx_I := [(.iinc 3 1, 3, 3, 0, .int 1, []), (.goto (-31), 3, 2, 0, .null, [])]
def kb_V_firstTogether_36 : List vx_I := [(.bipush (-9), 2, 0, 0, .int (-9), []), (.ireturn, 1, 0, 0, .null, [])]
def tb_V_firstTogether : List (Nat × List vx_I) := [(0, kb_V_firstTogether_0), (2, kb_V_firstTogether_2), (30, kb_V_firstTogether_30), (36, kb_V_firstTogether_36)]
theorem bk_V_firstTogether_0 : vx_bk tb_V_firstTogether 0 = [(.iconst 0, 1, 0, 0, .int 0, []), (.istore_n 3, 1, 3, 0, .null, [])] := rfl
theorem bk_V_firstTogether_2 : vx_bk tb_V_firstTogether 2 = [(.iload_n 3, 1, 3, 0, .null, []), (.aload_n 0, 1, 0, 0, .null, []), (.getfield 49, 3, 6, 6, .null, []), (.getfield 254, 3, 4, 5, .null, []), (.if_icmp .gt 26, 3, 36, 0, .null, []), (.aload_n 0, 1, 0, 0, .null, []), (.iload_n 1, 1, 1, 0, .null, []), (.iload_n 3, 1, 3, 0, .null, []), (.invokevirtual 138, 3, 56, 2, .null, [(0, 0), (0, 0), (0, 0), (0, 0), (0, 0), (0, 0)]), (.aload_n 0, 1, 0, 0, .null, []), (.iload_n 2, 1, 2, 0, .null, []), (.iload_n 3, 1, 3, 0, .null, []), (.invokevirtual 138, 3, 56, 2, .null, [(0, 0), (0, 0), (0, 0), (0, 0), (0, 0), (0, 0)]), (.if_icmp .ne 5, 3, 30, 0, .null, []), (.iload_n 3, 1, 3, 0, .null, []), (.ireturn, 1, 0, 0, .null, [])] := rfl
theorem bk_V_firstTogether_30 : vx_bk tb_V_firstTogether 30 = [(.iinc 3 1, 3, 3, 0, .int 1, []), (.goto (-31), 3, 2, 0, .null, [])] := rfl
theorem bk_V_firstTogether_36 : vx_bk tb_V_firstTogether 36 = [(.bipush (-9), 2, 0, 0, .int (-9), []), (.ireturn, 1, 0, 0, .null, [])] := rfl
abbrev m_V_firstTogether : Nat := 64
set_option maxRecDepth 100000 in
theorem ck_V_firstTogether : vx_ckM prog_1_method_56_code 6 4 4 false (some .int) tb_V_firstTogether = true := by decide +kernel
theorem ok_V_firstTogether {As : List Value} {sz : Nat} {h : vx_H} {P : Option Value → vx_H → Prop} (L0 : vx_L) (hlen : (vx_ar As).length ≤ 4) (hL0 : vx_ar As ++ List.replicate (4 - (vx_ar As).length) none = L0)
    (body : ∀ (lim z : vx_Z) X, vx_cl0 none lim tb_V_firstTogether (fun r z' h' => z' = z ∧ P r h') X → X 0 L0 [] z h) : vx_Ok m_V_firstTogether As sz h P :=
  vx_ok0 (M := (⟨"VoteWalls", "firstTogether", "(II)I"⟩, prog_1_method_56_code, 4, (some .int), 4, 0, 0, 2, 0)) rfl (ow := 6) rfl ck_V_firstTogether rfl hlen hL0 body
def kb_V_rests_0 : List vx_I := [(.aload_n 0, 1, 0, 0, .null, []), (.invokevirtual 106, 3, 32, 0, .null, [(0, 0), (0, 0), (0, 0), (0, 0), (0, 0), (0, 0)]), (.ifCond .ne 6, 3, 10, 0, .null, []), (.bipush (-3), 2, 0, 0, .int (-3), []), (.ireturn, 1, 0, 0, .null, [])]
def kb_V_rests_10 : List vx_I := [(.aload_n 0, 1, 0, 0, .null, []), (.bipush 49, 2, 0, 0, .int 49, []), (.invokevirtual 131, 3, 44, 1, .null, [(0, 0), (0, 0), (0, 0), (0, 0), (0, 0), (0, 0)]), (.aload_n 0, 1, 0, 0, .null, []), (.getfield 49, 3, 6, 6, .null, []), (.getfield 153, 3, 4, 6, .null, []), (.bipush 49, 2, 0, 0, .int 49, []), (.if_icmp .ne 8, 3, 33, 0, .null, []), (.bipush (-9), 2, 0, 0, .int (-9), []), (.goto 12, 3, 42, 0, .null, [])]
def kb_V_rests_33 : List vx_I := [(.aload_n 0, 1, 0, 0, .null, []), (.getfield 49, 3, 6, 6, .null, []), (.getfield 153, 3, 4, 6, .null, []), (.iconst 1, 1, 0, 0, .int 1, []), (.iadd, 1, 0, 0, .null, [])]
def kb_V_rests_42 : List vx_I := [(.ireturn, 1, 0, 0, .null, [])]
def tb_V_rests : List (Nat × List vx_I) := [(0, kb_V_rests_0), (10, kb_V_rests_10), (33, kb_V_rests_33), (42, kb_V_rests_42)]
theorem bk_V_rests_0 : vx_bk tb_V_rests 0 = [(.aload_n 0, 1, 0, 0, .null, []), (.invokevirtual 106, 3, 32, 0, .null, [(0, 0), (0, 0), (0, 0), (0, 0), (0, 0), (0, 0)]), (.ifCond .ne 6, 3, 10, 0, .null, []), (.bipush (-3), 2, 0, 0, .int (-3), []), (.ireturn, 1, 0, 0, .null, [])] := rfl
theorem bk_V_rests_10 : vx_bk tb_V_rests 10 = [(.aload_n 0, 1, 0, 0, .null, []), (.bipush 49, 2, 0, 0, .int 49, []), (.invokevirtual 131, 3, 44, 1, .null, [(0, 0), (0, 0), (0, 0), (0, 0), (0, 0), (0, 0)]), (.aload_n 0, 1, 0, 0, .null, []), (.getfield 49, 3, 6, 6, .null, []), (.getfield 153, 3, 4, 6, .null, []), (.bipush 49, 2, 0, 0, .int 49, []), (.if_icmp .ne 8, 3, 33, 0, .null, []), (.bipush (-9), 2, 0, 0, .int (-9), []), (.goto 12, 3, 42, 0, .null, [])] := rfl
theorem bk_V_rests_33 : vx_bk tb_V_rests 33 = [(.aload_n 0, 1, 0, 0, .null, []), (.getfield 49, 3, 6, 6, .null, []), (.getfield 153, 3, 4, 6, .null, []), (.iconst 1, 1, 0, 0, .int 1, []), (.iadd, 1, 0, 0, .null, [])] := rfl
theorem bk_V_rests_42 : vx_bk tb_V_rests 42 = [(.ireturn, 1, 0, 0, .null, [])] := rfl
abbrev m_V_rests : Nat := 65
set_option maxRecDepth 100000 in
theorem ck_V_rests : vx_ckM prog_1_method_14_code 6 1 6 false (some .int) tb_V_rests = true := by decide +kernel
theorem ok_V_rests {As : List Value} {sz : Nat} {h : vx_H} {P : Option Value → vx_H → Prop} (L0 : vx_L) (hlen : (vx_ar As).length ≤ 1) (hL0 : vx_ar As ++ List.replicate (1 - (vx_ar As).length) none = L0)
    (body : ∀ (lim z : vx_Z) X, vx_cl0 none lim tb_V_rests (fun r z' h' => z' = z ∧ P r h') X → X 0 L0 [] z h) : vx_Ok m_V_rests As sz h P :=
  vx_ok0 (M := (⟨"VoteWalls", "rests", "()I"⟩, prog_1_method_14_code, 1, (some .int), 6, 0, 0, 0, 0)) rfl (ow := 6) rfl ck_V_rests rfl hlen hL0 body
def kb_V_apart_0 : List vx_I := [(.aload_n 0, 1, 0, 0, .null, []), (.iload_n 1, 1, 1, 0, .null, []), (.invokevirtual 91, 3, 29, 1, .null, [(0, 0), (0, 0), (0, 0), (0, 0), (0, 0), (0, 0)]), (.ifCond .eq 16, 3, 21, 0, .null, []), (.aload_n 0, 1, 0, 0, .null, []), (.iload_n 2, 1, 2, 0, .null, []), (.invokevirtual 91, 3, 29, 1, .null, [(0, 0), (0, 0), (0, 0), (0, 0), (0, 0), (0, 0)]), (.ifCond .eq 8, 3, 21, 0, .null, []), (.iload_n 1, 1, 1, 0, .null, []), (.iload_n 2, 1, 2, 0, .null, []), (.if_icmp .ne 5, 3, 23, 0, .null, [])]
def kb_V_apart_21 : List vx_I := [(.iconst (-1), 1, 0, 0, .int (-1), []), (.ireturn, 1, 0, 0, .null, [])]
def kb_V_apart_23 : List vx_I := [(.bipush (-9), 2, 0, 0, .int (-9), []), (.istore_n 3, 1, 3, 0, .null, []), (.iconst 1, 1, 0, 0, .int 1, []), (.aload_n 0, 1, 0, 0, .null, []), (.getfield 56, 3, 6, 7, .null, []), (.getfield 156, 3, 5, 4, .null, []), (.ishl, 1, 0, 0, .null, []), (.istore 4, 2, 4, 0, .null, []), (.iconst 0, 1, 0, 0, .int 0, []), (.istore 5, 2, 5, 0, .null, [])]
def kb_V_apart_40 : List vx_I := [(.iload 5, 2, 5, 0, .null, []), (.iload 4, 2, 4, 0, .null, []), (.if_icmp .ge 41, 3, 85, 0, .null, []), (.iload 5, 2, 5, 0, .null, []), (.iload_n 3, 1, 3, 0, .null, []), (.invokestatic 159, 3, 67, 2, .null, []), (.ifCond .eq 26, 3, 79, 0, .null, []), (.aload_n 0, 1, 0, 0, .null, []), (.iload 5, 2, 5, 0, .null, []), (.iconst 0, 1, 0, 0, .int 0, []), (.bipush 49, 2, 0, 0, .int 49, []), (.invokevirtual 162, 3, 45, 3, .null, [(0, 0), (0, 0), (0, 0), (0, 0), (0, 0), (0, 0)]), (.aload_n 0, 1, 0, 0, .null, []), (.iload_n 1, 1, 1, 0, .null, []), (.iload_n 2, 1, 2, 0, .null, []), (.invokevirtual 150, 3, 64, 2, .null, [(0, 0), (0, 0), (0, 0), (0, 0), (0, 0), (0, 0)]), (.bipush (-9), 2, 0, 0, .int (-9), []), (.if_icmp .ne 6, 3, 79, 0, .null, []), (.iload 5, 2, 5, 0, .null, []), (.istore_n 3, 1, 3, 0, .null, [])]
def kb_V_apart_79 : List vx_I := [(.iinc 5 1, 3, 5, 0, .int 1, []), (.goto (-42), 3, 40, 0, .null, [])]
def kb_V_apart_85 : List vx_I := [(.iload_n 3, 1, 3, 0, .null, []), (.ireturn, 1, 0, 0, .null, [])]
def tb_V_apart : List (Nat × List vx_I) := [(0, kb_V_apart_0), (21, kb_V_apart_21), (23, kb_V_apart_23), (40, kb_V_apart_40), (79, kb_V_apart_79), (85, kb_V_apart_85)]
theorem bk_V_apart_0 : vx_bk tb_V_apart 0 = [(.aload_n 0, 1, 0, 0, .null, []), (.iload_n 1, 1, 1, 0, .null, []), (.invokevirtual 91, 3, 29, 1, .null, [(0, 0), (0, 0), (0, 0), (0, 0), (0, 0), (0, 0)]), (.ifCond .eq 16, 3, 21, 0, .null, []), (.aload_n 0, 1, 0, 0, .null, []), (.iload_n 2, 1, 2, 0, .null, []), (.invokevirtual 91, 3, 29, 1, .null, [(0, 0), (0, 0), (0, 0), (0, 0), (0, 0), (0, 0)]), (.ifCond .eq 8, 3, 21, 0, .null, []), (.iload_n 1, 1, 1, 0, .null, []), (.iload_n 2, 1, 2, 0, .null, []), (.if_icmp .ne 5, 3, 23, 0, .null, [])] := rfl
theorem bk_V_apart_21 : vx_bk tb_V_apart 21 = [(.iconst (-1), 1, 0, 0, .int (-1), []), (.ireturn, 1, 0, 0, .null, [])] := rfl
theorem bk_V_apart_23 : vx_bk tb_V_apart 23 = [(.bipush (-9), 2, 0, 0, .int (-9), []), (.istore_n 3, 1, 3, 0, .null, []), (.iconst 1, 1, 0, 0, .int 1, []), (.aload_n 0, 1, 0, 0, .null, []), (.getfield 56, 3, 6, 7, .null, []), (.getfield 156, 3, 5, 4, .null, []), (.ishl, 1, 0, 0, .null, []), (.istore 4, 2, 4, 0, .null, []), (.iconst 0, 1, 0, 0, .int 0, []), (.istore 5, 2, 5, 0, .null, [])] := rfl
theorem bk_V_apart_40 : vx_bk tb_V_apart 40 = [(.iload 5, 2, 5, 0, .null, []), (.iload 4, 2, 4, 0, .null, []), (.if_icmp .ge 41, 3, 85, 0, .null, []), (.iload 5, 2, 5, 0, .null, []), (.iload_n 3, 1, 3, 0, .null, []), (.invokestatic 159, 3, 67, 2, .null, []), (.ifCond .eq 26, 3, 79, 0, .null, []), (.aload_n 0, 1, 0, 0, .null, []), (.iload 5, 2, 5, 0, .null, []), (.iconst 0, 1, 0, 0, .int 0, []), (.bipush 49, 2, 0, 0, .int 49, []), (.invokevirtual 162, 3, 45, 3, .null, [(0, 0), (0, 0), (0, 0), (0, 0), (0, 0), (0, 0)]), (.aload_n 0, 1, 0, 0, .null, []), (.iload_n 1, 1, 1, 0, .null, []), (.iload_n 2, 1, 2, 0, .null, []), (.invokevirtual 150, 3, 64, 2, .null, [(0, 0), (0, 0), (0, 0), (0, 0), (0, 0), (0, 0)]), (.bipush (-9), 2, 0, 0, .int (-9), []), (.if_icmp .ne 6, 3, 79, 0, .null, []), (.iload 5, 2, 5, 0, .null, []), (.istore_n 3, 1, 3, 0, .null, [])] := rfl
theorem bk_V_apart_79 : vx_bk tb_V_apart 79 = [(.iinc 5 1, 3, 5, 0, .int 1, []), (.goto (-42), 3, 40, 0, .null, [])] := rfl
theorem bk_V_apart_85 : vx_bk tb_V_apart 85 = [(.iload_n 3, 1, 3, 0, .null, []), (.ireturn, 1, 0, 0, .null, [])] := rfl
abbrev m_V_apart : Nat := 66
set_option maxRecDepth 100000 in
theorem ck_V_apart : vx_ckM prog_1_method_15_code 6 6 5 false (some .int) tb_V_apart = true := by decide +kernel
theorem ok_V_apart {As : List Value} {sz : Nat} {h : vx_H} {P : Option Value → vx_H → Prop} (L0 : vx_L) (hlen : (vx_ar As).length ≤ 6) (hL0 : vx_ar As ++ List.replicate (6 - (vx_ar As).length) none = L0)
    (body : ∀ (lim z : vx_Z) X, vx_cl0 none lim tb_V_apart (fun r z' h' => z' = z ∧ P r h') X → X 0 L0 [] z h) : vx_Ok m_V_apart As sz h P :=
  vx_ok0 (M := (⟨"VoteWalls", "apart", "(II)I"⟩, prog_1_method_15_code, 6, (some .int), 5, 0, 0, 2, 0)) rfl (ow := 6) rfl ck_V_apart rfl hlen hL0 body
def kb_V_isFewer_0 : List vx_I := [(.iload_n 1, 1, 1, 0, .null, []), (.bipush (-9), 2, 0, 0, .int (-9), []), (.if_icmp .eq 14, 3, 17, 0, .null, []), (.iload_n 0, 1, 0, 0, .null, []), (.invokestatic 246, 3, 68, 1, .null, []), (.iload_n 1, 1, 1, 0, .null, []), (.invokestatic 246, 3, 68, 1, .null, []), (.if_icmp .ge 7, 3, 21, 0, .null, [])]
def kb_V_isFewer_17 : List vx_I := [(.iconst 1, 1, 0, 0, .int 1, []), (.goto 4, 3, 22, 0, .null, [])]
def kb_V_isFewer_21 : List vx_I := [(.iconst 0, 1, 0, 0, .int 0, [])]
def kb_V_isFewer_22 : List vx_I := [(.ireturn, 1, 1, 0, .null, [])]
def tb_V_isFewer : List (Nat × List vx_I) := [(0, kb_V_isFewer_0), (17, kb_V_isFewer_17), (21, kb_V_isFewer_21), (22, kb_V_isFewer_22)]
theorem bk_V_isFewer_0 : vx_bk tb_V_isFewer 0 = [(.iload_n 1, 1, 1, 0, .null, []), (.bipush (-9), 2, 0, 0, .int (-9), []), (.if_icmp .eq 14, 3, 17, 0, .null, []), (.iload_n 0, 1, 0, 0, .null, []), (.invokestatic 246, 3, 68, 1, .null, []), (.iload_n 1, 1, 1, 0, .null, []), (.invokestatic 246, 3, 68, 1, .null, []), (.if_icmp .ge 7, 3, 21, 0, .null, [])] := rfl
theorem bk_V_isFewer_17 : vx_bk tb_V_isFewer 17 = [(.iconst 1, 1, 0, 0, .int 1, []), (.goto 4, 3, 22, 0, .null, [])] := rfl
theorem bk_V_isFewer_21 : vx_bk tb_V_isFewer 21 = [(.iconst 0, 1, 0, 0, .int 0, [])] := rfl
theorem bk_V_isFewer_22 : vx_bk tb_V_isFewer 22 = [(.ireturn, 1, 1, 0, .null, [])] := rfl
abbrev m_V_isFewer : Nat := 67
set_option maxRecDepth 100000 in
theorem ck_V_isFewer : vx_ckM prog_1_method_48_code 6 2 1 false (some .boolean) tb_V_isFewer = true := by decide +kernel
theorem ok_V_isFewer {As : List Value} {sz : Nat} {h : vx_H} {P : Option Value → vx_H → Prop} (L0 : vx_L) (hlen : (vx_ar As).length ≤ 2) (hL0 : vx_ar As ++ List.replicate (2 - (vx_ar As).length) none = L0)
    (body : ∀ (lim z : vx_Z) X, vx_cl0 none lim tb_V_isFewer (fun r z' h' => z' = z ∧ P r h') X → X 0 L0 [] z h) : vx_Ok m_V_isFewer As sz h P :=
  vx_ok0 (M := (⟨"VoteWalls", "isFewer", "(II)Z"⟩, prog_1_method_48_code, 2, (some .boolean), 1, 0, 0, 2, 1)) rfl (ow := 6) rfl ck_V_isFewer rfl hlen hL0 body
def kb_V_joined_0 : List vx_I := [(.aload_n 0, 1, 0, 0, .null, []), (.iload_n 1, 1, 1, 0, .null, []), (.invokevirtual 91, 3, 29, 1, .null, [(0, 0), (0, 0), (0, 0), (0, 0), (0, 0), (0, 0)]), (.ifCond .eq 16, 3, 21, 0, .null, []), (.aload_n 0, 1, 0, 0, .null, []), (.iload_n 2, 1, 2, 0, .null, []), (.invokevirtual 91, 3, 29, 1, .null, [(0, 0), (0, 0), (0, 0), (0, 0), (0, 0), (0, 0)]), (.ifCond .eq 8, 3, 21, 0, .null, []), (.iload_n 1, 1, 1, 0, .null, []), (.iload_n 2, 1, 2, 0, .null, []), (.if_icmp .ne 5, 3, 23, 0, .null, [])]
def kb_V_joined_21 : List vx_I := [(.iconst (-1), 1, 0, 0, .int (-1), []), (.ireturn, 1, 0, 0, .null, [])]
def kb_V_joined_23 : List vx_I := [(.iconst 1, 1, 0, 0, .int 1, []), (.aload_n 0, 1, 0, 0, .null, []), (.getfield 56, 3, 6, 7, .null, []), (.getfield 156, 3, 5, 4, .null, []), (.ishl, 1, 0, 0, .null, []), (.istore_n 3, 1, 3, 0, .null, []), (.iconst 0, 1, 0, 0, .int 0, []), (.istore 4, 2, 4, 0, .null, [])]
def kb_V_joined_36 : List vx_I := [(.iload 4, 2, 4, 0, .null, []), (.iload_n 3, 1, 3, 0, .null, []), (.if_icmp .ge 31, 3, 70, 0, .null, []), (.aload_n 0, 1, 0, 0, .null, []), (.iload 4, 2, 4, 0, .null, []), (.iconst 0, 1, 0, 0, .int 0, []), (.bipush 49, 2, 0, 0, .int 49, []), (.invokevirtual 162, 3, 45, 3, .null, [(0, 0), (0, 0), (0, 0), (0, 0), (0, 0), (0, 0)]), (.aload_n 0, 1, 0, 0, .null, []), (.iload_n 1, 1, 1, 0, .null, []), (.iload_n 2, 1, 2, 0, .null, []), (.invokevirtual 150, 3, 64, 2, .null, [(0, 0), (0, 0), (0, 0), (0, 0), (0, 0), (0, 0)]), (.bipush (-9), 2, 0, 0, .int (-9), []), (.if_icmp .eq 5, 3, 64, 0, .null, []), (.iconst 1, 1, 0, 0, .int 1, []), (.ireturn, 1, 0, 0, .null, [])]
def kb_V_joined_64 : List vx_I := [(.iinc 4 1, 3, 4, 0, .int 1, []), (.goto (-31), 3, 36, 0, .null, [])]
def kb_V_joined_70 : List vx_I := [(.iconst 0, 1, 0, 0, .int 0, []), (.ireturn, 1, 0, 0, .null, [])]
def tb_V_joined : List (Nat × List vx_I) := [(0, kb_V_joined_0), (21, kb_V_joined_21), (23, kb_V_joined_23), (36, kb_V_joined_36), (64, kb_V_joined_64), (70, kb_V_joined_70)]
theorem bk_V_joined_0 : vx_bk tb_V_joined 0 = [(.aload_n 0, 1, 0, 0, .null, []), (.iload_n 1, 1, 1, 0, .null, []), (.invokevirtual 91, 3, 29, 1, .null, [(0, 0), (0, 0), (0, 0), (0, 0), (0, 0), (0, 0)]), (.ifCond .eq 16, 3, 21, 0, .null, []), (.aload_n 0, 1, 0, 0, .null, []), (.iload_n 2, 1, 2, 0, .null, []), (.invokevirtual 91, 3, 29, 1, .null, [(0, 0), (0, 0), (0, 0), (0, 0), (0, 0), (0, 0)]), (.ifCond .eq 8, 3, 21, 0, .null, []), (.iload_n 1, 1, 1, 0, .null, []), (.iload_n 2, 1, 2, 0, .null, []), (.if_icmp .ne 5, 3, 23, 0, .null, [])] := rfl
theorem bk_V_joined_21 : vx_bk tb_V_joined 21 = [(.iconst (-1), 1, 0, 0, .int (-1), []), (.ireturn, 1, 0, 0, .null, [])] := rfl
theorem bk_V_joined_23 : vx_bk tb_V_joined 23 = [(.iconst 1, 1, 0, 0, .int 1, []), (.aload_n 0, 1, 0, 0, .null, []), (.getfield 56, 3, 6, 7, .null, []), (.getfield 156, 3, 5, 4, .null, []), (.ishl, 1, 0, 0, .null, []), (.istore_n 3, 1, 3, 0, .null, []), (.iconst 0, 1, 0, 0, .int 0, []), (.istore 4, 2, 4, 0, .null, [])] := rfl
theorem bk_V_joined_36 : vx_bk tb_V_joined 36 = [(.iload 4, 2, 4, 0, .null, []), (.iload_n 3, 1, 3, 0, .null, []), (.if_icmp .ge 31, 3, 70, 0, .null, []), (.aload_n 0, 1, 0, 0, .null, []), (.iload 4, 2, 4, 0, .null, []), (.iconst 0, 1, 0, 0, .int 0, []), (.bipush 49, 2, 0, 0, .int 49, []), (.invokevirtual 162, 3, 45, 3, .null, [(0, 0), (0, 0), (0, 0), (0, 0), (0, 0), (0, 0)]), (.aload_n 0, 1, 0, 0, .null, []), (.iload_n 1, 1, 1, 0, .null, []), (.iload_n 2, 1, 2, 0, .null, []), (.invokevirtual 150, 3, 64, 2, .null, [(0, 0), (0, 0), (0, 0), (0, 0), (0, 0), (0, 0)]), (.bipush (-9), 2, 0, 0, .int (-9), []), (.if_icmp .eq 5, 3, 64, 0, .null, []), (.iconst 1, 1, 0, 0, .int 1, []), (.ireturn, 1, 0, 0, .null, [])] := rfl
theorem bk_V_joined_64 : vx_bk tb_V_joined 64 = [(.iinc 4 1, 3, 4, 0, .int 1, []), (.goto (-31), 3, 36, 0, .null, [])] := rfl
theorem bk_V_joined_70 : vx_bk tb_V_joined 70 = [(.iconst 0, 1, 0, 0, .int 0, []), (.ireturn, 1, 0, 0, .null, [])] := rfl
abbrev m_V_joined : Nat := 69
set_option maxRecDepth 100000 in
theorem ck_V_joined : vx_ckM prog_1_method_16_code 6 5 5 false (some .int) tb_V_joined = true := by decide +kernel
theorem ok_V_joined {As : List Value} {sz : Nat} {h : vx_H} {P : Option Value → vx_H → Prop} (L0 : vx_L) (hlen : (vx_ar As).length ≤ 5) (hL0 : vx_ar As ++ List.replicate (5 - (vx_ar As).length) none = L0)
    (body : ∀ (lim z : vx_Z) X, vx_cl0 none lim tb_V_joined (fun r z' h' => z' = z ∧ P r h') X → X 0 L0 [] z h) : vx_Ok m_V_joined As sz h P :=
  vx_ok0 (M := (⟨"VoteWalls", "joined", "(II)I"⟩, prog_1_method_16_code, 5, (some .int), 5, 0, 0, 2, 0)) rfl (ow := 6) rfl ck_V_joined rfl hlen hL0 body
def kb_V_pushed_0 : List vx_I := [(.aload_n 0, 1, 0, 0, .null, []), (.iload_n 1, 1, 1, 0, .null, []), (.invokevirtual 110, 3, 34, 1, .null, [(0, 0), (0, 0), (0, 0), (0, 0), (0, 0), (0, 0)]), (.ifCond .ne 5, 3, 10, 0, .null, []), (.iconst (-1), 1, 0, 0, .int (-1), []), (.ireturn, 1, 0, 0, .null, [])]
def kb_V_pushed_10 : List vx_I := [(.iload_n 2, 1, 2, 0, .null, []), (.iconst 1, 1, 0, 0, .int 1, []), (.if_icmp .lt 21, 3, 33, 0, .null, []), (.iload_n 2, 1, 2, 0, .null, []), (.aload_n 0, 1, 0, 0, .null, []), (.getfield 56, 3, 6, 7, .null, []), (.getfield 166, 3, 5, 3, .null, []), (.if_icmp .ge 10, 3, 33, 0, .null, []), (.iload_n 3, 1, 3, 0, .null, []), (.invokestatic 169, 3, 36, 1, .null, []), (.ifCond .ne 6, 3, 36, 0, .null, [])]
def kb_V_pushed_33 : List vx_I := [(.bipush (-2), 2, 0, 0, .int (-2), []), (.ireturn, 1, 0, 0, .null, [])]
def kb_V_pushed_36 : List vx_I := [(.bipush (-9), 2, 0, 0, .int (-9), []), (.istore 4, 2, 4, 0, .null, []), (.iconst 1, 1, 0, 0, .int 1, []), (.aload_n 0, 1, 0, 0, .null, []), (.getfield 56, 3, 6, 7, .null, []), (.getfield 88, 3, 5, 5, .null, []), (.ishl, 1, 0, 0, .null, []), (.istore 5, 2, 5, 0, .null, []), (.iconst 0, 1, 0, 0, .int 0, []), (.istore 6, 2, 6, 0, .null, [])]
def kb_V_pushed_54 : List vx_I := [(.iload 6, 2, 6, 0, .null, []), (.iload 5, 2, 5, 0, .null, []), (.if_icmp .ge 44, 3, 102, 0, .null, []), (.iload 6, 2, 6, 0, .null, []), (.iload 4, 2, 4, 0, .null, []), (.invokestatic 159, 3, 67, 2, .null, []), (.ifCond .eq 28, 3, 96, 0, .null, []), (.aload_n 0, 1, 0, 0, .null, []), (.iconst 0, 1, 0, 0, .int 0, []), (.iload 6, 2, 6, 0, .null, []), (.iload_n 3, 1, 3, 0, .null, []), (.invokevirtual 162, 3, 45, 3, .null, [(0, 0), (0, 0), (0, 0), (0, 0), (0, 0), (0, 0)]), (.aload_n 0, 1, 0, 0, .null, []), (.getfield 49, 3, 6, 6, .null, []), (.iload_n 1, 1, 1, 0, .null, []), (.iload_n 3, 1, 3, 0, .null, []), (.invokevirtual 134, 3, 54, 2, .null, [(0, 0), (0, 0), (0, 0), (0, 0)]), (.iload_n 2, 1, 2, 0, .null, []), (.if_icmp .ne 7, 3, 96, 0, .null, []), (.iload 6, 2, 6, 0, .null, []), (.istore 4, 2, 4, 0, .null, [])]
def kb_V_pushed_96 : List vx_I := [(.iinc 6 1, 3, 6, 0, .int 1, []), (.goto (-45), 3, 54, 0, .null, [])]
def kb_V_pushed_102 : List vx_I := [(.iload 4, 2, 4, 0, .null, []), (.ireturn, 1, 0, 0, .null, [])]
def tb_V_pushed : List (Nat × List vx_I) := [(0, kb_V_pushed_0), (10, kb_V_pushed_10), (33, kb_V_pushed_33), (36, kb_V_pushed_36), (54, kb_V_pushed_54), (96, kb_V_pushed_96), (102, kb_V_pushed_102)]
theorem bk_V_pushed_0 : vx_bk tb_V_pushed 0 = [(.aload_n 0, 1, 0, 0, .null, []), (.iload_n 1, 1, 1, 0, .null, []), (.invokevirtual 110, 3, 34, 1, .null, [(0, 0), (0, 0), (0, 0), (0, 0), (0, 0), (0, 0)]), (.ifCond .ne 5, 3, 10, 0, .null, []), (.iconst (-1), 1, 0, 0, .int (-1), []), (.ireturn, 1, 0, 0, .null, [])] := rfl
theorem bk_V_pushed_10 : vx_bk tb_V_pushed 10 = [(.iload_n 2, 1, 2, 0, .null, []), (.iconst 1, 1, 0, 0, .int 1, []), (.if_icmp .lt 21, 3, 33, 0, .null, []), (.iload_n 2, 1, 2, 0, .null, []), (.aload_n 0, 1, 0, 0, .null, []), (.getfield 56, 3, 6, 7, .null, []), (.getfield 166, 3, 5, 3, .null, []), (.if_icmp .ge 10, 3, 33, 0, .null, []), (.iload_n 3, 1, 3, 0, .null, []), (.invokestatic 169, 3, 36, 1, .null, []), (.ifCond .ne 6, 3, 36, 0, .null, [])] := rfl
theorem bk_V_pushed_33 : vx_bk tb_V_pushed 33 = [(.bipush (-2), 2, 0, 0, .int (-2), []), (.ireturn, 1, 0, 0, .null, [])] := rfl
theorem bk_V_pushed_36 : vx_bk tb_V_pushed 36 = [(.bipush (-9), 2, 0, 0, .int (-9), []), (.istore 4, 2, 4, 0, .null, []), (.iconst 1, 1, 0, 0, .int 1, []), (.aload_n 0, 1, 0, 0, .null, []), (.getfield 56, 3, 6, 7, .null, []), (.getfield 88, 3, 5, 5, .null, []), (.ishl, 1, 0, 0, .null, []), (.istore 5, 2, 5, 0, .null, []), (.iconst 0, 1, 0, 0, .int 0, []), (.istore 6, 2, 6, 0, .null, [])] := rfl
theorem bk_V_pushed_54 : vx_bk tb_V_pushed 54 = [(.iload 6, 2, 6, 0, .null, []), (.iload 5, 2, 5, 0, .null, []), (.if_icmp .ge 44, 3, 102, 0, .null, []), (.iload 6, 2, 6, 0, .null, []), (.iload 4, 2, 4, 0, .null, []), (.invokestatic 159, 3, 67, 2, .null, []), (.ifCond .eq 28, 3, 96, 0, .null, []), (.aload_n 0, 1, 0, 0, .null, []), (.iconst 0, 1, 0, 0, .int 0, []), (.iload 6, 2, 6, 0, .null, []), (.iload_n 3, 1, 3, 0, .null, []), (.invokevirtual 162, 3, 45, 3, .null, [(0, 0), (0, 0), (0, 0), (0, 0), (0, 0), (0, 0)]), (.aload_n 0, 1, 0, 0, .null, []), (.getfield 49, 3, 6, 6, .null, []), (.iload_n 1, 1, 1, 0, .null, []), (.iload_n 3, 1, 3, 0, .null, []), (.invokevirtual 134, 3, 54, 2, .null, [(0, 0), (0, 0), (0, 0), (0, 0)]), (.iload_n 2, 1, 2, 0, .null, []), (.if_icmp .ne 7, 3, 96, 0, .null, []), (.iload 6, 2, 6, 0, .null, []), (.istore 4, 2, 4, 0, .null, [])] := rfl
theorem bk_V_pushed_96 : vx_bk tb_V_pushed 96 = [(.iinc 6 1, 3, 6, 0, .int 1, []), (.goto (-45), 3, 54, 0, .null, [])] := rfl
theorem bk_V_pushed_102 : vx_bk tb_V_pushed 102 = [(.iload 4, 2, 4, 0, .null, []), (.ireturn, 1, 0, 0, .null, [])] := rfl
abbrev m_V_pushed : Nat := 70
set_option maxRecDepth 100000 in
theorem ck_V_pushed : vx_ckM prog_1_method_17_code 6 7 5 false (some .int) tb_V_pushed = true := by decide +kernel
theorem ok_V_pushed {As : List Value} {sz : Nat} {h : vx_H} {P : Option Value → vx_H → Prop} (L0 : vx_L) (hlen : (vx_ar As).length ≤ 7) (hL0 : vx_ar As ++ List.replicate (7 - (vx_ar As).length) none = L0)
    (body : ∀ (lim z : vx_Z) X, vx_cl0 none lim tb_V_pushed (fun r z' h' => z' = z ∧ P r h') X → X 0 L0 [] z h) : vx_Ok m_V_pushed As sz h P :=
  vx_ok0 (M := (⟨"VoteWalls", "pushed", "(III)I"⟩, prog_1_method_17_code, 7, (some .int), 5, 0, 0, 3, 0)) rfl (ow := 6) rfl ck_V_pushed rfl hlen hL0 body
def kb_V_game_0 : List vx_I := [(.iload_n 1, 1, 1, 0, .null, []), (.ifCond .eq 11, 3, 12, 0, .null, []), (.iload_n 1, 1, 1, 0, .null, []), (.iconst 1, 1, 0, 0, .int 1, []), (.if_icmp .eq 6, 3, 12, 0, .null, []), (.bipush (-2), 2, 0, 0, .int (-2), []), (.ireturn, 1, 0, 0, .null, [])]
def kb_V_game_12 : List vx_I := [(.aload_n 0, 1, 0, 0, .null, []), (.invokevirtual 106, 3, 32, 0, .null, [(0, 0), (0, 0), (0, 0), (0, 0), (0, 0), (0, 0)]), (.ifCond .ne 6, 3, 22, 0, .null, []), (.bipush (-3), 2, 0, 0, .int (-3), []), (.ireturn, 1, 0, 0, .null, [])]
def kb_V_game_22 : List vx_I := [(.iconst 0, 1, 0, 0, .int 0, []), (.istore_n 2, 1, 2, 0, .null, []), (.aload_n 0, 1, 0, 0, .null, []), (.iconst 0, 1, 0, 0, .int 0, []), (.invokevirtual 172, 3, 72, 1, .null, [(0, 0), (0, 0), (0, 0), (0, 0), (0, 0), (0, 0)]), (.istore_n 3, 1, 3, 0, .null, []), (.iconst 1, 1, 0, 0, .int 1, []), (.istore 4, 2, 4, 0, .null, [])]
def kb_V_game_33 : List vx_I := [(.iload 4, 2, 4, 0, .null, []), (.aload_n 0, 1, 0, 0, .null, []), (.getfield 56, 3, 6, 7, .null, []), (.getfield 156, 3, 5, 4, .null, []), (.if_icmp .ge 29, 3, 71, 0, .null, []), (.aload_n 0, 1, 0, 0, .null, []), (.iload 4, 2, 4, 0, .null, []), (.invokevirtual 172, 3, 72, 1, .null, [(0, 0), (0, 0), (0, 0), (0, 0), (0, 0), (0, 0)]), (.istore 5, 2, 5, 0, .null, []), (.iload 5, 2, 5, 0, .null, []), (.iload_n 3, 1, 3, 0, .null, []), (.if_icmp .ge 9, 3, 65, 0, .null, []), (.iload 5, 2, 5, 0, .null, []), (.istore_n 3, 1, 3, 0, .null, []), (.iload 4, 2, 4, 0, .null, []), (.istore_n 2, 1, 2, 0, .null, [])]
def kb_V_game_65 : List vx_I := [(.iinc 4 1, 3, 4, 0, .int 1, []), (.goto (-35), 3, 33, 0, .null, [])]
def kb_V_game_71 : List vx_I := [(.iload_n 1, 1, 1, 0, .null, []), (.ifCond .ne 7, 3, 79, 0, .null, []), (.iload_n 3, 1, 3, 0, .null, []), (.goto 4, 3, 80, 0, .null, [])]
def kb_V_game_79 : List vx_I := [(.iload_n 2, 1, 2, 0, .null, [])]
def kb_V_game_80 : List vx_I := [(.ireturn, 1, 0, 0, .null, [])]
def tb_V_game : List (Nat × List vx_I) := [(0, kb_V_game_0), (12, kb_V_game_12), (22, kb_V_game_22), (33, kb_V_game_33), (65, kb_V_game_65), (71, kb_V_game_71), (79, kb_V_game_79), (80, kb_V_game_80)]
theorem bk_V_game_0 : vx_bk tb_V_game 0 = [(.iload_n 1, 1, 1, 0, .null, []), (.ifCond .eq 11, 3, 12, 0, .null, []), (.iload_n 1, 1, 1, 0, .null, []), (.iconst 1, 1, 0, 0, .int 1, []), (.if_icmp .eq 6, 3, 12, 0, .null, []), (.bipush (-2), 2, 0, 0, .int (-2), []), (.ireturn, 1, 0, 0, .null, [])] := rfl
theorem bk_V_game_12 : vx_bk tb_V_game 12 = [(.aload_n 0, 1, 0, 0, .null, []), (.invokevirtual 106, 3, 32, 0, .null, [(0, 0), (0, 0), (0, 0), (0, 0), (0, 0), (0, 0)]), (.ifCond .ne 6, 3, 22, 0, .null, []), (.bipush (-3), 2, 0, 0, .int (-3), []), (.ireturn, 1, 0, 0, .null, [])] := rfl
theorem bk_V_game_22 : vx_bk tb_V_game 22 = [(.iconst 0, 1, 0, 0, .int 0, []), (.istore_n 2, 1, 2, 0, .null, []), (.aload_n 0, 1, 0, 0, .null, []), (.iconst 0, 1, 0, 0, .int 0, []), (.invokevirtual 172, 3, 72, 1, .null, [(0, 0), (0, 0), (0, 0), (0, 0), (0, 0), (0, 0)]), (.istore_n 3, 1, 3, 0, .null, []), (.iconst 1, 1, 0, 0, .int 1, []), (.istore 4, 2, 4, 0, .null, [])] := rfl
theorem bk_V_game_33 : vx_bk tb_V_game 33 = [(.iload 4, 2, 4, 0, .null, []), (.aload_n 0, 1, 0, 0, .null, []), (.getfield 56, 3, 6, 7, .null, []), (.getfield 156, 3, 5, 4, .null, []), (.if_icmp .ge 29, 3, 71, 0, .null, []), (.aload_n 0, 1, 0, 0, .null, []), (.iload 4, 2, 4, 0, .null, []), (.invokevirtual 172, 3, 72, 1, .null, [(0, 0), (0, 0), (0, 0), (0, 0), (0, 0), (0, 0)]), (.istore 5, 2, 5, 0, .null, []), (.iload 5, 2, 5, 0, .null, []), (.iload_n 3, 1, 3, 0, .null, []), (.if_icmp .ge 9, 3, 65, 0, .null, []), (.iload 5, 2, 5, 0, .null, []), (.istore_n 3, 1, 3, 0, .null, []), (.iload 4, 2, 4, 0, .null, []), (.istore_n 2, 1, 2, 0, .null, [])] := rfl
theorem bk_V_game_65 : vx_bk tb_V_game 65 = [(.iinc 4 1, 3, 4, 0, .int 1, []), (.goto (-35), 3, 33, 0, .null, [])] := rfl
theorem bk_V_game_71 : vx_bk tb_V_game 71 = [(.iload_n 1, 1, 1, 0, .null, []), (.ifCond .ne 7, 3, 79, 0, .null, []), (.iload_n 3, 1, 3, 0, .null, []), (.goto 4, 3, 80, 0, .null, [])] := rfl
theorem bk_V_game_79 : vx_bk tb_V_game 79 = [(.iload_n 2, 1, 2, 0, .null, [])] := rfl
theorem bk_V_game_80 : vx_bk tb_V_game 80 = [(.ireturn, 1, 0, 0, .null, [])] := rfl
abbrev m_V_game : Nat := 71
set_option maxRecDepth 100000 in
theorem ck_V_game : vx_ckM prog_1_method_18_code 6 6 6 false (some .int) tb_V_game = true := by decide +kernel
theorem ok_V_game {As : List Value} {sz : Nat} {h : vx_H} {P : Option Value → vx_H → Prop} (L0 : vx_L) (hlen : (vx_ar As).length ≤ 6) (hL0 : vx_ar As ++ List.replicate (6 - (vx_ar As).length) none = L0)
    (body : ∀ (lim z : vx_Z) X, vx_cl0 none lim tb_V_game (fun r z' h' => z' = z ∧ P r h') X → X 0 L0 [] z h) : vx_Ok m_V_game As sz h P :=
  vx_ok0 (M := (⟨"VoteWalls", "game", "(I)I"⟩, prog_1_method_18_code, 6, (some .int), 6, 0, 0, 1, 0)) rfl (ow := 6) rfl ck_V_game rfl hlen hL0 body
def kb_V_widestBehind_0 : List vx_I := [(.iconst 0, 1, 0, 0, .int 0, []), (.istore_n 2, 1, 2, 0, .null, []), (.iconst 0, 1, 0, 0, .int 0, []), (.istore_n 3, 1, 3, 0, .null, [])]
def kb_V_widestBehind_4 : List vx_I := [(.iload_n 3, 1, 3, 0, .null, []), (.aload_n 0, 1, 0, 0, .null, []), (.getfield 56, 3, 6, 7, .null, []), (.getfield 88, 3, 5, 5, .null, []), (.if_icmp .ge 36, 3, 48, 0, .null, []), (.aload_n 0, 1, 0, 0, .null, []), (.iconst 1, 1, 0, 0, .int 1, []), (.iload_n 1, 1, 1, 0, .null, []), (.ishl, 1, 0, 0, .null, []), (.iconst 1, 1, 0, 0, .int 1, []), (.iload_n 3, 1, 3, 0, .null, []), (.ishl, 1, 0, 0, .null, []), (.bipush 49, 2, 0, 0, .int 49, []), (.invokevirtual 162, 3, 45, 3, .null, [(0, 0), (0, 0), (0, 0), (0, 0), (0, 0), (0, 0)]), (.iload_n 2, 1, 2, 0, .null, []), (.aload_n 0, 1, 0, 0, .null, []), (.getfield 49, 3, 6, 6, .null, []), (.iconst 0, 1, 0, 0, .int 0, []), (.bipush 49, 2, 0, 0, .int 49, []), (.invokevirtual 144, 3, 60, 2, .null, [(0, 0), (0, 0), (0, 0), (0, 0)]), (.invokestatic 257, 3, 0, 0, .float 0, []), (.istore_n 2, 1, 2, 0, .null, []), (.iinc 3 1, 3, 3, 0, .int 1, []), (.goto (-41), 3, 4, 0, .null, [])]
def kb_V_widestBehind_48 : List vx_I := [(.iload_n 2, 1, 2, 0, .null, []), (.ireturn, 1, 0, 0, .null, [])]
def tb_V_widestBehind : List (Nat × List vx_I) := [(0, kb_V_widestBehind_0), (4, kb_V_widestBehind_4), (48, kb_V_widestBehind_48)]
theorem bk_V_widestBehind_0 : vx_bk tb_V_widestBehind 0 = [(.iconst 0, 1, 0, 0, .int 0, []), (.istore_n 2, 1, 2, 0, .null, []), (.iconst 0, 1, 0, 0, .int 0, []), (.istore_n 3, 1, 3, 0, .null, [])] := rfl
theorem bk_V_widestBehind_4 : vx_bk tb_V_widestBehind 4 = [(.iload_n 3, 1, 3, 0, .null, []), (.aload_n 0, 1, 0, 0, .null, []), (.getfield 56, 3, 6, 7, .null, []), (.getfield 88, 3, 5, 5, .null, []), (.if_icmp .ge 36, 3, 48, 0, .null, []), (.aload_n 0, 1, 0, 0, .null, []), (.iconst 1, 1, 0, 0, .int 1, []), (.iload_n 1, 1, 1, 0, .null, []), (.ishl, 1, 0, 0, .null, []), (.iconst 1, 1, 0, 0, .int 1, []), (.iload_n 3, 1, 3, 0, .null, []), (.ishl, 1, 0, 0, .null, []), (.bipush 49, 2, 0, 0, .int 49, []), (.invokevirtual 162, 3, 45, 3, .null, [(0, 0), (0, 0), (0, 0), (0, 0), (0, 0), (0, 0)]), (.iload_n 2, 1, 2, 0, .null, []), (.aload_n 0, 1, 0, 0, .null, []), (.getfield 49, 3, 6, 6, .null, []), (.iconst 0, 1, 0, 0, .int 0, []), (.bipush 49, 2, 0, 0, .int 49, []), (.invokevirtual 144, 3, 60, 2, .null, [(0, 0), (0, 0), (0, 0), (0, 0)]), (.invokestatic 257, 3, 0, 0, .float 0, []), (.istore_n 2, 1, 2, 0, .null, []), (.iinc 3 1, 3, 3, 0, .int 1, []), (.goto (-41), 3, 4, 0, .null, [])] := rfl
theorem bk_V_widestBehind_48 : vx_bk tb_V_widestBehind 48 = [(.iload_n 2, 1, 2, 0, .null, []), (.ireturn, 1, 0, 0, .null, [])] := rfl
abbrev m_V_widestBehind : Nat := 72
set_option maxRecDepth 100000 in
theorem ck_V_widestBehind : vx_ckM prog_1_method_59_code 6 4 5 false (some .int) tb_V_widestBehind = true := by decide +kernel
theorem ok_V_widestBehind {As : List Value} {sz : Nat} {h : vx_H} {P : Option Value → vx_H → Prop} (L0 : vx_L) (hlen : (vx_ar As).length ≤ 4) (hL0 : vx_ar As ++ List.replicate (4 - (vx_ar As).length) none = L0)
    (body : ∀ (lim z : vx_Z) X, vx_cl0 none lim tb_V_widestBehind (fun r z' h' => z' = z ∧ P r h') X → X 0 L0 [] z h) : vx_Ok m_V_widestBehind As sz h P :=
  vx_ok0 (M := (⟨"VoteWalls", "widestBehind", "(I)I"⟩, prog_1_method_59_code, 4, (some .int), 5, 0, 0, 1, 0)) rfl (ow := 6) rfl ck_V_widestBehind rfl hlen hL0 body
def kb_V_knocks_0 : List vx_I := [(.aload_n 0, 1, 0, 0, .null, []), (.iload_n 1, 1, 1, 0, .null, []), (.invokevirtual 91, 3, 29, 1, .null, [(0, 0), (0, 0), (0, 0), (0, 0), (0, 0), (0, 0)]), (.ifCond .eq 11, 3, 16, 0, .null, []), (.aload_n 0, 1, 0, 0, .null, []), (.iload_n 3, 1, 3, 0, .null, []), (.invokevirtual 91, 3, 29, 1, .null, [(0, 0), (0, 0), (0, 0), (0, 0), (0, 0), (0, 0)]), (.ifCond .ne 5, 3, 18, 0, .null, [])]
def kb_V_knocks_16 : List vx_I := [(.iconst (-1), 1, 0, 0, .int (-1), []), (.ireturn, 1, 0, 0, .null, [])]
def kb_V_knocks_18 : List vx_I := [(.iload_n 2, 1, 2, 0, .null, []), (.invokestatic 169, 3, 36, 1, .null, []), (.ifCond .ne 6, 3, 28, 0, .null, []), (.bipush (-2), 2, 0, 0, .int (-2), []), (.ireturn, 1, 0, 0, .null, [])]
def kb_V_knocks_28 : List vx_I := [(.aload_n 0, 1, 0, 0, .null, []), (.bipush 49, 2, 0, 0, .int 49, []), (.invokevirtual 131, 3, 44, 1, .null, [(0, 0), (0, 0), (0, 0), (0, 0), (0, 0), (0, 0)]), (.iconst 1, 1, 0, 0, .int 1, []), (.iload_n 1, 1, 1, 0, .null, []), (.ishl, 1, 0, 0, .null, []), (.istore 4, 2, 4, 0, .null, []), (.iload_n 2, 1, 2, 0, .null, []), (.istore 5, 2, 5, 0, .null, [])]
def kb_V_knocks_42 : List vx_I := [(.iload 5, 2, 5, 0, .null, []), (.bipush 49, 2, 0, 0, .int 49, []), (.if_icmp .gt 37, 3, 83, 0, .null, []), (.aload_n 0, 1, 0, 0, .null, []), (.aload_n 0, 1, 0, 0, .null, []), (.iload 4, 2, 4, 0, .null, []), (.iload 5, 2, 5, 0, .null, []), (.invokevirtual 175, 3, 74, 2, .null, [(0, 0), (0, 0), (0, 0), (0, 0), (0, 0), (0, 0)]), (.iload 5, 2, 5, 0, .null, []), (.invokevirtual 147, 3, 62, 2, .null, [(0, 0), (0, 0), (0, 0), (0, 0), (0, 0), (0, 0)]), (.istore 4, 2, 4, 0, .null, []), (.iload 4, 2, 4, 0, .null, []), (.iload_n 3, 1, 3, 0, .null, []), (.invokestatic 178, 3, 49, 2, .null, []), (.ifCond .eq 6, 3, 77, 0, .null, []), (.iload 5, 2, 5, 0, .null, []), (.ireturn, 1, 0, 0, .null, [])]
def kb_V_knocks_77 : List vx_I := [(.iinc 5 1, 3, 5, 0, .int 1, []), (.goto (-38), 3, 42, 0, .null, [])]
def kb_V_knocks_83 : List vx_I := [(.bipush (-9), 2, 0, 0, .int (-9), []), (.ireturn, 1, 0, 0, .null, [])]
def tb_V_knocks : List (Nat × List vx_I) := [(0, kb_V_knocks_0), (16, kb_V_knocks_16), (18, kb_V_knocks_18), (28, kb_V_knocks_28), (42, kb_V_knocks_42), (77, kb_V_knocks_77), (83, kb_V_knocks_83)]
theorem bk_V_knocks_0 : vx_bk tb_V_knocks 0 = [(.aload_n 0, 1, 0, 0, .null, []), (.iload_n 1, 1, 1, 0, .null, []), (.invokevirtual 91, 3, 29, 1, .null, [(0, 0), (0, 0), (0, 0), (0, 0), (0, 0), (0, 0)]), (.ifCond .eq 11, 3, 16, 0, .null, []), (.aload_n 0, 1, 0, 0, .null, []), (.iload_n 3, 1, 3, 0, .null, []), (.invokevirtual 91, 3, 29, 1, .null, [(0, 0), (0, 0), (0, 0), (0, 0), (0, 0), (0, 0)]), (.ifCond .ne 5, 3, 18, 0, .null, [])] := rfl
theorem bk_V_knocks_16 : vx_bk tb_V_knocks 16 = [(.iconst (-1), 1, 0, 0, .int (-1), []), (.ireturn, 1, 0, 0, .null, [])] := rfl
theorem bk_V_knocks_18 : vx_bk tb_V_knocks 18 = [(.iload_n 2, 1, 2, 0, .null, []), (.invokestatic 169, 3, 36, 1, .null, []), (.ifCond .ne 6, 3, 28, 0, .null, []), (.bipush (-2), 2, 0, 0, .int (-2), []), (.ireturn, 1, 0, 0, .null, [])] := rfl
theorem bk_V_knocks_28 : vx_bk tb_V_knocks 28 = [(.aload_n 0, 1, 0, 0, .null, []), (.bipush 49, 2, 0, 0, .int 49, []), (.invokevirtual 131, 3, 44, 1, .null, [(0, 0), (0, 0), (0, 0), (0, 0), (0, 0), (0, 0)]), (.iconst 1, 1, 0, 0, .int 1, []), (.iload_n 1, 1, 1, 0, .null, []), (.ishl, 1, 0, 0, .null, []), (.istore 4, 2, 4, 0, .null, []), (.iload_n 2, 1, 2, 0, .null, []), (.istore 5, 2, 5, 0, .null, [])] := rfl
theorem bk_V_knocks_42 : vx_bk tb_V_knocks 42 = [(.iload 5, 2, 5, 0, .null, []), (.bipush 49, 2, 0, 0, .int 49, []), (.if_icmp .gt 37, 3, 83, 0, .null, []), (.aload_n 0, 1, 0, 0, .null, []), (.aload_n 0, 1, 0, 0, .null, []), (.iload 4, 2, 4, 0, .null, []), (.iload 5, 2, 5, 0, .null, []), (.invokevirtual 175, 3, 74, 2, .null, [(0, 0), (0, 0), (0, 0), (0, 0), (0, 0), (0, 0)]), (.iload 5, 2, 5, 0, .null, []), (.invokevirtual 147, 3, 62, 2, .null, [(0, 0), (0, 0), (0, 0), (0, 0), (0, 0), (0, 0)]), (.istore 4, 2, 4, 0, .null, []), (.iload 4, 2, 4, 0, .null, []), (.iload_n 3, 1, 3, 0, .null, []), (.invokestatic 178, 3, 49, 2, .null, []), (.ifCond .eq 6, 3, 77, 0, .null, []), (.iload 5, 2, 5, 0, .null, []), (.ireturn, 1, 0, 0, .null, [])] := rfl
theorem bk_V_knocks_77 : vx_bk tb_V_knocks 77 = [(.iinc 5 1, 3, 5, 0, .int 1, []), (.goto (-38), 3, 42, 0, .null, [])] := rfl
theorem bk_V_knocks_83 : vx_bk tb_V_knocks 83 = [(.bipush (-9), 2, 0, 0, .int (-9), []), (.ireturn, 1, 0, 0, .null, [])] := rfl
abbrev m_V_knocks : Nat := 73
set_option maxRecDepth 100000 in
theorem ck_V_knocks : vx_ckM prog_1_method_19_code 6 6 6 false (some .int) tb_V_knocks = true := by decide +kernel
theorem ok_V_knocks {As : List Value} {sz : Nat} {h : vx_H} {P : Option Value → vx_H → Prop} (L0 : vx_L) (hlen : (vx_ar As).length ≤ 6) (hL0 : vx_ar As ++ List.replicate (6 - (vx_ar As).length) none = L0)
    (body : ∀ (lim z : vx_Z) X, vx_cl0 none lim tb_V_knocks (fun r z' h' => z' = z ∧ P r h') X → X 0 L0 [] z h) : vx_Ok m_V_knocks As sz h P :=
  vx_ok0 (M := (⟨"VoteWalls", "knocks", "(III)I"⟩, prog_1_method_19_code, 6, (some .int), 6, 0, 0, 3, 0)) rfl (ow := 6) rfl ck_V_knocks rfl hlen hL0 body
def kb_V_cellsNear_0 : List vx_I := [(.iconst 0, 1, 0, 0, .int 0, []), (.istore_n 3, 1, 3, 0, .null, []), (.iconst 0, 1, 0, 0, .int 0, []), (.istore 4, 2, 4, 0, .null, [])]
def kb_V_cellsNear_5 : List vx_I := [(.iload 4, 2, 4, 0, .null, []), (.aload_n 0, 1, 0, 0, .null, []), (.getfield 56, 3, 6, 7, .null, []), (.getfield 88, 3, 5, 5, .null, []), (.if_icmp .ge 44, 3, 58, 0, .null, []), (.iload_n 1, 1, 1, 0, .null, []), (.iload 4, 2, 4, 0, .null, []), (.invokestatic 178, 3, 49, 2, .null, []), (.ifCond .eq 29, 3, 52, 0, .null, []), (.iconst 1, 1, 0, 0, .int 1, []), (.aload_n 0, 1, 0, 0, .null, []), (.iload 4, 2, 4, 0, .null, []), (.iload_n 2, 1, 2, 0, .null, []), (.invokevirtual 138, 3, 56, 2, .null, [(0, 0), (0, 0), (0, 0), (0, 0), (0, 0), (0, 0)]), (.ishl, 1, 0, 0, .null, []), (.istore 5, 2, 5, 0, .null, []), (.iload_n 3, 1, 3, 0, .null, []), (.iload 5, 2, 5, 0, .null, []), (.iload 5, 2, 5, 0, .null, []), (.iconst 1, 1, 0, 0, .int 1, []), (.ishl, 1, 0, 0, .null, []), (.ior, 1, 0, 0, .null, []), (.iload 5, 2, 5, 0, .null, []), (.iconst 1, 1, 0, 0, .int 1, []), (.ishr, 1, 0, 0, .null, []), (.ior, 1, 0, 0, .null, []), (.ior, 1, 0, 0, .null, []), (.istore_n 3, 1, 3, 0, .null, [])]
def kb_V_cellsNear_52 : List vx_I := [(.iinc 4 1, 3, 4, 0, .int 1, []), (.goto (-50), 3, 5, 0, .null, [])]
def kb_V_cellsNear_58 : List vx_I := [(.iload_n 3, 1, 3, 0, .null, []), (.ireturn, 1, 0, 0, .null, [])]
def tb_V_cellsNear : List (Nat × List vx_I) := [(0, kb_V_cellsNear_0), (5, kb_V_cellsNear_5), (52, kb_V_cellsNear_52), (58, kb_V_cellsNear_58)]
theorem bk_V_cellsNear_0 : vx_bk tb_V_cellsNear 0 = [(.iconst 0, 1, 0, 0, .int 0, []), (.istore_n 3, 1, 3, 0, .null, []), (.iconst 0, 1, 0, 0, .int 0, []), (.istore 4, 2, 4, 0, .null, [])] := rfl
theorem bk_V_cellsNear_5 : vx_bk tb_V_cellsNear 5 = [(.iload 4, 2, 4, 0, .null, []), (.aload_n 0, 1, 0, 0, .null, []), (.getfield 56, 3, 6, 7, .null, []), (.getfield 88, 3, 5, 5, .null, []), (.if_icmp .ge 44, 3, 58, 0, .null, []), (.iload_n 1, 1, 1, 0, .null, []), (.iload 4, 2, 4, 0, .null, []), (.invokestatic 178, 3, 49, 2, .null, []), (.ifCond .eq 29, 3, 52, 0, .null, []), (.iconst 1, 1, 0, 0, .int 1, []), (.aload_n 0, 1, 0, 0, .null, []), (.iload 4, 2, 4, 0, .null, []), (.iload_n 2, 1, 2, 0, .null, []), (.invokevirtual 138, 3, 56, 2, .null, [(0, 0), (0, 0), (0, 0), (0, 0), (0, 0), (0, 0)]), (.ishl, 1, 0, 0, .null, []), (.istore 5, 2, 5, 0, .null, []), (.iload_n 3, 1, 3, 0, .null, []), (.iload 5, 2, 5, 0, .null, []), (.iload 5, 2, 5, 0, .null, []), (.iconst 1, 1, 0, 0, .int 1, []), (.ishl, 1, 0, 0, .null, []), (.ior, 1, 0, 0, .null, []), (.iload 5, 2, 5, 0, .null, []), (.iconst 1, 1, 0, 0, .int 1, []), (.ishr, 1, 0, 0, .null, []), (.ior, 1, 0, 0, .null, []), (.ior, 1, 0, 0, .null, []), (.istore_n 3, 1, 3, 0, .null, [])] := rfl
theorem bk_V_cellsNear_52 : vx_bk tb_V_cellsNear 52 = [(.iinc 4 1, 3, 4, 0, .int 1, []), (.goto (-50), 3, 5, 0, .null, [])] := rfl
theorem bk_V_cellsNear_58 : vx_bk tb_V_cellsNear 58 = [(.iload_n 3, 1, 3, 0, .null, []), (.ireturn, 1, 0, 0, .null, [])] := rfl
abbrev m_V_cellsNear : Nat := 74
set_option maxRecDepth 100000 in
theorem ck_V_cellsNear : vx_ckM prog_1_method_58_code 6 6 4 false (some .int) tb_V_cellsNear = true := by decide +kernel
theorem ok_V_cellsNear {As : List Value} {sz : Nat} {h : vx_H} {P : Option Value → vx_H → Prop} (L0 : vx_L) (hlen : (vx_ar As).length ≤ 6) (hL0 : vx_ar As ++ List.replicate (6 - (vx_ar As).length) none = L0)
    (body : ∀ (lim z : vx_Z) X, vx_cl0 none lim tb_V_cellsNear (fun r z' h' => z' = z ∧ P r h') X → X 0 L0 [] z h) : vx_Ok m_V_cellsNear As sz h P :=
  vx_ok0 (M := (⟨"VoteWalls", "cellsNear", "(II)I"⟩, prog_1_method_58_code, 6, (some .int), 4, 0, 0, 2, 0)) rfl (ow := 6) rfl ck_V_cellsNear rfl hlen hL0 body
def kb_V_walk_0 : List vx_I := [(.aload_n 0, 1, 0, 0, .null, []), (.iload_n 1, 1, 1, 0, .null, []), (.iload_n 2, 1, 2, 0, .null, []), (.iload_n 3, 1, 3, 0, .null, []), (.iload 4, 2, 4, 0, .null, []), (.invokevirtual 74, 3, 8, 4, .null, [(0, 0), (0, 0), (0, 0), (0, 0), (0, 0), (0, 0)]), (.istore 5, 2, 5, 0, .null, []), (.iload 5, 2, 5, 0, .null, []), (.ifCond .eq 6, 3, 19, 0, .null, []), (.iload 5, 2, 5, 0, .null, []), (.ireturn, 1, 0, 0, .null, [])]
def kb_V_walk_19 : List vx_I := [(.aload_n 0, 1, 0, 0, .null, []), (.invokevirtual 106, 3, 32, 0, .null, [(0, 0), (0, 0), (0, 0), (0, 0), (0, 0), (0, 0)]), (.ifCond .ne 6, 3, 29, 0, .null, []), (.bipush (-3), 2, 0, 0, .int (-3), []), (.ireturn, 1, 0, 0, .null, [])]
def kb_V_walk_29 : List vx_I := [(.iload 4, 2, 4, 0, .null, []), (.bipush 50, 2, 0, 0, .int 50, []), (.if_icmp .le 6, 3, 39, 0, .null, []), (.bipush (-2), 2, 0, 0, .int (-2), []), (.ireturn, 1, 0, 0, .null, [])]
def kb_V_walk_39 : List vx_I := [(.iconst 0, 1, 0, 0, .int 0, []), (.istore 6, 2, 6, 0, .null, [])]
def kb_V_walk_42 : List vx_I := [(.iload 6, 2, 6, 0, .null, []), (.iload 4, 2, 4, 0, .null, []), (.if_icmp .ge 31, 3, 77, 0, .null, []), (.aload_n 0, 1, 0, 0, .null, []), (.aload_n 0, 1, 0, 0, .null, []), (.getfield 13, 3, 6, 0, .null, []), (.iload_n 1, 1, 1, 0, .null, []), (.aaload, 1, 0, 0, .null, []), (.iload_n 3, 1, 3, 0, .null, []), (.iload 6, 2, 6, 0, .null, []), (.iadd, 1, 0, 0, .null, []), (.invokevirtual 181, 3, 18, 1, .null, [(0, 0)]), (.invokevirtual 141, 3, 59, 1, .null, [(0, 0), (0, 0), (0, 0), (0, 0), (0, 0), (0, 0)]), (.ifCond .ne 5, 3, 71, 0, .null, []), (.iconst (-1), 1, 0, 0, .int (-1), []), (.ireturn, 1, 0, 0, .null, [])]
def kb_V_walk_71 : List vx_I := [(.iinc 6 1, 3, 6, 0, .int 1, []), (.goto (-32), 3, 42, 0, .null, [])]
def kb_V_walk_77 : List vx_I := [(.aload_n 0, 1, 0, 0, .null, []), (.aload_n 0, 1, 0, 0, .null, []), (.getfield 13, 3, 6, 0, .null, []), (.iload_n 1, 1, 1, 0, .null, []), (.aaload, 1, 0, 0, .null, []), (.iload_n 3, 1, 3, 0, .null, []), (.iload 4, 2, 4, 0, .null, []), (.invokevirtual 184, 3, 76, 3, .null, [(0, 0), (0, 0), (0, 0), (0, 0), (0, 0), (0, 0)]), (.ireturn, 1, 0, 0, .null, [])]
def tb_V_walk : List (Nat × List vx_I) := [(0, kb_V_walk_0), (19, kb_V_walk_19), (29, kb_V_walk_29), (39, kb_V_walk_39), (42, kb_V_walk_42), (71, kb_V_walk_71), (77, kb_V_walk_77)]
theorem bk_V_walk_0 : vx_bk tb_V_walk 0 = [(.aload_n 0, 1, 0, 0, .null, []), (.iload_n 1, 1, 1, 0, .null, []), (.iload_n 2, 1, 2, 0, .null, []), (.iload_n 3, 1, 3, 0, .null, []), (.iload 4, 2, 4, 0, .null, []), (.invokevirtual 74, 3, 8, 4, .null, [(0, 0), (0, 0), (0, 0), (0, 0), (0, 0), (0, 0)]), (.istore 5, 2, 5, 0, .null, []), (.iload 5, 2, 5, 0, .null, []), (.ifCond .eq 6, 3, 19, 0, .null, []), (.iload 5, 2, 5, 0, .null, []), (.ireturn, 1, 0, 0, .null, [])] := rfl
theorem bk_V_walk_19 : vx_bk tb_V_walk 19 = [(.aload_n 0, 1, 0, 0, .null, []), (.invokevirtual 106, 3, 32, 0, .null, [(0, 0), (0, 0), (0, 0), (0, 0), (0, 0), (0, 0)]), (.ifCond .ne 6, 3, 29, 0, .null, []), (.bipush (-3), 2, 0, 0, .int (-3), []), (.ireturn, 1, 0, 0, .null, [])] := rfl
theorem bk_V_walk_29 : vx_bk tb_V_walk 29 = [(.iload 4, 2, 4, 0, .null, []), (.bipush 50, 2, 0, 0, .int 50, []), (.if_icmp .le 6, 3, 39, 0, .null, []), (.bipush (-2), 2, 0, 0, .int (-2), []), (.ireturn, 1, 0, 0, .null, [])] := rfl
theorem bk_V_walk_39 : vx_bk tb_V_walk 39 = [(.iconst 0, 1, 0, 0, .int 0, []), (.istore 6, 2, 6, 0, .null, [])] := rfl
theorem bk_V_walk_42 : vx_bk tb_V_walk 42 = [(.iload 6, 2, 6, 0, .null, []), (.iload 4, 2, 4, 0, .null, []), (.if_icmp .ge 31, 3, 77, 0, .null, []), (.aload_n 0, 1, 0, 0, .null, []), (.aload_n 0, 1, 0, 0, .null, []), (.getfield 13, 3, 6, 0, .null, []), (.iload_n 1, 1, 1, 0, .null, []), (.aaload, 1, 0, 0, .null, []), (.iload_n 3, 1, 3, 0, .null, []), (.iload 6, 2, 6, 0, .null, []), (.iadd, 1, 0, 0, .null, []), (.invokevirtual 181, 3, 18, 1, .null, [(0, 0)]), (.invokevirtual 141, 3, 59, 1, .null, [(0, 0), (0, 0), (0, 0), (0, 0), (0, 0), (0, 0)]), (.ifCond .ne 5, 3, 71, 0, .null, []), (.iconst (-1), 1, 0, 0, .int (-1), []), (.ireturn, 1, 0, 0, .null, [])] := rfl
theorem bk_V_walk_71 : vx_bk tb_V_walk 71 = [(.iinc 6 1, 3, 6, 0, .int 1, []), (.goto (-32), 3, 42, 0, .null, [])] := rfl
theorem bk_V_walk_77 : vx_bk tb_V_walk 77 = [(.aload_n 0, 1, 0, 0, .null, []), (.aload_n 0, 1, 0, 0, .null, []), (.getfield 13, 3, 6, 0, .null, []), (.iload_n 1, 1, 1, 0, .null, []), (.aaload, 1, 0, 0, .null, []), (.iload_n 3, 1, 3, 0, .null, []), (.iload 4, 2, 4, 0, .null, []), (.invokevirtual 184, 3, 76, 3, .null, [(0, 0), (0, 0), (0, 0), (0, 0), (0, 0), (0, 0)]), (.ireturn, 1, 0, 0, .null, [])] := rfl
abbrev m_V_walk : Nat := 75
set_option maxRecDepth 100000 in
theorem ck_V_walk : vx_ckM prog_1_method_20_code 6 7 7 false (some .int) tb_V_walk = true := by decide +kernel
theorem ok_V_walk {As : List Value} {sz : Nat} {h : vx_H} {P : Option Value → vx_H → Prop} (L0 : vx_L) (hlen : (vx_ar As).length ≤ 7) (hL0 : vx_ar As ++ List.replicate (7 - (vx_ar As).length) none = L0)
    (body : ∀ (lim z : vx_Z) X, vx_cl0 none lim tb_V_walk (fun r z' h' => z' = z ∧ P r h') X → X 0 L0 [] z h) : vx_Ok m_V_walk As sz h P :=
  vx_ok0 (M := (⟨"VoteWalls", "walk", "(IIII)I"⟩, prog_1_method_20_code, 7, (some .int), 7, 0, 0, 4, 0)) rfl (ow := 6) rfl ck_V_walk rfl hlen hL0 body
def kb_V_stepsOfWalk_0 : List vx_I := [(.aload_n 0, 1, 0, 0, .null, []), (.bipush 49, 2, 0, 0, .int 49, []), (.invokevirtual 131, 3, 44, 1, .null, [(0, 0), (0, 0), (0, 0), (0, 0), (0, 0), (0, 0)]), (.iconst 0, 1, 0, 0, .int 0, []), (.istore 4, 2, 4, 0, .null, []), (.iconst 0, 1, 0, 0, .int 0, []), (.istore 5, 2, 5, 0, .null, [])]
def kb_V_stepsOfWalk_12 : List vx_I := [(.iload 5, 2, 5, 0, .null, []), (.iload_n 3, 1, 3, 0, .null, []), (.if_icmp .ge 66, 3, 81, 0, .null, []), (.aload_n 1, 1, 1, 0, .null, []), (.iload_n 2, 1, 2, 0, .null, []), (.iload 5, 2, 5, 0, .null, []), (.iadd, 1, 0, 0, .null, []), (.invokevirtual 181, 3, 18, 1, .null, [(0, 0)]), (.istore 6, 2, 6, 0, .null, []), (.iload 5, 2, 5, 0, .null, []), (.ifCond .ne 7, 3, 37, 0, .null, []), (.iconst 0, 1, 0, 0, .int 0, []), (.goto 4, 3, 38, 0, .null, [])]
def kb_V_stepsOfWalk_37 : List vx_I := [(.iconst 1, 1, 0, 0, .int 1, [])]
def kb_V_stepsOfWalk_38 : List vx_I := [(.istore 7, 2, 7, 0, .null, []), (.iload 6, 2, 6, 0, .null, []), (.iload 4, 2, 4, 0, .null, []), (.isub, 1, 0, 0, .null, []), (.invokestatic 262, 3, 0, 0, .double 0, []), (.iload 7, 2, 7, 0, .null, []), (.if_icmp .gt 18, 3, 68, 0, .null, []), (.aload_n 0, 1, 0, 0, .null, []), (.getfield 49, 3, 6, 6, .null, []), (.iload 6, 2, 6, 0, .null, []), (.iload 5, 2, 5, 0, .null, []), (.invokevirtual 144, 3, 60, 2, .null, [(0, 0), (0, 0), (0, 0), (0, 0)]), (.iconst 2, 1, 0, 0, .int 2, []), (.if_icmp .ge 6, 3, 71, 0, .null, [])]
def kb_V_stepsOfWalk_68 : List vx_I := [(.iload 5, 2, 5, 0, .null, []), (.ireturn, 1, 0, 0, .null, [])]
def kb_V_stepsOfWalk_71 : List vx_I := [(.iload 6, 2, 6, 0, .null, []), (.istore 4, 2, 4, 0, .null, []), (.iinc 5 1, 3, 5, 0, .int 1, []), (.goto (-66), 3, 12, 0, .null, [])]
def kb_V_stepsOfWalk_81 : List vx_I := [(.iload_n 3, 1, 3, 0, .null, []), (.ireturn, 1, 0, 0, .null, [])]
def tb_V_stepsOfWalk : List (Nat × List vx_I) := [(0, kb_V_stepsOfWalk_0), (12, kb_V_stepsOfWalk_12), (37, kb_V_stepsOfWalk_37), (38, kb_V_stepsOfWalk_38), (68, kb_V_stepsOfWalk_68), (71, kb_V_stepsOfWalk_71), (81, kb_V_stepsOfWalk_81)]
theorem bk_V_stepsOfWalk_0 : vx_bk tb_V_stepsOfWalk 0 = [(.aload_n 0, 1, 0, 0, .null, []), (.bipush 49, 2, 0, 0, .int 49, []), (.invokevirtual 131, 3, 44, 1, .null, [(0, 0), (0, 0), (0, 0), (0, 0), (0, 0), (0, 0)]), (.iconst 0, 1, 0, 0, .int 0, []), (.istore 4, 2, 4, 0, .null, []), (.iconst 0, 1, 0, 0, .int 0, []), (.istore 5, 2, 5, 0, .null, [])] := rfl
theorem bk_V_stepsOfWalk_12 : vx_bk tb_V_stepsOfWalk 12 = [(.iload 5, 2, 5, 0, .null, []), (.iload_n 3, 1, 3, 0, .null, []), (.if_icmp .ge 66, 3, 81, 0, .null, []), (.aload_n 1, 1, 1, 0, .null, []), (.iload_n 2, 1, 2, 0, .null, []), (.iload 5, 2, 5, 0, .null, []), (.iadd, 1, 0, 0, .null, []), (.invokevirtual 181, 3, 18, 1, .null, [(0, 0)]), (.istore 6, 2, 6, 0, .null, []), (.iload 5, 2, 5, 0, .null, []), (.ifCond .ne 7, 3, 37, 0, .null, []), (.iconst 0, 1, 0, 0, .int 0, []), (.goto 4, 3, 38, 0, .null, [])] := rfl
theorem bk_V_stepsOfWalk_37 : vx_bk tb_V_stepsOfWalk 37 = [(.iconst 1, 1, 0, 0, .int 1, [])] := rfl
theorem bk_V_stepsOfWalk_38 : vx_bk tb_V_stepsOfWalk 38 = [(.istore 7, 2, 7, 0, .null, []), (.iload 6, 2, 6, 0, .null, []), (.iload 4, 2, 4, 0, .null, []), (.isub, 1, 0, 0, .null, []), (.invokestatic 262, 3, 0, 0, .double 0, []), (.iload 7, 2, 7, 0, .null, []), (.if_icmp .gt 18, 3, 68, 0, .null, []), (.aload_n 0, 1, 0, 0, .null, []), (.getfield 49, 3, 6, 6, .null, []), (.iload 6, 2, 6, 0, .null, []), (.iload 5, 2, 5, 0, .null, []), (.invokevirtual 144, 3, 60, 2, .null, [(0, 0), (0, 0), (0, 0), (0, 0)]), (.iconst 2, 1, 0, 0, .int 2, []), (.if_icmp .ge 6, 3, 71, 0, .null, [])] := rfl
theorem bk_V_stepsOfWalk_68 : vx_bk tb_V_stepsOfWalk 68 = [(.iload 5, 2, 5, 0, .null, []), (.ireturn, 1, 0, 0, .null, [])] := rfl
theorem bk_V_stepsOfWalk_71 : vx_bk tb_V_stepsOfWalk 71 = [(.iload 6, 2, 6, 0, .null, []), (.istore 4, 2, 4, 0, .null, []), (.iinc 5 1, 3, 5, 0, .int 1, []), (.goto (-66), 3, 12, 0, .null, [])] := rfl
theorem bk_V_stepsOfWalk_81 : vx_bk tb_V_stepsOfWalk 81 = [(.iload_n 3, 1, 3, 0, .null, []), (.ireturn, 1, 0, 0, .null, [])] := rfl
abbrev m_V_stepsOfWalk : Nat := 76
set_option maxRecDepth 100000 in
theorem ck_V_stepsOfWalk : vx_ckM prog_1_method_60_code 6 8 6 false (some .int) tb_V_stepsOfWalk = true := by decide +kernel
theorem ok_V_stepsOfWalk {As : List Value} {sz : Nat} {h : vx_H} {P : Option Value → vx_H → Prop} (L0 : vx_L) (hlen : (vx_ar As).length ≤ 8) (hL0 : vx_ar As ++ List.replicate (8 - (vx_ar As).length) none = L0)
    (body : ∀ (lim z : vx_Z) X, vx_cl0 none lim tb_V_stepsOfWalk (fun r z' h' => z' = z ∧ P r h') X → X 0 L0 [] z h) : vx_Ok m_V_stepsOfWalk As sz h P :=
  vx_ok0 (M := (⟨"VoteWalls", "stepsOfWalk", "(LVoteWalls$Sheet;II)I"⟩, prog_1_method_60_code, 8, (some .int), 6, 0, 0, 3, 0)) rfl (ow := 6) rfl ck_V_stepsOfWalk rfl hlen hL0 body
def kb_V_reading_0 : List vx_I := [(.aload_n 0, 1, 0, 0, .null, []), (.iload_n 1, 1, 1, 0, .null, []), (.invokevirtual 110, 3, 34, 1, .null, [(0, 0), (0, 0), (0, 0), (0, 0), (0, 0), (0, 0)]), (.ifCond .ne 5, 3, 10, 0, .null, []), (.iconst (-1), 1, 0, 0, .int (-1), []), (.ireturn, 1, 0, 0, .null, [])]
def kb_V_reading_10 : List vx_I := [(.iload_n 2, 1, 2, 0, .null, []), (.invokestatic 169, 3, 36, 1, .null, []), (.ifCond .eq 13, 3, 27, 0, .null, []), (.iload_n 3, 1, 3, 0, .null, []), (.ifCond .lt 9, 3, 27, 0, .null, []), (.iload_n 3, 1, 3, 0, .null, []), (.bipush 30, 2, 0, 0, .int 30, []), (.if_icmp .le 6, 3, 30, 0, .null, [])]
def kb_V_reading_27 : List vx_I := [(.bipush (-2), 2, 0, 0, .int (-2), []), (.ireturn, 1, 0, 0, .null, [])]
def kb_V_reading_30 : List vx_I := [(.aload_n 0, 1, 0, 0, .null, []), (.getfield 36, 3, 6, 4, .null, []), (.iload_n 1, 1, 1, 0, .null, []), (.iload_n 2, 1, 2, 0, .null, []), (.iload_n 3, 1, 3, 0, .null, []), (.invokevirtual 117, 3, 37, 3, .null, [(0, 0), (0, 0), (0, 0)]), (.ireturn, 1, 0, 0, .null, [])]
def tb_V_reading : List (Nat × List vx_I) := [(0, kb_V_reading_0), (10, kb_V_reading_10), (27, kb_V_reading_27), (30, kb_V_reading_30)]
theorem bk_V_reading_0 : vx_bk tb_V_reading 0 = [(.aload_n 0, 1, 0, 0, .null, []), (.iload_n 1, 1, 1, 0, .null, []), (.invokevirtual 110, 3, 34, 1, .null, [(0, 0), (0, 0), (0, 0), (0, 0), (0, 0), (0, 0)]), (.ifCond .ne 5, 3, 10, 0, .null, []), (.iconst (-1), 1, 0, 0, .int (-1), []), (.ireturn, 1, 0, 0, .null, [])] := rfl
theorem bk_V_reading_10 : vx_bk tb_V_reading 10 = [(.iload_n 2, 1, 2, 0, .null, []), (.invokestatic 169, 3, 36, 1, .null, []), (.ifCond .eq 13, 3, 27, 0, .null, []), (.iload_n 3, 1, 3, 0, .null, []), (.ifCond .lt 9, 3, 27, 0, .null, []), (.iload_n 3, 1, 3, 0, .null, []), (.bipush 30, 2, 0, 0, .int 30, []), (.if_icmp .le 6, 3, 30, 0, .null, [])] := rfl
theorem bk_V_reading_27 : vx_bk tb_V_reading 27 = [(.bipush (-2), 2, 0, 0, .int (-2), []), (.ireturn, 1, 0, 0, .null, [])] := rfl
theorem bk_V_reading_30 : vx_bk tb_V_reading 30 = [(.aload_n 0, 1, 0, 0, .null, []), (.getfield 36, 3, 6, 4, .null, []), (.iload_n 1, 1, 1, 0, .null, []), (.iload_n 2, 1, 2, 0, .null, []), (.iload_n 3, 1, 3, 0, .null, []), (.invokevirtual 117, 3, 37, 3, .null, [(0, 0), (0, 0), (0, 0)]), (.ireturn, 1, 0, 0, .null, [])] := rfl
abbrev m_V_reading : Nat := 77
set_option maxRecDepth 100000 in
theorem ck_V_reading : vx_ckM prog_1_method_21_code 6 4 1 false (some .int) tb_V_reading = true := by decide +kernel
theorem ok_V_reading {As : List Value} {sz : Nat} {h : vx_H} {P : Option Value → vx_H → Prop} (L0 : vx_L) (hlen : (vx_ar As).length ≤ 4) (hL0 : vx_ar As ++ List.replicate (4 - (vx_ar As).length) none = L0)
    (body : ∀ (lim z : vx_Z) X, vx_cl0 none lim tb_V_reading (fun r z' h' => z' = z ∧ P r h') X → X 0 L0 [] z h) : vx_Ok m_V_reading As sz h P :=
  vx_ok0 (M := (⟨"VoteWalls", "reading", "(III)I"⟩, prog_1_method_21_code, 4, (some .int), 1, 0, 0, 3, 0)) rfl (ow := 6) rfl ck_V_reading rfl hlen hL0 body
def kb_V_back_0 : List vx_I := [(.aload_n 0, 1, 0, 0, .null, []), (.getfield 36, 3, 6, 4, .null, []), (.iload_n 1, 1, 1, 0, .null, []), (.invokevirtual 125, 3, 39, 1, .null, [(0, 0), (0, 0), (0, 0)]), (.ireturn, 1, 0, 0, .null, [])]
def tb_V_back : List (Nat × List vx_I) := [(0, kb_V_back_0)]
theorem bk_V_back_0 : vx_bk tb_V_back 0 = [(.aload_n 0, 1, 0, 0, .null, []), (.getfield 36, 3, 6, 4, .null, []), (.iload_n 1, 1, 1, 0, .null, []), (.invokevirtual 125, 3, 39, 1, .null, [(0, 0), (0, 0), (0, 0)]), (.ireturn, 1, 0, 0, .null, [])] := rfl
abbrev m_V_back : Nat := 78
set_option maxRecDepth 100000 in
theorem ck_V_back : vx_ckM prog_1_method_22_code 6 2 1 false (some .int) tb_V_back = true := by decide +kernel
theorem ok_V_back {As : List Value} {sz : Nat} {h : vx_H} {P : Option Value → vx_H → Prop} (L0 : vx_L) (hlen : (vx_ar As).length ≤ 2) (hL0 : vx_ar As ++ List.replicate (2 - (vx_ar As).length) none = L0)
    (body : ∀ (lim z : vx_Z) X, vx_cl0 none lim tb_V_back (fun r z' h' => z' = z ∧ P r h') X → X 0 L0 [] z h) : vx_Ok m_V_back As sz h P :=
  vx_ok0 (M := (⟨"VoteWalls", "back", "(I)I"⟩, prog_1_method_22_code, 2, (some .int), 1, 0, 0, 1, 0)) rfl (ow := 6) rfl ck_V_back rfl hlen hL0 body
def kb_V_struck_0 : List vx_I := [(.aload_n 0, 1, 0, 0, .null, []), (.invokevirtual 106, 3, 32, 0, .null, [(0, 0), (0, 0), (0, 0), (0, 0), (0, 0), (0, 0)]), (.ifCond .ne 6, 3, 10, 0, .null, []), (.bipush (-3), 2, 0, 0, .int (-3), []), (.ireturn, 1, 0, 0, .null, [])]
def kb_V_struck_10 : List vx_I := [(.iconst 0, 1, 0, 0, .int 0, []), (.istore_n 1, 1, 1, 0, .null, []), (.iconst 0, 1, 0, 0, .int 0, []), (.istore_n 2, 1, 2, 0, .null, [])]
def kb_V_struck_14 : List vx_I := [(.iload_n 2, 1, 2, 0, .null, []), (.aload_n 0, 1, 0, 0, .null, []), (.getfield 56, 3, 6, 7, .null, []), (.getfield 88, 3, 5, 5, .null, []), (.if_icmp .ge 32, 3, 54, 0, .null, []), (.aload_n 0, 1, 0, 0, .null, []), (.iconst 0, 1, 0, 0, .int 0, []), (.iconst 1, 1, 0, 0, .int 1, []), (.iload_n 2, 1, 2, 0, .null, []), (.ishl, 1, 0, 0, .null, []), (.bipush 49, 2, 0, 0, .int 49, []), (.invokevirtual 162, 3, 45, 3, .null, [(0, 0), (0, 0), (0, 0), (0, 0), (0, 0), (0, 0)]), (.aload_n 0, 1, 0, 0, .null, []), (.invokevirtual 188, 3, 80, 0, .null, [(0, 0), (0, 0), (0, 0), (0, 0), (0, 0), (0, 0)]), (.ifCond .eq 9, 3, 48, 0, .null, []), (.iload_n 1, 1, 1, 0, .null, []), (.iconst 1, 1, 0, 0, .int 1, []), (.iload_n 2, 1, 2, 0, .null, []), (.ishl, 1, 0, 0, .null, []), (.ior, 1, 0, 0, .null, []), (.istore_n 1, 1, 1, 0, .null, [])]
def kb_V_struck_48 : List vx_I := [(.iinc 2 1, 3, 2, 0, .int 1, []), (.goto (-37), 3, 14, 0, .null, [])]
def kb_V_struck_54 : List vx_I := [(.iload_n 1, 1, 1, 0, .null, []), (.ireturn, 1, 0, 0, .null, [])]
def tb_V_struck : List (Nat × List vx_I) := [(0, kb_V_struck_0), (10, kb_V_struck_10), (14, kb_V_struck_14), (48, kb_V_struck_48), (54, kb_V_struck_54)]
theorem bk_V_struck_0 : vx_bk tb_V_struck 0 = [(.aload_n 0, 1, 0, 0, .null, []), (.invokevirtual 106, 3, 32, 0, .null, [(0, 0), (0, 0), (0, 0), (0, 0), (0, 0), (0, 0)]), (.ifCond .ne 6, 3, 10, 0, .null, []), (.bipush (-3), 2, 0, 0, .int (-3), []), (.ireturn, 1, 0, 0, .null, [])] := rfl
theorem bk_V_struck_10 : vx_bk tb_V_struck 10 = [(.iconst 0, 1, 0, 0, .int 0, []), (.istore_n 1, 1, 1, 0, .null, []), (.iconst 0, 1, 0, 0, .int 0, []), (.istore_n 2, 1, 2, 0, .null, [])] := rfl
theorem bk_V_struck_14 : vx_bk tb_V_struck 14 = [(.iload_n 2, 1, 2, 0, .null, []), (.aload_n 0, 1, 0, 0, .null, []), (.getfield 56, 3, 6, 7, .null, []), (.getfield 88, 3, 5, 5, .null, []), (.if_icmp .ge 32, 3, 54, 0, .null, []), (.aload_n 0, 1, 0, 0, .null, []), (.iconst 0, 1, 0, 0, .int 0, []), (.iconst 1, 1, 0, 0, .int 1, []), (.iload_n 2, 1, 2, 0, .null, []), (.ishl, 1, 0, 0, .null, []), (.bipush 49, 2, 0, 0, .int 49, []), (.invokevirtual 162, 3, 45, 3, .null, [(0, 0), (0, 0), (0, 0), (0, 0), (0, 0), (0, 0)]), (.aload_n 0, 1, 0, 0, .null, []), (.invokevirtual 188, 3, 80, 0, .null, [(0, 0), (0, 0), (0, 0), (0, 0), (0, 0), (0, 0)]), (.ifCond .eq 9, 3, 48, 0, .null, []), (.iload_n 1, 1, 1, 0, .null, []), (.iconst 1, 1, 0, 0, .int 1, []), (.iload_n 2, 1, 2, 0, .null, []), (.ishl, 1, 0, 0, .null, []), (.ior, 1, 0, 0, .null, []), (.istore_n 1, 1, 1, 0, .null, [])] := rfl
theorem bk_V_struck_48 : vx_bk tb_V_struck 48 = [(.iinc 2 1, 3, 2, 0, .int 1, []), (.goto (-37), 3, 14, 0, .null, [])] := rfl
theorem bk_V_struck_54 : vx_bk tb_V_struck 54 = [(.iload_n 1, 1, 1, 0, .null, []), (.ireturn, 1, 0, 0, .null, [])] := rfl
abbrev m_V_struck : Nat := 79
set_option maxRecDepth 100000 in
theorem ck_V_struck : vx_ckM prog_1_method_23_code 6 3 5 false (some .int) tb_V_struck = true := by decide +kernel
theorem ok_V_struck {As : List Value} {sz : Nat} {h : vx_H} {P : Option Value → vx_H → Prop} (L0 : vx_L) (hlen : (vx_ar As).length ≤ 3) (hL0 : vx_ar As ++ List.replicate (3 - (vx_ar As).length) none = L0)
    (body : ∀ (lim z : vx_Z) X, vx_cl0 none lim tb_V_struck (fun r z' h' => z' = z ∧ P r h') X → X 0 L0 [] z h) : vx_Ok m_V_struck As sz h P :=
  vx_ok0 (M := (⟨"VoteWalls", "struck", "()I"⟩, prog_1_method_23_code, 3, (some .int), 5, 0, 0, 0, 0)) rfl (ow := 6) rfl ck_V_struck rfl hlen hL0 body
def kb_V_readingsAreSo_0 : List vx_I := [(.iconst 0, 1, 0, 0, .int 0, []), (.istore_n 1, 1, 1, 0, .null, [])]
def kb_V_readingsAreSo_2 : List vx_I := [(.iload_n 1, 1, 1, 0, .null, []), (.aload_n 0, 1, 0, 0, .null, []), (.getfield 36, 3, 6, 4, .null, []), (.getfield 243, 3, 3, 4, .null, []), (.if_icmp .ge 48, 3, 58, 0, .null, []), (.aload_n 0, 1, 0, 0, .null, []), (.getfield 49, 3, 6, 6, .null, []), (.aload_n 0, 1, 0, 0, .null, []), (.getfield 36, 3, 6, 4, .null, []), (.getfield 265, 3, 3, 0, .null, []), (.iload_n 1, 1, 1, 0, .null, []), (.iaload, 1, 0, 0, .null, []), (.aload_n 0, 1, 0, 0, .null, []), (.getfield 36, 3, 6, 4, .null, []), (.getfield 268, 3, 3, 1, .null, []), (.iload_n 1, 1, 1, 0, .null, []), (.iaload, 1, 0, 0, .null, []), (.invokevirtual 134, 3, 54, 2, .null, [(0, 0), (0, 0), (0, 0), (0, 0)]), (.aload_n 0, 1, 0, 0, .null, []), (.getfield 36, 3, 6, 4, .null, []), (.getfield 271, 3, 3, 2, .null, []), (.iload_n 1, 1, 1, 0, .null, []), (.iaload, 1, 0, 0, .null, []), (.if_icmp .eq 5, 3, 52, 0, .null, []), (.iconst 0, 1, 0, 0, .int 0, []), (.ireturn, 1, 1, 0, .null, [])]
def kb_V_readingsAreSo_52 : List vx_I := [(.iinc 1 1, 3, 1, 0, .int 1, []), (.goto (-53), 3, 2, 0, .null, [])]
def kb_V_readingsAreSo_58 : List vx_I := [(.iconst 1, 1, 0, 0, .int 1, []), (.ireturn, 1, 1, 0, .null, [])]
def tb_V_readingsAreSo : List (Nat × List vx_I) := [(0, kb_V_readingsAreSo_0), (2, kb_V_readingsAreSo_2), (52, kb_V_readingsAreSo_52), (58, kb_V_readingsAreSo_58)]
theorem bk_V_readingsAreSo_0 : vx_bk tb_V_readingsAreSo 0 = [(.iconst 0, 1, 0, 0, .int 0, []), (.istore_n 1, 1, 1, 0, .null, [])] := rfl
theorem bk_V_readingsAreSo_2 : vx_bk tb_V_readingsAreSo 2 = [(.iload_n 1, 1, 1, 0, .null, []), (.aload_n 0, 1, 0, 0, .null, []), (.getfield 36, 3, 6, 4, .null, []), (.getfield 243, 3, 3, 4, .null, []), (.if_icmp .ge 48, 3, 58, 0, .null, []), (.aload_n 0, 1, 0, 0, .null, []), (.getfield 49, 3, 6, 6, .null, []), (.aload_n 0, 1, 0, 0, .null, []), (.getfield 36, 3, 6, 4, .null, []), (.getfield 265, 3, 3, 0, .null, []), (.iload_n 1, 1, 1, 0, .null, []), (.iaload, 1, 0, 0, .null, []), (.aload_n 0, 1, 0, 0, .null, []), (.getfield 36, 3, 6, 4, .null, []), (.getfield 268, 3, 3, 1, .null, []), (.iload_n 1, 1, 1, 0, .null, []), (.iaload, 1, 0, 0, .null, []), (.invokevirtual 134, 3, 54, 2, .null, [(0, 0), (0, 0), (0, 0), (0, 0)]), (.aload_n 0, 1, 0, 0, .null, []), (.getfield 36, 3, 6, 4, .null, []), (.getfield 271, 3, 3, 2, .null, []), (.iload_n 1, 1, 1, 0, .null, []), (.iaload, 1, 0, 0, .null, []), (.if_icmp .eq 5, 3, 52, 0, .null, []), (.iconst 0, 1, 0, 0, .int 0, []), (.ireturn, 1, 1, 0, .null, [])] := rfl
theorem bk_V_readingsAreSo_52 : vx_bk tb_V_readingsAreSo 52 = [(.iinc 1 1, 3, 1, 0, .int 1, []), (.goto (-53), 3, 2, 0, .null, [])] := rfl
theorem bk_V_readingsAreSo_58 : vx_bk tb_V_readingsAreSo 58 = [(.iconst 1, 1, 0, 0, .int 1, []), (.ireturn, 1, 1, 0, .null, [])] := rfl
abbrev m_V_readingsAreSo : Nat := 80
set_option maxRecDepth 100000 in
theorem ck_V_readingsAreSo : vx_ckM prog_1_method_61_code 6 2 2 false (some .boolean) tb_V_readingsAreSo = true := by decide +kernel
theorem ok_V_readingsAreSo {As : List Value} {sz : Nat} {h : vx_H} {P : Option Value → vx_H → Prop} (L0 : vx_L) (hlen : (vx_ar As).length ≤ 2) (hL0 : vx_ar As ++ List.replicate (2 - (vx_ar As).length) none = L0)
    (body : ∀ (lim z : vx_Z) X, vx_cl0 none lim tb_V_readingsAreSo (fun r z' h' => z' = z ∧ P r h') X → X 0 L0 [] z h) : vx_Ok m_V_readingsAreSo As sz h P :=
  vx_ok0 (M := (⟨"VoteWalls", "readingsAreSo", "()Z"⟩, prog_1_method_61_code, 2, (some .boolean), 2, 0, 0, 0, 0)) rfl (ow := 6) rfl ck_V_readingsAreSo rfl hlen hL0 body
def kb_V_laws_0 : List vx_I := [(.aload_n 0, 1, 0, 0, .null, []), (.invokevirtual 106, 3, 32, 0, .null, [(0, 0), (0, 0), (0, 0), (0, 0), (0, 0), (0, 0)]), (.ifCond .ne 6, 3, 10, 0, .null, []), (.bipush (-3), 2, 0, 0, .int (-3), []), (.ireturn, 1, 0, 0, .null, [])]
def kb_V_laws_10 : List vx_I := [(.iconst 0, 1, 0, 0, .int 0, []), (.istore_n 1, 1, 1, 0, .null, []), (.iconst 0, 1, 0, 0, .int 0, []), (.istore_n 2, 1, 2, 0, .null, [])]
def kb_V_laws_14 : List vx_I := [(.iload_n 2, 1, 2, 0, .null, []), (.iconst 1, 1, 0, 0, .int 1, []), (.if_icmp .gt 42, 3, 58, 0, .null, []), (.aload_n 0, 1, 0, 0, .null, []), (.getfield 49, 3, 6, 6, .null, []), (.aload_n 0, 1, 0, 0, .null, []), (.getfield 56, 3, 6, 7, .null, []), (.aload_n 0, 1, 0, 0, .null, []), (.getfield 42, 3, 6, 5, .null, []), (.iload_n 2, 1, 2, 0, .null, []), (.iconst 0, 1, 0, 0, .int 0, []), (.iconst 0, 1, 0, 0, .int 0, []), (.bipush 49, 2, 0, 0, .int 49, []), (.invokevirtual 191, 3, 46, 6, .null, [(0, 0), (0, 0), (0, 0), (0, 0)]), (.aload_n 0, 1, 0, 0, .null, []), (.invokevirtual 188, 3, 80, 0, .null, [(0, 0), (0, 0), (0, 0), (0, 0), (0, 0), (0, 0)]), (.ifCond .eq 9, 3, 52, 0, .null, []), (.iload_n 1, 1, 1, 0, .null, []), (.iconst 1, 1, 0, 0, .int 1, []), (.iload_n 2, 1, 2, 0, .null, []), (.ishl, 1, 0, 0, .null, []), (.ior, 1, 0, 0, .null, []), (.istore_n 1, 1, 1, 0, .null, [])]
def kb_V_laws_52 : List vx_I := [(.iinc 2 1, 3, 2, 0, .int 1, []), (.goto (-41), 3, 14, 0, .null, [])]
def kb_V_laws_58 : List vx_I := [(.iload_n 1, 1, 1, 0, .null, []), (.ireturn, 1, 0, 0, .null, [])]
def tb_V_laws : List (Nat × List vx_I) := [(0, kb_V_laws_0), (10, kb_V_laws_10), (14, kb_V_laws_14), (52, kb_V_laws_52), (58, kb_V_laws_58)]
theorem bk_V_laws_0 : vx_bk tb_V_laws 0 = [(.aload_n 0, 1, 0, 0, .null, []), (.invokevirtual 106, 3, 32, 0, .null, [(0, 0), (0, 0), (0, 0), (0, 0), (0, 0), (0, 0)]), (.ifCond .ne 6, 3, 10, 0, .null, []), (.bipush (-3), 2, 0, 0, .int (-3), []), (.ireturn, 1, 0, 0, .null, [])] := rfl
theorem bk_V_laws_10 : vx_bk tb_V_laws 10 = [(.iconst 0, 1, 0, 0, .int 0, []), (.istore_n 1, 1, 1, 0, .null, []), (.iconst 0, 1, 0, 0, .int 0, []), (.istore_n 2, 1, 2, 0, .null, [])] := rfl
theorem bk_V_laws_14 : vx_bk tb_V_laws 14 = [(.iload_n 2, 1, 2, 0, .null, []), (.iconst 1, 1, 0, 0, .int 1, []), (.if_icmp .gt 42, 3, 58, 0, .null, []), (.aload_n 0, 1, 0, 0, .null, []), (.getfield 49, 3, 6, 6, .null, []), (.aload_n 0, 1, 0, 0, .null, []), (.getfield 56, 3, 6, 7, .null, []), (.aload_n 0, 1, 0, 0, .null, []), (.getfield 42, 3, 6, 5, .null, []), (.iload_n 2, 1, 2, 0, .null, []), (.iconst 0, 1, 0, 0, .int 0, []), (.iconst 0, 1, 0, 0, .int 0, []), (.bipush 49, 2, 0, 0, .int 49, []), (.invokevirtual 191, 3, 46, 6, .null, [(0, 0), (0, 0), (0, 0), (0, 0)]), (.aload_n 0, 1, 0, 0, .null, []), (.invokevirtual 188, 3, 80, 0, .null, [(0, 0), (0, 0), (0, 0), (0, 0), (0, 0), (0, 0)]), (.ifCond .eq 9, 3, 52, 0, .null, []), (.iload_n 1, 1, 1, 0, .null, []), (.iconst 1, 1, 0, 0, .int 1, []), (.iload_n 2, 1, 2, 0, .null, []), (.ishl, 1, 0, 0, .null, []), (.ior, 1, 0, 0, .null, []), (.istore_n 1, 1, 1, 0, .null, [])] := rfl
theorem bk_V_laws_52 : vx_bk tb_V_laws 52 = [(.iinc 2 1, 3, 2, 0, .int 1, []), (.goto (-41), 3, 14, 0, .null, [])] := rfl
theorem bk_V_laws_58 : vx_bk tb_V_laws 58 = [(.iload_n 1, 1, 1, 0, .null, []), (.ireturn, 1, 0, 0, .null, [])] := rfl
abbrev m_V_laws : Nat := 81
set_option maxRecDepth 100000 in
theorem ck_V_laws : vx_ckM prog_1_method_24_code 6 3 4 false (some .int) tb_V_laws = true := by decide +kernel
theorem ok_V_laws {As : List Value} {sz : Nat} {h : vx_H} {P : Option Value → vx_H → Prop} (L0 : vx_L) (hlen : (vx_ar As).length ≤ 3) (hL0 : vx_ar As ++ List.replicate (3 - (vx_ar As).length) none = L0)
    (body : ∀ (lim z : vx_Z) X, vx_cl0 none lim tb_V_laws (fun r z' h' => z' = z ∧ P r h') X → X 0 L0 [] z h) : vx_Ok m_V_laws As sz h P :=
  vx_ok0 (M := (⟨"VoteWalls", "laws", "()I"⟩, prog_1_method_24_code, 3, (some .int), 4, 0, 0, 0, 0)) rfl (ow := 6) rfl ck_V_laws rfl hlen hL0 body
def kb_V_stood_0 : List vx_I := [(.aload_n 0, 1, 0, 0, .null, []), (.iload_n 1, 1, 1, 0, .null, []), (.invokevirtual 91, 3, 29, 1, .null, [(0, 0), (0, 0), (0, 0), (0, 0), (0, 0), (0, 0)]), (.ifCond .ne 5, 3, 10, 0, .null, []), (.iconst (-1), 1, 0, 0, .int (-1), []), (.ireturn, 1, 0, 0, .null, [])]
def kb_V_stood_10 : List vx_I := [(.aload_n 0, 1, 0, 0, .null, []), (.getfield 56, 3, 6, 7, .null, []), (.getfield 99, 3, 5, 2, .null, []), (.iload_n 1, 1, 1, 0, .null, []), (.iaload, 1, 0, 0, .null, []), (.istore_n 2, 1, 2, 0, .null, []), (.iconst 0, 1, 0, 0, .int 0, []), (.istore_n 3, 1, 3, 0, .null, []), (.iconst 0, 1, 0, 0, .int 0, []), (.istore 4, 2, 4, 0, .null, [])]
def kb_V_stood_25 : List vx_I := [(.iload 4, 2, 4, 0, .null, []), (.aload_n 0, 1, 0, 0, .null, []), (.getfield 56, 3, 6, 7, .null, []), (.getfield 166, 3, 5, 3, .null, []), (.if_icmp .ge 40, 3, 74, 0, .null, []), (.aload_n 0, 1, 0, 0, .null, []), (.getfield 56, 3, 6, 7, .null, []), (.getfield 99, 3, 5, 2, .null, []), (.iload_n 1, 1, 1, 0, .null, []), (.iload 4, 2, 4, 0, .null, []), (.iastore, 1, 0, 0, .null, []), (.aload_n 0, 1, 0, 0, .null, []), (.bipush 49, 2, 0, 0, .int 49, []), (.invokevirtual 131, 3, 44, 1, .null, [(0, 0), (0, 0), (0, 0), (0, 0), (0, 0), (0, 0)]), (.aload_n 0, 1, 0, 0, .null, []), (.invokevirtual 188, 3, 80, 0, .null, [(0, 0), (0, 0), (0, 0), (0, 0), (0, 0), (0, 0)]), (.ifCond .eq 10, 3, 68, 0, .null, []), (.iload_n 3, 1, 3, 0, .null, []), (.iconst 1, 1, 0, 0, .int 1, []), (.iload 4, 2, 4, 0, .null, []), (.ishl, 1, 0, 0, .null, []), (.ior, 1, 0, 0, .null, []), (.istore_n 3, 1, 3, 0, .null, [])]
def kb_V_stood_68 : List vx_I := [(.iinc 4 1, 3, 4, 0, .int 1, []), (.goto (-46), 3, 25, 0, .null, [])]
def kb_V_stood_74 : List vx_I := [(.aload_n 0, 1, 0, 0, .null, []), (.getfield 56, 3, 6, 7, .null, []), (.getfield 99, 3, 5, 2, .null, []), (.iload_n 1, 1, 1, 0, .null, []), (.iload_n 2, 1, 2, 0, .null, []), (.iastore, 1, 0, 0, .null, []), (.iload_n 3, 1, 3, 0, .null, []), (.ireturn, 1, 0, 0, .null, [])]
def tb_V_stood : List (Nat × List vx_I) := [(0, kb_V_stood_0), (10, kb_V_stood_10), (25, kb_V_stood_25), (68, kb_V_stood_68), (74, kb_V_stood_74)]
theorem bk_V_stood_0 : vx_bk tb_V_stood 0 = [(.aload_n 0, 1, 0, 0, .null, []), (.iload_n 1, 1, 1, 0, .null, []), (.invokevirtual 91, 3, 29, 1, .null, [(0, 0), (0, 0), (0, 0), (0, 0), (0, 0), (0, 0)]), (.ifCond .ne 5, 3, 10, 0, .null, []), (.iconst (-1), 1, 0, 0, .int (-1), []), (.ireturn, 1, 0, 0, .null, [])] := rfl
theorem bk_V_stood_10 : vx_bk tb_V_stood 10 = [(.aload_n 0, 1, 0, 0, .null, []), (.getfield 56, 3, 6, 7, .null, []), (.getfield 99, 3, 5, 2, .null, []), (.iload_n 1, 1, 1, 0, .null, []), (.iaload, 1, 0, 0, .null, []), (.istore_n 2, 1, 2, 0, .null, []), (.iconst 0, 1, 0, 0, .int 0, []), (.istore_n 3, 1, 3, 0, .null, []), (.iconst 0, 1, 0, 0, .int 0, []), (.istore 4, 2, 4, 0, .null, [])] := rfl
theorem bk_V_stood_25 : vx_bk tb_V_stood 25 = [(.iload 4, 2, 4, 0, .null, []), (.aload_n 0, 1, 0, 0, .null, []), (.getfield 56, 3, 6, 7, .null, []), (.getfield 166, 3, 5, 3, .null, []), (.if_icmp .ge 40, 3, 74, 0, .null, []), (.aload_n 0, 1, 0, 0, .null, []), (.getfield 56, 3, 6, 7, .null, []), (.getfield 99, 3, 5, 2, .null, []), (.iload_n 1, 1, 1, 0, .null, []), (.iload 4, 2, 4, 0, .null, []), (.iastore, 1, 0, 0, .null, []), (.aload_n 0, 1, 0, 0, .null, []), (.bipush 49, 2, 0, 0, .int 49, []), (.invokevirtual 131, 3, 44, 1, .null, [(0, 0), (0, 0), (0, 0), (0, 0), (0, 0), (0, 0)]), (.aload_n 0, 1, 0, 0, .null, []), (.invokevirtual 188, 3, 80, 0, .null, [(0, 0), (0, 0), (0, 0), (0, 0), (0, 0), (0, 0)]), (.ifCond .eq 10, 3, 68, 0, .null, []), (.iload_n 3, 1, 3, 0, .null, []), (.iconst 1, 1, 0, 0, .int 1, []), (.iload 4, 2, 4, 0, .null, []), (.ishl, 1, 0, 0, .null, []), (.ior, 1, 0, 0, .null, []), (.istore_n 3, 1, 3, 0, .null, [])] := rfl
theorem bk_V_stood_68 : vx_bk tb_V_stood 68 = [(.iinc 4 1, 3, 4, 0, .int 1, []), (.goto (-46), 3, 25, 0, .null, [])] := rfl
theorem bk_V_stood_74 : vx_bk tb_V_stood 74 = [(.aload_n 0, 1, 0, 0, .null, []), (.getfield 56, 3, 6, 7, .null, []), (.getfield 99, 3, 5, 2, .null, []), (.iload_n 1, 1, 1, 0, .null, []), (.iload_n 2, 1, 2, 0, .null, []), (.iastore, 1, 0, 0, .null, []), (.iload_n 3, 1, 3, 0, .null, []), (.ireturn, 1, 0, 0, .null, [])] := rfl
abbrev m_V_stood : Nat := 82
set_option maxRecDepth 100000 in
theorem ck_V_stood : vx_ckM prog_1_method_25_code 6 5 6 false (some .int) tb_V_stood = true := by decide +kernel
theorem ok_V_stood {As : List Value} {sz : Nat} {h : vx_H} {P : Option Value → vx_H → Prop} (L0 : vx_L) (hlen : (vx_ar As).length ≤ 5) (hL0 : vx_ar As ++ List.replicate (5 - (vx_ar As).length) none = L0)
    (body : ∀ (lim z : vx_Z) X, vx_cl0 none lim tb_V_stood (fun r z' h' => z' = z ∧ P r h') X → X 0 L0 [] z h) : vx_Ok m_V_stood As sz h P :=
  vx_ok0 (M := (⟨"VoteWalls", "stood", "(I)I"⟩, prog_1_method_25_code, 5, (some .int), 6, 0, 0, 1, 0)) rfl (ow := 6) rfl ck_V_stood rfl hlen hL0 body
def kb_V_odds_0 : List vx_I := [(.aload_n 0, 1, 0, 0, .null, []), (.iload_n 1, 1, 1, 0, .null, []), (.invokevirtual 91, 3, 29, 1, .null, [(0, 0), (0, 0), (0, 0), (0, 0), (0, 0), (0, 0)]), (.ifCond .eq 11, 3, 16, 0, .null, []), (.aload_n 0, 1, 0, 0, .null, []), (.iload_n 2, 1, 2, 0, .null, []), (.invokevirtual 91, 3, 29, 1, .null, [(0, 0), (0, 0), (0, 0), (0, 0), (0, 0), (0, 0)]), (.ifCond .ne 7, 3, 20, 0, .null, [])]
def kb_V_odds_16 : List vx_I := [(.ldc2_w 195, 3, 0, 0, .long (-9223372036854775808), []), (.lreturn, 1, 0, 0, .null, [])]
def kb_V_odds_20 : List vx_I := [(.iload_n 3, 1, 3, 0, .null, []), (.invokestatic 169, 3, 36, 1, .null, []), (.ifCond .eq 14, 3, 38, 0, .null, []), (.iload 4, 2, 4, 0, .null, []), (.ifCond .eq 13, 3, 42, 0, .null, []), (.iload 4, 2, 4, 0, .null, []), (.iconst 1, 1, 0, 0, .int 1, []), (.if_icmp .eq 7, 3, 42, 0, .null, [])]
def kb_V_odds_38 : List vx_I := [(.ldc2_w 195, 3, 0, 0, .long (-9223372036854775808), []), (.lreturn, 1, 0, 0, .null, [])]
def kb_V_odds_42 : List vx_I := [(.iconst 0, 1, 0, 0, .int 0, []), (.istore 5, 2, 5, 0, .null, []), (.iconst 1, 1, 0, 0, .int 1, []), (.aload_n 0, 1, 0, 0, .null, []), (.getfield 56, 3, 6, 7, .null, []), (.getfield 88, 3, 5, 5, .null, []), (.ishl, 1, 0, 0, .null, []), (.istore 6, 2, 6, 0, .null, []), (.iconst 0, 1, 0, 0, .int 0, []), (.istore 7, 2, 7, 0, .null, [])]
def kb_V_odds_59 : List vx_I := [(.iload 7, 2, 7, 0, .null, []), (.iload 6, 2, 6, 0, .null, []), (.if_icmp .ge 35, 3, 98, 0, .null, []), (.aload_n 0, 1, 0, 0, .null, []), (.iconst 0, 1, 0, 0, .int 0, []), (.iload 7, 2, 7, 0, .null, []), (.iload_n 3, 1, 3, 0, .null, []), (.invokevirtual 162, 3, 45, 3, .null, [(0, 0), (0, 0), (0, 0), (0, 0), (0, 0), (0, 0)]), (.aload_n 0, 1, 0, 0, .null, []), (.iload_n 1, 1, 1, 0, .null, []), (.iload_n 3, 1, 3, 0, .null, []), (.invokevirtual 138, 3, 56, 2, .null, [(0, 0), (0, 0), (0, 0), (0, 0), (0, 0), (0, 0)]), (.aload_n 0, 1, 0, 0, .null, []), (.iload_n 2, 1, 2, 0, .null, []), (.iload_n 3, 1, 3, 0, .null, []), (.invokevirtual 138, 3, 56, 2, .null, [(0, 0), (0, 0), (0, 0), (0, 0), (0, 0), (0, 0)]), (.if_icmp .ne 6, 3, 92, 0, .null, []), (.iinc 5 1, 3, 5, 0, .int 1, [])]
def kb_V_odds_92 : List vx_I := [(.iinc 7 1, 3, 7, 0, .int 1, []), (.goto (-36), 3, 59, 0, .null, [])]
def kb_V_odds_98 : List vx_I := [(.iload 6, 2, 6, 0, .null, []), (.istore 7, 2, 7, 0, .null, []), (.iconst 0, 1, 0, 0, .int 0, []), (.istore 8, 2, 8, 0, .null, [])]
def kb_V_odds_105 : List vx_I := [(.iload 8, 2, 8, 0, .null, []), (.aload_n 0, 1, 0, 0, .null, []), (.getfield 56, 3, 6, 7, .null, []), (.getfield 88, 3, 5, 5, .null, []), (.if_icmp .ge 28, 3, 142, 0, .null, []), (.iload 5, 2, 5, 0, .null, []), (.iconst 1, 1, 0, 0, .int 1, []), (.iand, 1, 0, 0, .null, []), (.ifCond .ne 21, 3, 142, 0, .null, []), (.iload 5, 2, 5, 0, .null, []), (.iconst 1, 1, 0, 0, .int 1, []), (.ishr, 1, 0, 0, .null, []), (.istore 5, 2, 5, 0, .null, []), (.iload 7, 2, 7, 0, .null, []), (.iconst 1, 1, 0, 0, .int 1, []), (.ishr, 1, 0, 0, .null, []), (.istore 7, 2, 7, 0, .null, []), (.iinc 8 1, 3, 8, 0, .int 1, []), (.goto (-34), 3, 105, 0, .null, [])]
def kb_V_odds_142 : List vx_I := [(.iload 4, 2, 4, 0, .null, []), (.ifCond .ne 9, 3, 153, 0, .null, []), (.iload 5, 2, 5, 0, .null, []), (.i2l, 1, 0, 0, .null, []), (.goto 6, 3, 156, 0, .null, [])]
def kb_V_odds_153 : List vx_I := [(.iload 7, 2, 7, 0, .null, []), (.i2l, 1, 0, 0, .null, [])]
def kb_V_odds_156 : List vx_I := [(.lreturn, 1, 0, 0, .null, [])]
def tb_V_odds : List (Nat × List vx_I) := [(0, kb_V_odds_0), (16, kb_V_odds_16), (20, kb_V_odds_20), (38, kb_V_odds_38), (42, kb_V_odds_42), (59, kb_V_odds_59), (92, kb_V_odds_92), (98, kb_V_odds_98), (105, kb_V_odds_105), (142, kb_V_odds_142), (153, kb_V_odds_153), (156, kb_V_odds_156)]
theorem bk_V_odds_0 : vx_bk tb_V_odds 0 = [(.aload_n 0, 1, 0, 0, .null, []), (.iload_n 1, 1, 1, 0, .null, []), (.invokevirtual 91, 3, 29, 1, .null, [(0, 0), (0, 0), (0, 0), (0, 0), (0, 0), (0, 0)]), (.ifCond .eq 11, 3, 16, 0, .null, []), (.aload_n 0, 1, 0, 0, .null, []), (.iload_n 2, 1, 2, 0, .null, []), (.invokevirtual 91, 3, 29, 1, .null, [(0, 0), (0, 0), (0, 0), (0, 0), (0, 0), (0, 0)]), (.ifCond .ne 7, 3, 20, 0, .null, [])] := rfl
theorem bk_V_odds_16 : vx_bk tb_V_odds 16 = [(.ldc2_w 195, 3, 0, 0, .long (-9223372036854775808), []), (.lreturn, 1, 0, 0, .null, [])] := rfl
theorem bk_V_odds_20 : vx_bk tb_V_odds 20 = [(.iload_n 3, 1, 3, 0, .null, []), (.invokestatic 169, 3, 36, 1, .null, []), (.ifCond .eq 14, 3, 38, 0, .null, []), (.iload 4, 2, 4, 0, .null, []), (.ifCond .eq 13, 3, 42, 0, .null, []), (.iload 4, 2, 4, 0, .null, []), (.iconst 1, 1, 0, 0, .int 1, []), (.if_icmp .eq 7, 3, 42, 0, .null, [])] := rfl
theorem bk_V_odds_38 : vx_bk tb_V_odds 38 = [(.ldc2_w 195, 3, 0, 0, .long (-9223372036854775808), []), (.lreturn, 1, 0, 0, .null, [])] := rfl
theorem bk_V_odds_42 : vx_bk tb_V_odds 42 = [(.iconst 0, 1, 0, 0, .int 0, []), (.istore 5, 2, 5, 0, .null, []), (.iconst 1, 1, 0, 0, .int 1, []), (.aload_n 0, 1, 0, 0, .null, []), (.getfield 56, 3, 6, 7, .null, []), (.getfield 88, 3, 5, 5, .null, []), (.ishl, 1, 0, 0, .null, []), (.istore 6, 2, 6, 0, .null, []), (.iconst 0, 1, 0, 0, .int 0, []), (.istore 7, 2, 7, 0, .null, [])] := rfl
theorem bk_V_odds_59 : vx_bk tb_V_odds 59 = [(.iload 7, 2, 7, 0, .null, []), (.iload 6, 2, 6, 0, .null, []), (.if_icmp .ge 35, 3, 98, 0, .null, []), (.aload_n 0, 1, 0, 0, .null, []), (.iconst 0, 1, 0, 0, .int 0, []), (.iload 7, 2, 7, 0, .null, []), (.iload_n 3, 1, 3, 0, .null, []), (.invokevirtual 162, 3, 45, 3, .null, [(0, 0), (0, 0), (0, 0), (0, 0), (0, 0), (0, 0)]), (.aload_n 0, 1, 0, 0, .null, []), (.iload_n 1, 1, 1, 0, .null, []), (.iload_n 3, 1, 3, 0, .null, []), (.invokevirtual 138, 3, 56, 2, .null, [(0, 0), (0, 0), (0, 0), (0, 0), (0, 0), (0, 0)]), (.aload_n 0, 1, 0, 0, .null, []), (.iload_n 2, 1, 2, 0, .null, []), (.iload_n 3, 1, 3, 0, .null, []), (.invokevirtual 138, 3, 56, 2, .null, [(0, 0), (0, 0), (0, 0), (0, 0), (0, 0), (0, 0)]), (.if_icmp .ne 6, 3, 92, 0, .null, []), (.iinc 5 1, 3, 5, 0, .int 1, [])] := rfl
theorem bk_V_odds_92 : vx_bk tb_V_odds 92 = [(.iinc 7 1, 3, 7, 0, .int 1, []), (.goto (-36), 3, 59, 0, .null, [])] := rfl
theorem bk_V_odds_98 : vx_bk tb_V_odds 98 = [(.iload 6, 2, 6, 0, .null, []), (.istore 7, 2, 7, 0, .null, []), (.iconst 0, 1, 0, 0, .int 0, []), (.istore 8, 2, 8, 0, .null, [])] := rfl
theorem bk_V_odds_105 : vx_bk tb_V_odds 105 = [(.iload 8, 2, 8, 0, .null, []), (.aload_n 0, 1, 0, 0, .null, []), (.getfield 56, 3, 6, 7, .null, []), (.getfield 88, 3, 5, 5, .null, []), (.if_icmp .ge 28, 3, 142, 0, .null, []), (.iload 5, 2, 5, 0, .null, []), (.iconst 1, 1, 0, 0, .int 1, []), (.iand, 1, 0, 0, .null, []), (.ifCond .ne 21, 3, 142, 0, .null, []), (.iload 5, 2, 5, 0, .null, []), (.iconst 1, 1, 0, 0, .int 1, []), (.ishr, 1, 0, 0, .null, []), (.istore 5, 2, 5, 0, .null, []), (.iload 7, 2, 7, 0, .null, []), (.iconst 1, 1, 0, 0, .int 1, []), (.ishr, 1, 0, 0, .null, []), (.istore 7, 2, 7, 0, .null, []), (.iinc 8 1, 3, 8, 0, .int 1, []), (.goto (-34), 3, 105, 0, .null, [])] := rfl
theorem bk_V_odds_142 : vx_bk tb_V_odds 142 = [(.iload 4, 2, 4, 0, .null, []), (.ifCond .ne 9, 3, 153, 0, .null, []), (.iload 5, 2, 5, 0, .null, []), (.i2l, 1, 0, 0, .null, []), (.goto 6, 3, 156, 0, .null, [])] := rfl
theorem bk_V_odds_153 : vx_bk tb_V_odds 153 = [(.iload 7, 2, 7, 0, .null, []), (.i2l, 1, 0, 0, .null, [])] := rfl
theorem bk_V_odds_156 : vx_bk tb_V_odds 156 = [(.lreturn, 1, 0, 0, .null, [])] := rfl
abbrev m_V_odds : Nat := 83
set_option maxRecDepth 100000 in
theorem ck_V_odds : vx_ckM prog_1_method_26_code 6 9 5 false (some .long) tb_V_odds = true := by decide +kernel
theorem ok_V_odds {As : List Value} {sz : Nat} {h : vx_H} {P : Option Value → vx_H → Prop} (L0 : vx_L) (hlen : (vx_ar As).length ≤ 9) (hL0 : vx_ar As ++ List.replicate (9 - (vx_ar As).length) none = L0)
    (body : ∀ (lim z : vx_Z) X, vx_cl0 none lim tb_V_odds (fun r z' h' => z' = z ∧ P r h') X → X 0 L0 [] z h) : vx_Ok m_V_odds As sz h P :=
  vx_ok0 (M := (⟨"VoteWalls", "odds", "(IIII)J"⟩, prog_1_method_26_code, 9, (some .long), 5, 0, 0, 4, 0)) rfl (ow := 6) rfl ck_V_odds rfl hlen hL0 body
def kb_V_sheet_0 : List vx_I := [(.aload_n 0, 1, 0, 0, .null, []), (.iconst 0, 1, 0, 0, .int 0, []), (.putfield 70, 3, 6, 11, .int 0, []), (.iload_n 1, 1, 1, 0, .null, []), (.invokestatic 197, 3, 9, 1, .null, []), (.ifCond .ne 5, 3, 14, 0, .null, []), (.iconst (-1), 1, 0, 0, .int (-1), []), (.ireturn, 1, 0, 0, .null, [])]
def kb_V_sheet_14 : List vx_I := [(.iload_n 2, 1, 2, 0, .null, []), (.invokestatic 200, 3, 10, 1, .null, []), (.ifCond .eq 9, 3, 27, 0, .null, []), (.iload_n 3, 1, 3, 0, .null, []), (.bipush 60, 2, 0, 0, .int 60, []), (.if_icmp .le 6, 3, 30, 0, .null, [])]
def kb_V_sheet_27 : List vx_I := [(.bipush (-2), 2, 0, 0, .int (-2), []), (.ireturn, 1, 0, 0, .null, [])]
def kb_V_sheet_30 : List vx_I := [(.iload_n 3, 1, 3, 0, .null, []), (.ifCond .ge 9, 3, 40, 0, .null, []), (.aload_n 0, 1, 0, 0, .null, []), (.iconst 4, 1, 0, 0, .int 4, []), (.invokevirtual 203, 3, 13, 1, .null, [(0, 0), (0, 0), (0, 0), (0, 0), (0, 0), (0, 0)]), (.ireturn, 1, 0, 0, .null, [])]
def kb_V_sheet_40 : List vx_I := [(.aload_n 0, 1, 0, 0, .null, []), (.getfield 13, 3, 6, 0, .null, []), (.iload_n 1, 1, 1, 0, .null, []), (.aaload, 1, 0, 0, .null, []), (.iload_n 2, 1, 2, 0, .null, []), (.iload_n 3, 1, 3, 0, .null, []), (.invokevirtual 206, 3, 85, 2, .null, [(0, 0)]), (.iconst 1, 1, 0, 0, .int 1, []), (.ireturn, 1, 0, 0, .null, [])]
def tb_V_sheet : List (Nat × List vx_I) := [(0, kb_V_sheet_0), (14, kb_V_sheet_14), (27, kb_V_sheet_27), (30, kb_V_sheet_30), (40, kb_V_sheet_40)]
theorem bk_V_sheet_0 : vx_bk tb_V_sheet 0 = [(.aload_n 0, 1, 0, 0, .null, []), (.iconst 0, 1, 0, 0, .int 0, []), (.putfield 70, 3, 6, 11, .int 0, []), (.iload_n 1, 1, 1, 0, .null, []), (.invokestatic 197, 3, 9, 1, .null, []), (.ifCond .ne 5, 3, 14, 0, .null, []), (.iconst (-1), 1, 0, 0, .int (-1), []), (.ireturn, 1, 0, 0, .null, [])] := rfl
theorem bk_V_sheet_14 : vx_bk tb_V_sheet 14 = [(.iload_n 2, 1, 2, 0, .null, []), (.invokestatic 200, 3, 10, 1, .null, []), (.ifCond .eq 9, 3, 27, 0, .null, []), (.iload_n 3, 1, 3, 0, .null, []), (.bipush 60, 2, 0, 0, .int 60, []), (.if_icmp .le 6, 3, 30, 0, .null, [])] := rfl
theorem bk_V_sheet_27 : vx_bk tb_V_sheet 27 = [(.bipush (-2), 2, 0, 0, .int (-2), []), (.ireturn, 1, 0, 0, .null, [])] := rfl
theorem bk_V_sheet_30 : vx_bk tb_V_sheet 30 = [(.iload_n 3, 1, 3, 0, .null, []), (.ifCond .ge 9, 3, 40, 0, .null, []), (.aload_n 0, 1, 0, 0, .null, []), (.iconst 4, 1, 0, 0, .int 4, []), (.invokevirtual 203, 3, 13, 1, .null, [(0, 0), (0, 0), (0, 0), (0, 0), (0, 0), (0, 0)]), (.ireturn, 1, 0, 0, .null, [])] := rfl
theorem bk_V_sheet_40 : vx_bk tb_V_sheet 40 = [(.aload_n 0, 1, 0, 0, .null, []), (.getfield 13, 3, 6, 0, .null, []), (.iload_n 1, 1, 1, 0, .null, []), (.aaload, 1, 0, 0, .null, []), (.iload_n 2, 1, 2, 0, .null, []), (.iload_n 3, 1, 3, 0, .null, []), (.invokevirtual 206, 3, 85, 2, .null, [(0, 0)]), (.iconst 1, 1, 0, 0, .int 1, []), (.ireturn, 1, 0, 0, .null, [])] := rfl
abbrev m_V_sheet : Nat := 84
set_option maxRecDepth 100000 in
theorem ck_V_sheet : vx_ckM prog_1_method_27_code 6 4 2 false (some .int) tb_V_sheet = true := by decide +kernel
theorem ok_V_sheet {As : List Value} {sz : Nat} {h : vx_H} {P : Option Value → vx_H → Prop} (L0 : vx_L) (hlen : (vx_ar As).length ≤ 4) (hL0 : vx_ar As ++ List.replicate (4 - (vx_ar As).length) none = L0)
    (body : ∀ (lim z : vx_Z) X, vx_cl0 none lim tb_V_sheet (fun r z' h' => z' = z ∧ P r h') X → X 0 L0 [] z h) : vx_Ok m_V_sheet As sz h P :=
  vx_ok0 (M := (⟨"VoteWalls", "sheet", "(III)I"⟩, prog_1_method_27_code, 4, (some .int), 2, 0, 0, 3, 0)) rfl (ow := 6) rfl ck_V_sheet rfl hlen hL0 body
def kb_V_lose_0 : List vx_I := [(.iload_n 1, 1, 1, 0, .null, []), (.invokestatic 197, 3, 9, 1, .null, []), (.ifCond .ne 5, 3, 9, 0, .null, []), (.iconst (-1), 1, 0, 0, .int (-1), []), (.ireturn, 1, 0, 0, .null, [])]
def kb_V_lose_9 : List vx_I := [(.aload_n 0, 1, 0, 0, .null, []), (.getfield 13, 3, 6, 0, .null, []), (.iload_n 1, 1, 1, 0, .null, []), (.aaload, 1, 0, 0, .null, []), (.getfield 210, 3, 1, 1, .null, []), (.iconst (-1), 1, 0, 0, .int (-1), []), (.if_icmp .ne 7, 3, 26, 0, .null, []), (.iconst 0, 1, 0, 0, .int 0, []), (.goto 4, 3, 27, 0, .null, [])]
def kb_V_lose_26 : List vx_I := [(.iconst 1, 1, 0, 0, .int 1, [])]
def kb_V_lose_27 : List vx_I := [(.istore_n 2, 1, 2, 0, .null, []), (.aload_n 0, 1, 0, 0, .null, []), (.getfield 13, 3, 6, 0, .null, []), (.iload_n 1, 1, 1, 0, .null, []), (.aaload, 1, 0, 0, .null, []), (.iconst (-1), 1, 0, 0, .int (-1), []), (.iconst 0, 1, 0, 0, .int 0, []), (.invokevirtual 206, 3, 85, 2, .null, [(0, 0)]), (.iload_n 2, 1, 2, 0, .null, []), (.ireturn, 1, 0, 0, .null, [])]
def tb_V_lose : List (Nat × List vx_I) := [(0, kb_V_lose_0), (9, kb_V_lose_9), (26, kb_V_lose_26), (27, kb_V_lose_27)]
theorem bk_V_lose_0 : vx_bk tb_V_lose 0 = [(.iload_n 1, 1, 1, 0, .null, []), (.invokestatic 197, 3, 9, 1, .null, []), (.ifCond .ne 5, 3, 9, 0, .null, []), (.iconst (-1), 1, 0, 0, .int (-1), []), (.ireturn, 1, 0, 0, .null, [])] := rfl
theorem bk_V_lose_9 : vx_bk tb_V_lose 9 = [(.aload_n 0, 1, 0, 0, .null, []), (.getfield 13, 3, 6, 0, .null, []), (.iload_n 1, 1, 1, 0, .null, []), (.aaload, 1, 0, 0, .null, []), (.getfield 210, 3, 1, 1, .null, []), (.iconst (-1), 1, 0, 0, .int (-1), []), (.if_icmp .ne 7, 3, 26, 0, .null, []), (.iconst 0, 1, 0, 0, .int 0, []), (.goto 4, 3, 27, 0, .null, [])] := rfl
theorem bk_V_lose_26 : vx_bk tb_V_lose 26 = [(.iconst 1, 1, 0, 0, .int 1, [])] := rfl
theorem bk_V_lose_27 : vx_bk tb_V_lose 27 = [(.istore_n 2, 1, 2, 0, .null, []), (.aload_n 0, 1, 0, 0, .null, []), (.getfield 13, 3, 6, 0, .null, []), (.iload_n 1, 1, 1, 0, .null, []), (.aaload, 1, 0, 0, .null, []), (.iconst (-1), 1, 0, 0, .int (-1), []), (.iconst 0, 1, 0, 0, .int 0, []), (.invokevirtual 206, 3, 85, 2, .null, [(0, 0)]), (.iload_n 2, 1, 2, 0, .null, []), (.ireturn, 1, 0, 0, .null, [])] := rfl
abbrev m_V_lose : Nat := 86
set_option maxRecDepth 100000 in
theorem ck_V_lose : vx_ckM prog_1_method_28_code 6 3 2 false (some .int) tb_V_lose = true := by decide +kernel
theorem ok_V_lose {As : List Value} {sz : Nat} {h : vx_H} {P : Option Value → vx_H → Prop} (L0 : vx_L) (hlen : (vx_ar As).length ≤ 3) (hL0 : vx_ar As ++ List.replicate (3 - (vx_ar As).length) none = L0)
    (body : ∀ (lim z : vx_Z) X, vx_cl0 none lim tb_V_lose (fun r z' h' => z' = z ∧ P r h') X → X 0 L0 [] z h) : vx_Ok m_V_lose As sz h P :=
  vx_ok0 (M := (⟨"VoteWalls", "lose", "(I)I"⟩, prog_1_method_28_code, 3, (some .int), 2, 0, 0, 1, 0)) rfl (ow := 6) rfl ck_V_lose rfl hlen hL0 body
def kb_V_put_0 : List vx_I := [(.aload_n 0, 1, 0, 0, .null, []), (.iconst 0, 1, 0, 0, .int 0, []), (.putfield 70, 3, 6, 11, .int 0, []), (.iload_n 1, 1, 1, 0, .null, []), (.invokestatic 197, 3, 9, 1, .null, []), (.ifCond .ne 5, 3, 14, 0, .null, []), (.iconst (-1), 1, 0, 0, .int (-1), []), (.ireturn, 1, 0, 0, .null, [])]
def kb_V_put_14 : List vx_I := [(.aload_n 0, 1, 0, 0, .null, []), (.getfield 13, 3, 6, 0, .null, []), (.iload_n 1, 1, 1, 0, .null, []), (.aaload, 1, 0, 0, .null, []), (.getfield 210, 3, 1, 1, .null, []), (.iconst (-1), 1, 0, 0, .int (-1), []), (.if_icmp .ne 9, 3, 33, 0, .null, []), (.aload_n 0, 1, 0, 0, .null, []), (.iconst 1, 1, 0, 0, .int 1, []), (.invokevirtual 203, 3, 13, 1, .null, [(0, 0), (0, 0), (0, 0), (0, 0), (0, 0), (0, 0)]), (.ireturn, 1, 0, 0, .null, [])]
def kb_V_put_33 : List vx_I := [(.aload_n 0, 1, 0, 0, .null, []), (.getfield 13, 3, 6, 0, .null, []), (.iload_n 1, 1, 1, 0, .null, []), (.aaload, 1, 0, 0, .null, []), (.iload_n 2, 1, 2, 0, .null, []), (.iconst 1, 1, 0, 0, .int 1, []), (.invokevirtual 213, 3, 12, 2, .null, [(0, 0)]), (.ifCond .ne 9, 3, 53, 0, .null, []), (.aload_n 0, 1, 0, 0, .null, []), (.iconst 3, 1, 0, 0, .int 3, []), (.invokevirtual 203, 3, 13, 1, .null, [(0, 0), (0, 0), (0, 0), (0, 0), (0, 0), (0, 0)]), (.ireturn, 1, 0, 0, .null, [])]
def kb_V_put_53 : List vx_I := [(.aload_n 0, 1, 0, 0, .null, []), (.getfield 13, 3, 6, 0, .null, []), (.iload_n 1, 1, 1, 0, .null, []), (.aaload, 1, 0, 0, .null, []), (.iload_n 2, 1, 2, 0, .null, []), (.iload_n 3, 1, 3, 0, .null, []), (.invokevirtual 216, 3, 88, 2, .null, [(0, 0)]), (.iconst 1, 1, 0, 0, .int 1, []), (.ireturn, 1, 0, 0, .null, [])]
def tb_V_put : List (Nat × List vx_I) := [(0, kb_V_put_0), (14, kb_V_put_14), (33, kb_V_put_33), (53, kb_V_put_53)]
theorem bk_V_put_0 : vx_bk tb_V_put 0 = [(.aload_n 0, 1, 0, 0, .null, []), (.iconst 0, 1, 0, 0, .int 0, []), (.putfield 70, 3, 6, 11, .int 0, []), (.iload_n 1, 1, 1, 0, .null, []), (.invokestatic 197, 3, 9, 1, .null, []), (.ifCond .ne 5, 3, 14, 0, .null, []), (.iconst (-1), 1, 0, 0, .int (-1), []), (.ireturn, 1, 0, 0, .null, [])] := rfl
theorem bk_V_put_14 : vx_bk tb_V_put 14 = [(.aload_n 0, 1, 0, 0, .null, []), (.getfield 13, 3, 6, 0, .null, []), (.iload_n 1, 1, 1, 0, .null, []), (.aaload, 1, 0, 0, .null, []), (.getfield 210, 3, 1, 1, .null, []), (.iconst (-1), 1, 0, 0, .int (-1), []), (.if_icmp .ne 9, 3, 33, 0, .null, []), (.aload_n 0, 1, 0, 0, .null, []), (.iconst 1, 1, 0, 0, .int 1, []), (.invokevirtual 203, 3, 13, 1, .null, [(0, 0), (0, 0), (0, 0), (0, 0), (0, 0), (0, 0)]), (.ireturn, 1, 0, 0, .null, [])] := rfl
theorem bk_V_put_33 : vx_bk tb_V_put 33 = [(.aload_n 0, 1, 0, 0, .null, []), (.getfield 13, 3, 6, 0, .null, []), (.iload_n 1, 1, 1, 0, .null, []), (.aaload, 1, 0, 0, .null, []), (.iload_n 2, 1, 2, 0, .null, []), (.iconst 1, 1, 0, 0, .int 1, []), (.invokevirtual 213, 3, 12, 2, .null, [(0, 0)]), (.ifCond .ne 9, 3, 53, 0, .null, []), (.aload_n 0, 1, 0, 0, .null, []), (.iconst 3, 1, 0, 0, .int 3, []), (.invokevirtual 203, 3, 13, 1, .null, [(0, 0), (0, 0), (0, 0), (0, 0), (0, 0), (0, 0)]), (.ireturn, 1, 0, 0, .null, [])] := rfl
theorem bk_V_put_53 : vx_bk tb_V_put 53 = [(.aload_n 0, 1, 0, 0, .null, []), (.getfield 13, 3, 6, 0, .null, []), (.iload_n 1, 1, 1, 0, .null, []), (.aaload, 1, 0, 0, .null, []), (.iload_n 2, 1, 2, 0, .null, []), (.iload_n 3, 1, 3, 0, .null, []), (.invokevirtual 216, 3, 88, 2, .null, [(0, 0)]), (.iconst 1, 1, 0, 0, .int 1, []), (.ireturn, 1, 0, 0, .null, [])] := rfl
abbrev m_V_put : Nat := 87
set_option maxRecDepth 100000 in
theorem ck_V_put : vx_ckM prog_1_method_29_code 6 4 2 false (some .int) tb_V_put = true := by decide +kernel
theorem ok_V_put {As : List Value} {sz : Nat} {h : vx_H} {P : Option Value → vx_H → Prop} (L0 : vx_L) (hlen : (vx_ar As).length ≤ 4) (hL0 : vx_ar As ++ List.replicate (4 - (vx_ar As).length) none = L0)
    (body : ∀ (lim z : vx_Z) X, vx_cl0 none lim tb_V_put (fun r z' h' => z' = z ∧ P r h') X → X 0 L0 [] z h) : vx_Ok m_V_put As sz h P :=
  vx_ok0 (M := (⟨"VoteWalls", "put", "(III)I"⟩, prog_1_method_29_code, 4, (some .int), 2, 0, 0, 3, 0)) rfl (ow := 6) rfl ck_V_put rfl hlen hL0 body
def kb_V_cell_0 : List vx_I := [(.aload_n 0, 1, 0, 0, .null, []), (.iconst 0, 1, 0, 0, .int 0, []), (.putfield 70, 3, 6, 11, .int 0, []), (.iload_n 1, 1, 1, 0, .null, []), (.invokestatic 197, 3, 9, 1, .null, []), (.ifCond .eq 10, 3, 19, 0, .null, []), (.iload_n 3, 1, 3, 0, .null, []), (.invokestatic 200, 3, 10, 1, .null, []), (.ifCond .ne 7, 3, 23, 0, .null, [])]
def kb_V_cell_19 : List vx_I := [(.ldc2_w 195, 3, 0, 0, .long (-9223372036854775808), []), (.lreturn, 1, 0, 0, .null, [])]
def kb_V_cell_23 : List vx_I := [(.aload_n 0, 1, 0, 0, .null, []), (.aload_n 0, 1, 0, 0, .null, []), (.getfield 13, 3, 6, 0, .null, []), (.iload_n 1, 1, 1, 0, .null, []), (.aaload, 1, 0, 0, .null, []), (.iload_n 3, 1, 3, 0, .null, []), (.iload_n 2, 1, 2, 0, .null, []), (.iconst 1, 1, 0, 0, .int 1, []), (.invokevirtual 219, 3, 11, 3, .null, [(0, 0)]), (.putfield 70, 3, 6, 11, .int 0, []), (.aload_n 0, 1, 0, 0, .null, []), (.getfield 70, 3, 6, 11, .null, []), (.ifCond .ne 17, 3, 60, 0, .null, []), (.aload_n 0, 1, 0, 0, .null, []), (.getfield 13, 3, 6, 0, .null, []), (.iload_n 1, 1, 1, 0, .null, []), (.aaload, 1, 0, 0, .null, []), (.iload_n 2, 1, 2, 0, .null, []), (.invokevirtual 181, 3, 18, 1, .null, [(0, 0)]), (.i2l, 1, 0, 0, .null, []), (.goto 6, 3, 63, 0, .null, [])]
def kb_V_cell_60 : List vx_I := [(.ldc2_w 195, 3, 0, 0, .long (-9223372036854775808), [])]
def kb_V_cell_63 : List vx_I := [(.lreturn, 1, 0, 0, .null, [])]
def tb_V_cell : List (Nat × List vx_I) := [(0, kb_V_cell_0), (19, kb_V_cell_19), (23, kb_V_cell_23), (60, kb_V_cell_60), (63, kb_V_cell_63)]
theorem bk_V_cell_0 : vx_bk tb_V_cell 0 = [(.aload_n 0, 1, 0, 0, .null, []), (.iconst 0, 1, 0, 0, .int 0, []), (.putfield 70, 3, 6, 11, .int 0, []), (.iload_n 1, 1, 1, 0, .null, []), (.invokestatic 197, 3, 9, 1, .null, []), (.ifCond .eq 10, 3, 19, 0, .null, []), (.iload_n 3, 1, 3, 0, .null, []), (.invokestatic 200, 3, 10, 1, .null, []), (.ifCond .ne 7, 3, 23, 0, .null, [])] := rfl
theorem bk_V_cell_19 : vx_bk tb_V_cell 19 = [(.ldc2_w 195, 3, 0, 0, .long (-9223372036854775808), []), (.lreturn, 1, 0, 0, .null, [])] := rfl
theorem bk_V_cell_23 : vx_bk tb_V_cell 23 = [(.aload_n 0, 1, 0, 0, .null, []), (.aload_n 0, 1, 0, 0, .null, []), (.getfield 13, 3, 6, 0, .null, []), (.iload_n 1, 1, 1, 0, .null, []), (.aaload, 1, 0, 0, .null, []), (.iload_n 3, 1, 3, 0, .null, []), (.iload_n 2, 1, 2, 0, .null, []), (.iconst 1, 1, 0, 0, .int 1, []), (.invokevirtual 219, 3, 11, 3, .null, [(0, 0)]), (.putfield 70, 3, 6, 11, .int 0, []), (.aload_n 0, 1, 0, 0, .null, []), (.getfield 70, 3, 6, 11, .null, []), (.ifCond .ne 17, 3, 60, 0, .null, []), (.aload_n 0, 1, 0, 0, .null, []), (.getfield 13, 3, 6, 0, .null, []), (.iload_n 1, 1, 1, 0, .null, []), (.aaload, 1, 0, 0, .null, []), (.iload_n 2, 1, 2, 0, .null, []), (.invokevirtual 181, 3, 18, 1, .null, [(0, 0)]), (.i2l, 1, 0, 0, .null, []), (.goto 6, 3, 63, 0, .null, [])] := rfl
theorem bk_V_cell_60 : vx_bk tb_V_cell 60 = [(.ldc2_w 195, 3, 0, 0, .long (-9223372036854775808), [])] := rfl
theorem bk_V_cell_63 : vx_bk tb_V_cell 63 = [(.lreturn, 1, 0, 0, .null, [])] := rfl
abbrev m_V_cell : Nat := 90
set_option maxRecDepth 100000 in
theorem ck_V_cell : vx_ckM prog_1_method_30_code 6 4 2 false (some .long) tb_V_cell = true := by decide +kernel
theorem ok_V_cell {As : List Value} {sz : Nat} {h : vx_H} {P : Option Value → vx_H → Prop} (L0 : vx_L) (hlen : (vx_ar As).length ≤ 4) (hL0 : vx_ar As ++ List.replicate (4 - (vx_ar As).length) none = L0)
    (body : ∀ (lim z : vx_Z) X, vx_cl0 none lim tb_V_cell (fun r z' h' => z' = z ∧ P r h') X → X 0 L0 [] z h) : vx_Ok m_V_cell As sz h P :=
  vx_ok0 (M := (⟨"VoteWalls", "cell", "(III)J"⟩, prog_1_method_30_code, 4, (some .long), 2, 0, 0, 3, 0)) rfl (ow := 6) rfl ck_V_cell rfl hlen hL0 body
def kb_V_copy_0 : List vx_I := [(.aload_n 0, 1, 0, 0, .null, []), (.iconst 0, 1, 0, 0, .int 0, []), (.putfield 70, 3, 6, 11, .int 0, []), (.iload_n 1, 1, 1, 0, .null, []), (.invokestatic 197, 3, 9, 1, .null, []), (.ifCond .eq 10, 3, 19, 0, .null, []), (.iload_n 3, 1, 3, 0, .null, []), (.invokestatic 197, 3, 9, 1, .null, []), (.ifCond .ne 5, 3, 21, 0, .null, [])]
def kb_V_copy_19 : List vx_I := [(.iconst (-1), 1, 0, 0, .int (-1), []), (.ireturn, 1, 0, 0, .null, [])]
def kb_V_copy_21 : List vx_I := [(.aload_n 0, 1, 0, 0, .null, []), (.getfield 13, 3, 6, 0, .null, []), (.iload_n 1, 1, 1, 0, .null, []), (.aaload, 1, 0, 0, .null, []), (.astore 6, 2, 6, 0, .null, []), (.aload_n 0, 1, 0, 0, .null, []), (.getfield 13, 3, 6, 0, .null, []), (.iload_n 3, 1, 3, 0, .null, []), (.aaload, 1, 0, 0, .null, []), (.astore 7, 2, 7, 0, .null, []), (.aload 6, 2, 6, 0, .null, []), (.getfield 210, 3, 1, 1, .null, []), (.iconst (-1), 1, 0, 0, .int (-1), []), (.if_icmp .eq 12, 3, 55, 0, .null, []), (.aload 7, 2, 7, 0, .null, []), (.getfield 210, 3, 1, 1, .null, []), (.iconst (-1), 1, 0, 0, .int (-1), []), (.if_icmp .ne 9, 3, 61, 0, .null, [])]
def kb_V_copy_55 : List vx_I := [(.aload_n 0, 1, 0, 0, .null, []), (.iconst 1, 1, 0, 0, .int 1, []), (.invokevirtual 203, 3, 13, 1, .null, [(0, 0), (0, 0), (0, 0), (0, 0), (0, 0), (0, 0)]), (.ireturn, 1, 0, 0, .null, [])]
def kb_V_copy_61 : List vx_I := [(.aload 6, 2, 6, 0, .null, []), (.getfield 210, 3, 1, 1, .null, []), (.aload 7, 2, 7, 0, .null, []), (.getfield 210, 3, 1, 1, .null, []), (.if_icmp .eq 9, 3, 80, 0, .null, []), (.aload_n 0, 1, 0, 0, .null, []), (.iconst 2, 1, 0, 0, .int 2, []), (.invokevirtual 203, 3, 13, 1, .null, [(0, 0), (0, 0), (0, 0), (0, 0), (0, 0), (0, 0)]), (.ireturn, 1, 0, 0, .null, [])]
def kb_V_copy_80 : List vx_I := [(.aload 6, 2, 6, 0, .null, []), (.iload_n 2, 1, 2, 0, .null, []), (.iload 5, 2, 5, 0, .null, []), (.invokevirtual 213, 3, 12, 2, .null, [(0, 0)]), (.ifCond .eq 15, 3, 103, 0, .null, []), (.aload 7, 2, 7, 0, .null, []), (.iload 4, 2, 4, 0, .null, []), (.iload 5, 2, 5, 0, .null, []), (.invokevirtual 213, 3, 12, 2, .null, [(0, 0)]), (.ifCond .ne 9, 3, 109, 0, .null, [])]
def kb_V_copy_103 : List vx_I := [(.aload_n 0, 1, 0, 0, .null, []), (.iconst 3, 1, 0, 0, .int 3, []), (.invokevirtual 203, 3, 13, 1, .null, [(0, 0), (0, 0), (0, 0), (0, 0), (0, 0), (0, 0)]), (.ireturn, 1, 0, 0, .null, [])]
def kb_V_copy_109 : List vx_I := [(.aload 6, 2, 6, 0, .null, []), (.getfield 222, 3, 1, 0, .null, []), (.iload_n 2, 1, 2, 0, .null, []), (.aload 7, 2, 7, 0, .null, []), (.getfield 222, 3, 1, 0, .null, []), (.iload 4, 2, 4, 0, .null, []), (.iload 5, 2, 5, 0, .null, []), (.invokestatic 225, 3, 0, 0, .int 0, []), (.iload 5, 2, 5, 0, .null, []), (.ireturn, 1, 0, 0, .null, [])]
def tb_V_copy : List (Nat × List vx_I) := [(0, kb_V_copy_0), (19, kb_V_copy_19), (21, kb_V_copy_21), (55, kb_V_copy_55), (61, kb_V_copy_61), (80, kb_V_copy_80), (103, kb_V_copy_103), (109, kb_V_copy_109)]
theorem bk_V_copy_0 : vx_bk tb_V_copy 0 = [(.aload_n 0, 1, 0, 0, .null, []), (.iconst 0, 1, 0, 0, .int 0, []), (.putfield 70, 3, 6, 11, .int 0, []), (.iload_n 1, 1, 1, 0, .null, []), (.invokestatic 197, 3, 9, 1, .null, []), (.ifCond .eq 10, 3, 19, 0, .null, []), (.iload_n 3, 1, 3, 0, .null, []), (.invokestatic 197, 3, 9, 1, .null, []), (.ifCond .ne 5, 3, 21, 0, .null, [])] := rfl
theorem bk_V_copy_19 : vx_bk tb_V_copy 19 = [(.iconst (-1), 1, 0, 0, .int (-1), []), (.ireturn, 1, 0, 0, .null, [])] := rfl
theorem bk_V_copy_21 : vx_bk tb_V_copy 21 = [(.aload_n 0, 1, 0, 0, .null, []), (.getfield 13, 3, 6, 0, .null, []), (.iload_n 1, 1, 1, 0, .null, []), (.aaload, 1, 0, 0, .null, []), (.astore 6, 2, 6, 0, .null, []), (.aload_n 0, 1, 0, 0, .null, []), (.getfield 13, 3, 6, 0, .null, []), (.iload_n 3, 1, 3, 0, .null, []), (.aaload, 1, 0, 0, .null, []), (.astore 7, 2, 7, 0, .null, []), (.aload 6, 2, 6, 0, .null, []), (.getfield 210, 3, 1, 1, .null, []), (.iconst (-1), 1, 0, 0, .int (-1), []), (.if_icmp .eq 12, 3, 55, 0, .null, []), (.aload 7, 2, 7, 0, .null, []), (.getfield 210, 3, 1, 1, .null, []), (.iconst (-1), 1, 0, 0, .int (-1), []), (.if_icmp .ne 9, 3, 61, 0, .null, [])] := rfl
theorem bk_V_copy_55 : vx_bk tb_V_copy 55 = [(.aload_n 0, 1, 0, 0, .null, []), (.iconst 1, 1, 0, 0, .int 1, []), (.invokevirtual 203, 3, 13, 1, .null, [(0, 0), (0, 0), (0, 0), (0, 0), (0, 0), (0, 0)]), (.ireturn, 1, 0, 0, .null, [])] := rfl
theorem bk_V_copy_61 : vx_bk tb_V_copy 61 = [(.aload 6, 2, 6, 0, .null, []), (.getfield 210, 3, 1, 1, .null, []), (.aload 7, 2, 7, 0, .null, []), (.getfield 210, 3, 1, 1, .null, []), (.if_icmp .eq 9, 3, 80, 0, .null, []), (.aload_n 0, 1, 0, 0, .null, []), (.iconst 2, 1, 0, 0, .int 2, []), (.invokevirtual 203, 3, 13, 1, .null, [(0, 0), (0, 0), (0, 0), (0, 0), (0, 0), (0, 0)]), (.ireturn, 1, 0, 0, .null, [])] := rfl
theorem bk_V_copy_80 : vx_bk tb_V_copy 80 = [(.aload 6, 2, 6, 0, .null, []), (.iload_n 2, 1, 2, 0, .null, []), (.iload 5, 2, 5, 0, .null, []), (.invokevirtual 213, 3, 12, 2, .null, [(0, 0)]), (.ifCond .eq 15, 3, 103, 0, .null, []), (.aload 7, 2, 7, 0, .null, []), (.iload 4, 2, 4, 0, .null, []), (.iload 5, 2, 5, 0, .null, []), (.invokevirtual 213, 3, 12, 2, .null, [(0, 0)]), (.ifCond .ne 9, 3, 109, 0, .null, [])] := rfl
theorem bk_V_copy_103 : vx_bk tb_V_copy 103 = [(.aload_n 0, 1, 0, 0, .null, []), (.iconst 3, 1, 0, 0, .int 3, []), (.invokevirtual 203, 3, 13, 1, .null, [(0, 0), (0, 0), (0, 0), (0, 0), (0, 0), (0, 0)]), (.ireturn, 1, 0, 0, .null, [])] := rfl
theorem bk_V_copy_109 : vx_bk tb_V_copy 109 = [(.aload 6, 2, 6, 0, .null, []), (.getfield 222, 3, 1, 0, .null, []), (.iload_n 2, 1, 2, 0, .null, []), (.aload 7, 2, 7, 0, .null, []), (.getfield 222, 3, 1, 0, .null, []), (.iload 4, 2, 4, 0, .null, []), (.iload 5, 2, 5, 0, .null, []), (.invokestatic 225, 3, 0, 0, .int 0, []), (.iload 5, 2, 5, 0, .null, []), (.ireturn, 1, 0, 0, .null, [])] := rfl
abbrev m_V_copy : Nat := 91
set_option maxRecDepth 100000 in
theorem ck_V_copy : vx_ckM prog_1_method_31_code 6 8 1 false (some .int) tb_V_copy = true := by decide +kernel
theorem ok_V_copy {As : List Value} {sz : Nat} {h : vx_H} {P : Option Value → vx_H → Prop} (L0 : vx_L) (hlen : (vx_ar As).length ≤ 8) (hL0 : vx_ar As ++ List.replicate (8 - (vx_ar As).length) none = L0)
    (body : ∀ (lim z : vx_Z) X, vx_cl0 none lim tb_V_copy (fun r z' h' => z' = z ∧ P r h') X → X 0 L0 [] z h) : vx_Ok m_V_copy As sz h P :=
  vx_ok0 (M := (⟨"VoteWalls", "copy", "(IIIII)I"⟩, prog_1_method_31_code, 8, (some .int), 1, 0, 0, 5, 0)) rfl (ow := 6) rfl ck_V_copy rfl hlen hL0 body
def kb_V_tell_0 : List vx_I := [(.aload_n 0, 1, 0, 0, .null, []), (.iload_n 1, 1, 1, 0, .null, []), (.invokevirtual 91, 3, 29, 1, .null, [(0, 0), (0, 0), (0, 0), (0, 0), (0, 0), (0, 0)]), (.ifCond .ne 5, 3, 10, 0, .null, []), (.iconst (-1), 1, 0, 0, .int (-1), []), (.ireturn, 1, 0, 0, .null, [])]
def kb_V_tell_10 : List vx_I := [(.aload_n 0, 1, 0, 0, .null, []), (.getfield 56, 3, 6, 7, .null, []), (.getfield 95, 3, 5, 1, .null, []), (.iload_n 1, 1, 1, 0, .null, []), (.iaload, 1, 0, 0, .null, []), (.lookupswitch 53 #[(1, 39), (2, 25)], 25, 72, 0, .null, [(1, 58), (2, 44)])]
def kb_V_tell_44 : List vx_I := [(.aload_n 0, 1, 0, 0, .null, []), (.aload_n 0, 1, 0, 0, .null, []), (.getfield 56, 3, 6, 7, .null, []), (.getfield 99, 3, 5, 2, .null, []), (.iload_n 1, 1, 1, 0, .null, []), (.iaload, 1, 0, 0, .null, []), (.invokevirtual 231, 3, 93, 1, .null, [(0, 0), (0, 0), (0, 0), (0, 0), (0, 0), (0, 0)]), (.ireturn, 1, 0, 0, .null, [])]
def kb_V_tell_58 : List vx_I := [(.aload_n 0, 1, 0, 0, .null, []), (.aload_n 0, 1, 0, 0, .null, []), (.getfield 56, 3, 6, 7, .null, []), (.getfield 99, 3, 5, 2, .null, []), (.iload_n 1, 1, 1, 0, .null, []), (.iaload, 1, 0, 0, .null, []), (.invokevirtual 234, 3, 95, 1, .null, [(0, 0), (0, 0), (0, 0), (0, 0), (0, 0), (0, 0)]), (.ireturn, 1, 0, 0, .null, [])]
def kb_V_tell_72 : List vx_I := [(.aload_n 0, 1, 0, 0, .null, []), (.aload_n 0, 1, 0, 0, .null, []), (.getfield 56, 3, 6, 7, .null, []), (.getfield 99, 3, 5, 2, .null, []), (.iload_n 1, 1, 1, 0, .null, []), (.iaload, 1, 0, 0, .null, []), (.invokevirtual 237, 3, 96, 1, .null, [(0, 0), (0, 0), (0, 0), (0, 0), (0, 0), (0, 0)]), (.ireturn, 1, 0, 0, .null, [])]
def tb_V_tell : List (Nat × List vx_I) := [(0, kb_V_tell_0), (10, kb_V_tell_10), (44, kb_V_tell_44), (58, kb_V_tell_58), (72, kb_V_tell_72)]
theorem bk_V_tell_0 : vx_bk tb_V_tell 0 = [(.aload_n 0, 1, 0, 0, .null, []), (.iload_n 1, 1, 1, 0, .null, []), (.invokevirtual 91, 3, 29, 1, .null, [(0, 0), (0, 0), (0, 0), (0, 0), (0, 0), (0, 0)]), (.ifCond .ne 5, 3, 10, 0, .null, []), (.iconst (-1), 1, 0, 0, .int (-1), []), (.ireturn, 1, 0, 0, .null, [])] := rfl
theorem bk_V_tell_10 : vx_bk tb_V_tell 10 = [(.aload_n 0, 1, 0, 0, .null, []), (.getfield 56, 3, 6, 7, .null, []), (.getfield 95, 3, 5, 1, .null, []), (.iload_n 1, 1, 1, 0, .null, []), (.iaload, 1, 0, 0, .null, []), (.lookupswitch 53 #[(1, 39), (2, 25)], 25, 72, 0, .null, [(1, 58), (2, 44)])] := rfl
theorem bk_V_tell_44 : vx_bk tb_V_tell 44 = [(.aload_n 0, 1, 0, 0, .null, []), (.aload_n 0, 1, 0, 0, .null, []), (.getfield 56, 3, 6, 7, .null, []), (.getfield 99, 3, 5, 2, .null, []), (.iload_n 1, 1, 1, 0, .null, []), (.iaload, 1, 0, 0, .null, []), (.invokevirtual 231, 3, 93, 1, .null, [(0, 0), (0, 0), (0, 0), (0, 0), (0, 0), (0, 0)]), (.ireturn, 1, 0, 0, .null, [])] := rfl
theorem bk_V_tell_58 : vx_bk tb_V_tell 58 = [(.aload_n 0, 1, 0, 0, .null, []), (.aload_n 0, 1, 0, 0, .null, []), (.getfield 56, 3, 6, 7, .null, []), (.getfield 99, 3, 5, 2, .null, []), (.iload_n 1, 1, 1, 0, .null, []), (.iaload, 1, 0, 0, .null, []), (.invokevirtual 234, 3, 95, 1, .null, [(0, 0), (0, 0), (0, 0), (0, 0), (0, 0), (0, 0)]), (.ireturn, 1, 0, 0, .null, [])] := rfl
theorem bk_V_tell_72 : vx_bk tb_V_tell 72 = [(.aload_n 0, 1, 0, 0, .null, []), (.aload_n 0, 1, 0, 0, .null, []), (.getfield 56, 3, 6, 7, .null, []), (.getfield 99, 3, 5, 2, .null, []), (.iload_n 1, 1, 1, 0, .null, []), (.iaload, 1, 0, 0, .null, []), (.invokevirtual 237, 3, 96, 1, .null, [(0, 0), (0, 0), (0, 0), (0, 0), (0, 0), (0, 0)]), (.ireturn, 1, 0, 0, .null, [])] := rfl
abbrev m_V_tell : Nat := 92
set_option maxRecDepth 100000 in
theorem ck_V_tell : vx_ckM prog_1_method_32_code 6 2 4 false (some .int) tb_V_tell = true := by decide +kernel
theorem ok_V_tell {As : List Value} {sz : Nat} {h : vx_H} {P : Option Value → vx_H → Prop} (L0 : vx_L) (hlen : (vx_ar As).length ≤ 2) (hL0 : vx_ar As ++ List.replicate (2 - (vx_ar As).length) none = L0)
    (body : ∀ (lim z : vx_Z) X, vx_cl0 none lim tb_V_tell (fun r z' h' => z' = z ∧ P r h') X → X 0 L0 [] z h) : vx_Ok m_V_tell As sz h P :=
  vx_ok0 (M := (⟨"VoteWalls", "tell", "(I)I"⟩, prog_1_method_32_code, 2, (some .int), 4, 0, 0, 1, 0)) rfl (ow := 6) rfl ck_V_tell rfl hlen hL0 body
def kb_V_bullyTells_0 : List vx_I := [(.aload_n 0, 1, 0, 0, .null, []), (.iconst 3, 1, 0, 0, .int 3, []), (.invokevirtual 240, 3, 94, 1, .null, [(0, 0), (0, 0), (0, 0), (0, 0), (0, 0), (0, 0)]), (.aload_n 0, 1, 0, 0, .null, []), (.iload_n 1, 1, 1, 0, .null, []), (.invokevirtual 234, 3, 95, 1, .null, [(0, 0), (0, 0), (0, 0), (0, 0), (0, 0), (0, 0)]), (.istore_n 2, 1, 2, 0, .null, []), (.iload_n 2, 1, 2, 0, .null, []), (.aload_n 0, 1, 0, 0, .null, []), (.iload_n 1, 1, 1, 0, .null, []), (.invokevirtual 237, 3, 96, 1, .null, [(0, 0), (0, 0), (0, 0), (0, 0), (0, 0), (0, 0)]), (.iadd, 1, 0, 0, .null, []), (.ireturn, 1, 0, 0, .null, [])]
def tb_V_bullyTells : List (Nat × List vx_I) := [(0, kb_V_bullyTells_0)]
theorem bk_V_bullyTells_0 : vx_bk tb_V_bullyTells 0 = [(.aload_n 0, 1, 0, 0, .null, []), (.iconst 3, 1, 0, 0, .int 3, []), (.invokevirtual 240, 3, 94, 1, .null, [(0, 0), (0, 0), (0, 0), (0, 0), (0, 0), (0, 0)]), (.aload_n 0, 1, 0, 0, .null, []), (.iload_n 1, 1, 1, 0, .null, []), (.invokevirtual 234, 3, 95, 1, .null, [(0, 0), (0, 0), (0, 0), (0, 0), (0, 0), (0, 0)]), (.istore_n 2, 1, 2, 0, .null, []), (.iload_n 2, 1, 2, 0, .null, []), (.aload_n 0, 1, 0, 0, .null, []), (.iload_n 1, 1, 1, 0, .null, []), (.invokevirtual 237, 3, 96, 1, .null, [(0, 0), (0, 0), (0, 0), (0, 0), (0, 0), (0, 0)]), (.iadd, 1, 0, 0, .null, []), (.ireturn, 1, 0, 0, .null, [])] := rfl
abbrev m_V_bullyTells : Nat := 93
set_option maxRecDepth 100000 in
theorem ck_V_bullyTells : vx_ckM prog_1_method_65_code 6 3 3 false (some .int) tb_V_bullyTells = true := by decide +kernel
theorem ok_V_bullyTells {As : List Value} {sz : Nat} {h : vx_H} {P : Option Value → vx_H → Prop} (L0 : vx_L) (hlen : (vx_ar As).length ≤ 3) (hL0 : vx_ar As ++ List.replicate (3 - (vx_ar As).length) none = L0)
    (body : ∀ (lim z : vx_Z) X, vx_cl0 none lim tb_V_bullyTells (fun r z' h' => z' = z ∧ P r h') X → X 0 L0 [] z h) : vx_Ok m_V_bullyTells As sz h P :=
  vx_ok0 (M := (⟨"VoteWalls", "bullyTells", "(I)I"⟩, prog_1_method_65_code, 3, (some .int), 3, 0, 0, 1, 0)) rfl (ow := 6) rfl ck_V_bullyTells rfl hlen hL0 body
def kb_V_leave_0 : List vx_I := [(.aload_n 0, 1, 0, 0, .null, []), (.bipush 31, 2, 0, 0, .int 31, []), (.aload_n 0, 1, 0, 0, .null, []), (.getfield 67, 3, 6, 10, .null, []), (.imul, 1, 0, 0, .null, []), (.iload_n 1, 1, 1, 0, .null, []), (.iadd, 1, 0, 0, .null, []), (.putfield 67, 3, 6, 10, .int 0, []), (.return_, 1, 0, 0, .null, [])]
def tb_V_leave : List (Nat × List vx_I) := [(0, kb_V_leave_0)]
theorem bk_V_leave_0 : vx_bk tb_V_leave 0 = [(.aload_n 0, 1, 0, 0, .null, []), (.bipush 31, 2, 0, 0, .int 31, []), (.aload_n 0, 1, 0, 0, .null, []), (.getfield 67, 3, 6, 10, .null, []), (.imul, 1, 0, 0, .null, []), (.iload_n 1, 1, 1, 0, .null, []), (.iadd, 1, 0, 0, .null, []), (.putfield 67, 3, 6, 10, .int 0, []), (.return_, 1, 0, 0, .null, [])] := rfl
abbrev m_V_leave : Nat := 94
set_option maxRecDepth 100000 in
theorem ck_V_leave : vx_ckM prog_1_method_62_code 6 2 0 false none tb_V_leave = true := by decide +kernel
theorem ok_V_leave {As : List Value} {sz : Nat} {h : vx_H} {P : Option Value → vx_H → Prop} (L0 : vx_L) (hlen : (vx_ar As).length ≤ 2) (hL0 : vx_ar As ++ List.replicate (2 - (vx_ar As).length) none = L0)
    (body : ∀ (lim z : vx_Z) X, vx_cl0 none lim tb_V_leave (fun r z' h' => z' = z ∧ P r h') X → X 0 L0 [] z h) : vx_Ok m_V_leave As sz h P :=
  vx_ok0 (M := (⟨"VoteWalls", "leave", "(I)V"⟩, prog_1_method_62_code, 2, none, 0, 0, 0, 1, 0)) rfl (ow := 6) rfl ck_V_leave rfl hlen hL0 body
def kb_V_tallTells_0 : List vx_I := [(.aload_n 0, 1, 0, 0, .null, []), (.iconst 2, 1, 0, 0, .int 2, []), (.invokevirtual 240, 3, 94, 1, .null, [(0, 0), (0, 0), (0, 0), (0, 0), (0, 0), (0, 0)]), (.aload_n 0, 1, 0, 0, .null, []), (.iload_n 1, 1, 1, 0, .null, []), (.invokevirtual 237, 3, 96, 1, .null, [(0, 0), (0, 0), (0, 0), (0, 0), (0, 0), (0, 0)]), (.bipush 100, 2, 0, 0, .int 100, []), (.iadd, 1, 0, 0, .null, []), (.ireturn, 1, 0, 0, .null, [])]
def tb_V_tallTells : List (Nat × List vx_I) := [(0, kb_V_tallTells_0)]
theorem bk_V_tallTells_0 : vx_bk tb_V_tallTells 0 = [(.aload_n 0, 1, 0, 0, .null, []), (.iconst 2, 1, 0, 0, .int 2, []), (.invokevirtual 240, 3, 94, 1, .null, [(0, 0), (0, 0), (0, 0), (0, 0), (0, 0), (0, 0)]), (.aload_n 0, 1, 0, 0, .null, []), (.iload_n 1, 1, 1, 0, .null, []), (.invokevirtual 237, 3, 96, 1, .null, [(0, 0), (0, 0), (0, 0), (0, 0), (0, 0), (0, 0)]), (.bipush 100, 2, 0, 0, .int 100, []), (.iadd, 1, 0, 0, .null, []), (.ireturn, 1, 0, 0, .null, [])] := rfl
abbrev m_V_tallTells : Nat := 95
set_option maxRecDepth 100000 in
theorem ck_V_tallTells : vx_ckM prog_1_method_64_code 6 2 2 false (some .int) tb_V_tallTells = true := by decide +kernel
theorem ok_V_tallTells {As : List Value} {sz : Nat} {h : vx_H} {P : Option Value → vx_H → Prop} (L0 : vx_L) (hlen : (vx_ar As).length ≤ 2) (hL0 : vx_ar As ++ List.replicate (2 - (vx_ar As).length) none = L0)
    (body : ∀ (lim z : vx_Z) X, vx_cl0 none lim tb_V_tallTells (fun r z' h' => z' = z ∧ P r h') X → X 0 L0 [] z h) : vx_Ok m_V_tallTells As sz h P :=
  vx_ok0 (M := (⟨"VoteWalls", "tallTells", "(I)I"⟩, prog_1_method_64_code, 2, (some .int), 2, 0, 0, 1, 0)) rfl (ow := 6) rfl ck_V_tallTells rfl hlen hL0 body
def kb_V_prisonerTells_0 : List vx_I := [(.aload_n 0, 1, 0, 0, .null, []), (.iconst 1, 1, 0, 0, .int 1, []), (.invokevirtual 240, 3, 94, 1, .null, [(0, 0), (0, 0), (0, 0), (0, 0), (0, 0), (0, 0)]), (.iload_n 1, 1, 1, 0, .null, []), (.ireturn, 1, 0, 0, .null, [])]
def tb_V_prisonerTells : List (Nat × List vx_I) := [(0, kb_V_prisonerTells_0)]
theorem bk_V_prisonerTells_0 : vx_bk tb_V_prisonerTells 0 = [(.aload_n 0, 1, 0, 0, .null, []), (.iconst 1, 1, 0, 0, .int 1, []), (.invokevirtual 240, 3, 94, 1, .null, [(0, 0), (0, 0), (0, 0), (0, 0), (0, 0), (0, 0)]), (.iload_n 1, 1, 1, 0, .null, []), (.ireturn, 1, 0, 0, .null, [])] := rfl
abbrev m_V_prisonerTells : Nat := 96
set_option maxRecDepth 100000 in
theorem ck_V_prisonerTells : vx_ckM prog_1_method_63_code 6 2 1 false (some .int) tb_V_prisonerTells = true := by decide +kernel
theorem ok_V_prisonerTells {As : List Value} {sz : Nat} {h : vx_H} {P : Option Value → vx_H → Prop} (L0 : vx_L) (hlen : (vx_ar As).length ≤ 2) (hL0 : vx_ar As ++ List.replicate (2 - (vx_ar As).length) none = L0)
    (body : ∀ (lim z : vx_Z) X, vx_cl0 none lim tb_V_prisonerTells (fun r z' h' => z' = z ∧ P r h') X → X 0 L0 [] z h) : vx_Ok m_V_prisonerTells As sz h P :=
  vx_ok0 (M := (⟨"VoteWalls", "prisonerTells", "(I)I"⟩, prog_1_method_63_code, 2, (some .int), 1, 0, 0, 1, 0)) rfl (ow := 6) rfl ck_V_prisonerTells rfl hlen hL0 body
def kb_V_visit_0 : List vx_I := [(.aload_n 0, 1, 0, 0, .null, []), (.iload_n 1, 1, 1, 0, .null, []), (.invokevirtual 91, 3, 29, 1, .null, [(0, 0), (0, 0), (0, 0), (0, 0), (0, 0), (0, 0)]), (.ifCond .ne 5, 3, 10, 0, .null, []), (.iconst (-1), 1, 0, 0, .int (-1), []), (.ireturn, 1, 0, 0, .null, [])]
def kb_V_visit_10 : List vx_I := [(.aload_n 0, 1, 0, 0, .null, []), (.getfield 56, 3, 6, 7, .null, []), (.getfield 95, 3, 5, 1, .null, []), (.iload_n 1, 1, 1, 0, .null, []), (.iaload, 1, 0, 0, .null, []), (.iconst 2, 1, 0, 0, .int 2, []), (.if_icmp .ne 11, 3, 31, 0, .null, []), (.aload_n 0, 1, 0, 0, .null, []), (.iconst 5, 1, 0, 0, .int 5, []), (.invokevirtual 240, 3, 94, 1, .null, [(0, 0), (0, 0), (0, 0), (0, 0), (0, 0), (0, 0)]), (.bipush 90, 2, 0, 0, .int 90, []), (.ireturn, 1, 0, 0, .null, [])]
def kb_V_visit_31 : List vx_I := [(.aload_n 0, 1, 0, 0, .null, []), (.iconst 4, 1, 0, 0, .int 4, []), (.invokevirtual 240, 3, 94, 1, .null, [(0, 0), (0, 0), (0, 0), (0, 0), (0, 0), (0, 0)]), (.iload_n 1, 1, 1, 0, .null, []), (.ireturn, 1, 0, 0, .null, [])]
def tb_V_visit : List (Nat × List vx_I) := [(0, kb_V_visit_0), (10, kb_V_visit_10), (31, kb_V_visit_31)]
theorem bk_V_visit_0 : vx_bk tb_V_visit 0 = [(.aload_n 0, 1, 0, 0, .null, []), (.iload_n 1, 1, 1, 0, .null, []), (.invokevirtual 91, 3, 29, 1, .null, [(0, 0), (0, 0), (0, 0), (0, 0), (0, 0), (0, 0)]), (.ifCond .ne 5, 3, 10, 0, .null, []), (.iconst (-1), 1, 0, 0, .int (-1), []), (.ireturn, 1, 0, 0, .null, [])] := rfl
theorem bk_V_visit_10 : vx_bk tb_V_visit 10 = [(.aload_n 0, 1, 0, 0, .null, []), (.getfield 56, 3, 6, 7, .null, []), (.getfield 95, 3, 5, 1, .null, []), (.iload_n 1, 1, 1, 0, .null, []), (.iaload, 1, 0, 0, .null, []), (.iconst 2, 1, 0, 0, .int 2, []), (.if_icmp .ne 11, 3, 31, 0, .null, []), (.aload_n 0, 1, 0, 0, .null, []), (.iconst 5, 1, 0, 0, .int 5, []), (.invokevirtual 240, 3, 94, 1, .null, [(0, 0), (0, 0), (0, 0), (0, 0), (0, 0), (0, 0)]), (.bipush 90, 2, 0, 0, .int 90, []), (.ireturn, 1, 0, 0, .null, [])] := rfl
theorem bk_V_visit_31 : vx_bk tb_V_visit 31 = [(.aload_n 0, 1, 0, 0, .null, []), (.iconst 4, 1, 0, 0, .int 4, []), (.invokevirtual 240, 3, 94, 1, .null, [(0, 0), (0, 0), (0, 0), (0, 0), (0, 0), (0, 0)]), (.iload_n 1, 1, 1, 0, .null, []), (.ireturn, 1, 0, 0, .null, [])] := rfl
abbrev m_V_visit : Nat := 97
set_option maxRecDepth 100000 in
theorem ck_V_visit : vx_ckM prog_1_method_33_code 6 2 1 false (some .int) tb_V_visit = true := by decide +kernel
theorem ok_V_visit {As : List Value} {sz : Nat} {h : vx_H} {P : Option Value → vx_H → Prop} (L0 : vx_L) (hlen : (vx_ar As).length ≤ 2) (hL0 : vx_ar As ++ List.replicate (2 - (vx_ar As).length) none = L0)
    (body : ∀ (lim z : vx_Z) X, vx_cl0 none lim tb_V_visit (fun r z' h' => z' = z ∧ P r h') X → X 0 L0 [] z h) : vx_Ok m_V_visit As sz h P :=
  vx_ok0 (M := (⟨"VoteWalls", "visit", "(I)I"⟩, prog_1_method_33_code, 2, (some .int), 1, 0, 0, 1, 0)) rfl (ow := 6) rfl ck_V_visit rfl hlen hL0 body
def kb_V_as_0 : List vx_I := [(.aload_n 0, 1, 0, 0, .null, []), (.iconst 0, 1, 0, 0, .int 0, []), (.putfield 70, 3, 6, 11, .int 0, []), (.aload_n 0, 1, 0, 0, .null, []), (.iload_n 1, 1, 1, 0, .null, []), (.invokevirtual 91, 3, 29, 1, .null, [(0, 0), (0, 0), (0, 0), (0, 0), (0, 0), (0, 0)]), (.ifCond .ne 5, 3, 15, 0, .null, []), (.iconst (-1), 1, 0, 0, .int (-1), []), (.ireturn, 1, 0, 0, .null, [])]
def kb_V_as_15 : List vx_I := [(.iload_n 2, 1, 2, 0, .null, []), (.ifCond .lt 8, 3, 24, 0, .null, []), (.iload_n 2, 1, 2, 0, .null, []), (.iconst 2, 1, 0, 0, .int 2, []), (.if_icmp .le 6, 3, 27, 0, .null, [])]
def kb_V_as_24 : List vx_I := [(.bipush (-2), 2, 0, 0, .int (-2), []), (.ireturn, 1, 0, 0, .null, [])]
def kb_V_as_27 : List vx_I := [(.aload_n 0, 1, 0, 0, .null, []), (.getfield 56, 3, 6, 7, .null, []), (.getfield 95, 3, 5, 1, .null, []), (.iload_n 1, 1, 1, 0, .null, []), (.iaload, 1, 0, 0, .null, []), (.iload_n 2, 1, 2, 0, .null, []), (.if_icmp .ge 11, 3, 48, 0, .null, []), (.aload_n 0, 1, 0, 0, .null, []), (.iconst 2, 1, 0, 0, .int 2, []), (.invokevirtual 203, 3, 13, 1, .null, [(0, 0), (0, 0), (0, 0), (0, 0), (0, 0), (0, 0)]), (.goto 4, 3, 49, 0, .null, [])]
def kb_V_as_48 : List vx_I := [(.iconst 1, 1, 0, 0, .int 1, [])]
def kb_V_as_49 : List vx_I := [(.ireturn, 1, 0, 0, .null, [])]
def tb_V_as : List (Nat × List vx_I) := [(0, kb_V_as_0), (15, kb_V_as_15), (24, kb_V_as_24), (27, kb_V_as_27), (48, kb_V_as_48), (49, kb_V_as_49)]
theorem bk_V_as_0 : vx_bk tb_V_as 0 = [(.aload_n 0, 1, 0, 0, .null, []), (.iconst 0, 1, 0, 0, .int 0, []), (.putfield 70, 3, 6, 11, .int 0, []), (.aload_n 0, 1, 0, 0, .null, []), (.iload_n 1, 1, 1, 0, .null, []), (.invokevirtual 91, 3, 29, 1, .null, [(0, 0), (0, 0), (0, 0), (0, 0), (0, 0), (0, 0)]), (.ifCond .ne 5, 3, 15, 0, .null, []), (.iconst (-1), 1, 0, 0, .int (-1), []), (.ireturn, 1, 0, 0, .null, [])] := rfl
theorem bk_V_as_15 : vx_bk tb_V_as 15 = [(.iload_n 2, 1, 2, 0, .null, []), (.ifCond .lt 8, 3, 24, 0, .null, []), (.iload_n 2, 1, 2, 0, .null, []), (.iconst 2, 1, 0, 0, .int 2, []), (.if_icmp .le 6, 3, 27, 0, .null, [])] := rfl
theorem bk_V_as_24 : vx_bk tb_V_as 24 = [(.bipush (-2), 2, 0, 0, .int (-2), []), (.ireturn, 1, 0, 0, .null, [])] := rfl
theorem bk_V_as_27 : vx_bk tb_V_as 27 = [(.aload_n 0, 1, 0, 0, .null, []), (.getfield 56, 3, 6, 7, .null, []), (.getfield 95, 3, 5, 1, .null, []), (.iload_n 1, 1, 1, 0, .null, []), (.iaload, 1, 0, 0, .null, []), (.iload_n 2, 1, 2, 0, .null, []), (.if_icmp .ge 11, 3, 48, 0, .null, []), (.aload_n 0, 1, 0, 0, .null, []), (.iconst 2, 1, 0, 0, .int 2, []), (.invokevirtual 203, 3, 13, 1, .null, [(0, 0), (0, 0), (0, 0), (0, 0), (0, 0), (0, 0)]), (.goto 4, 3, 49, 0, .null, [])] := rfl
theorem bk_V_as_48 : vx_bk tb_V_as 48 = [(.iconst 1, 1, 0, 0, .int 1, [])] := rfl
theorem bk_V_as_49 : vx_bk tb_V_as 49 = [(.ireturn, 1, 0, 0, .null, [])] := rfl
abbrev m_V_as : Nat := 98
set_option maxRecDepth 100000 in
theorem ck_V_as : vx_ckM prog_1_method_34_code 6 3 1 false (some .int) tb_V_as = true := by decide +kernel
theorem ok_V_as {As : List Value} {sz : Nat} {h : vx_H} {P : Option Value → vx_H → Prop} (L0 : vx_L) (hlen : (vx_ar As).length ≤ 3) (hL0 : vx_ar As ++ List.replicate (3 - (vx_ar As).length) none = L0)
    (body : ∀ (lim z : vx_Z) X, vx_cl0 none lim tb_V_as (fun r z' h' => z' = z ∧ P r h') X → X 0 L0 [] z h) : vx_Ok m_V_as As sz h P :=
  vx_ok0 (M := (⟨"VoteWalls", "as", "(II)I"⟩, prog_1_method_34_code, 3, (some .int), 1, 0, 0, 2, 0)) rfl (ow := 6) rfl ck_V_as rfl hlen hL0 body
def kb_V_trace_0 : List vx_I := [(.aload_n 0, 1, 0, 0, .null, []), (.getfield 67, 3, 6, 10, .null, []), (.ireturn, 1, 0, 0, .null, [])]
def tb_V_trace : List (Nat × List vx_I) := [(0, kb_V_trace_0)]
theorem bk_V_trace_0 : vx_bk tb_V_trace 0 = [(.aload_n 0, 1, 0, 0, .null, []), (.getfield 67, 3, 6, 10, .null, []), (.ireturn, 1, 0, 0, .null, [])] := rfl
abbrev m_V_trace : Nat := 99
set_option maxRecDepth 100000 in
theorem ck_V_trace : vx_ckM prog_1_method_35_code 6 1 0 false (some .int) tb_V_trace = true := by decide +kernel
theorem ok_V_trace {As : List Value} {sz : Nat} {h : vx_H} {P : Option Value → vx_H → Prop} (L0 : vx_L) (hlen : (vx_ar As).length ≤ 1) (hL0 : vx_ar As ++ List.replicate (1 - (vx_ar As).length) none = L0)
    (body : ∀ (lim z : vx_Z) X, vx_cl0 none lim tb_V_trace (fun r z' h' => z' = z ∧ P r h') X → X 0 L0 [] z h) : vx_Ok m_V_trace As sz h P :=
  vx_ok0 (M := (⟨"VoteWalls", "trace", "()I"⟩, prog_1_method_35_code, 1, (some .int), 0, 0, 0, 0, 0)) rfl (ow := 6) rfl ck_V_trace rfl hlen hL0 body
def kb_V_fault_0 : List vx_I := [(.aload_n 0, 1, 0, 0, .null, []), (.getfield 70, 3, 6, 11, .null, []), (.ireturn, 1, 0, 0, .null, [])]
def tb_V_fault : List (Nat × List vx_I) := [(0, kb_V_fault_0)]
theorem bk_V_fault_0 : vx_bk tb_V_fault 0 = [(.aload_n 0, 1, 0, 0, .null, []), (.getfield 70, 3, 6, 11, .null, []), (.ireturn, 1, 0, 0, .null, [])] := rfl
abbrev m_V_fault : Nat := 100
set_option maxRecDepth 100000 in
theorem ck_V_fault : vx_ckM prog_1_method_36_code 6 1 0 false (some .int) tb_V_fault = true := by decide +kernel
theorem ok_V_fault {As : List Value} {sz : Nat} {h : vx_H} {P : Option Value → vx_H → Prop} (L0 : vx_L) (hlen : (vx_ar As).length ≤ 1) (hL0 : vx_ar As ++ List.replicate (1 - (vx_ar As).length) none = L0)
    (body : ∀ (lim z : vx_Z) X, vx_cl0 none lim tb_V_fault (fun r z' h' => z' = z ∧ P r h') X → X 0 L0 [] z h) : vx_Ok m_V_fault As sz h P :=
  vx_ok0 (M := (⟨"VoteWalls", "fault", "()I"⟩, prog_1_method_36_code, 1, (some .int), 0, 0, 0, 0, 0)) rfl (ow := 6) rfl ck_V_fault rfl hlen hL0 body
def kb_V_many_0 : List vx_I := [(.iload_n 1, 1, 1, 0, .null, []), (.tableswitch 96 0 6 #[43, 51, 59, 67, 75, 83, 91], 43, 97, 0, .null, [(0, 44), (1, 52), (2, 60), (3, 68), (4, 76), (5, 84), (6, 92)])]
def kb_V_many_44 : List vx_I := [(.aload_n 0, 1, 0, 0, .null, []), (.getfield 56, 3, 6, 7, .null, []), (.getfield 88, 3, 5, 5, .null, []), (.ireturn, 1, 0, 0, .null, [])]
def kb_V_many_52 : List vx_I := [(.aload_n 0, 1, 0, 0, .null, []), (.getfield 56, 3, 6, 7, .null, []), (.getfield 156, 3, 5, 4, .null, []), (.ireturn, 1, 0, 0, .null, [])]
def kb_V_many_60 : List vx_I := [(.aload_n 0, 1, 0, 0, .null, []), (.getfield 56, 3, 6, 7, .null, []), (.getfield 166, 3, 5, 3, .null, []), (.ireturn, 1, 0, 0, .null, [])]
def kb_V_many_68 : List vx_I := [(.aload_n 0, 1, 0, 0, .null, []), (.getfield 29, 3, 6, 2, .null, []), (.getfield 243, 3, 3, 4, .null, []), (.ireturn, 1, 0, 0, .null, [])]
def kb_V_many_76 : List vx_I := [(.aload_n 0, 1, 0, 0, .null, []), (.getfield 33, 3, 6, 3, .null, []), (.getfield 243, 3, 3, 4, .null, []), (.ireturn, 1, 0, 0, .null, [])]
def kb_V_many_84 : List vx_I := [(.aload_n 0, 1, 0, 0, .null, []), (.getfield 36, 3, 6, 4, .null, []), (.getfield 243, 3, 3, 4, .null, []), (.ireturn, 1, 0, 0, .null, [])]
def kb_V_many_92 : List vx_I := [(.aload_n 0, 1, 0, 0, .null, []), (.getfield 63, 3, 6, 9, .null, []), (.ireturn, 1, 0, 0, .null, [])]
def kb_V_many_97 : List vx_I := [(.bipush (-2), 2, 0, 0, .int (-2), []), (.ireturn, 1, 0, 0, .null, [])]
def tb_V_many : List (Nat × List vx_I) := [(0, kb_V_many_0), (44, kb_V_many_44), (52, kb_V_many_52), (60, kb_V_many_60), (68, kb_V_many_68), (76, kb_V_many_76), (84, kb_V_many_84), (92, kb_V_many_92), (97, kb_V_many_97)]
theorem bk_V_many_0 : vx_bk tb_V_many 0 = [(.iload_n 1, 1, 1, 0, .null, []), (.tableswitch 96 0 6 #[43, 51, 59, 67, 75, 83, 91], 43, 97, 0, .null, [(0, 44), (1, 52), (2, 60), (3, 68), (4, 76), (5, 84), (6, 92)])] := rfl
theorem bk_V_many_44 : vx_bk tb_V_many 44 = [(.aload_n 0, 1, 0, 0, .null, []), (.getfield 56, 3, 6, 7, .null, []), (.getfield 88, 3, 5, 5, .null, []), (.ireturn, 1, 0, 0, .null, [])] := rfl
theorem bk_V_many_52 : vx_bk tb_V_many 52 = [(.aload_n 0, 1, 0, 0, .null, []), (.getfield 56, 3, 6, 7, .null, []), (.getfield 156, 3, 5, 4, .null, []), (.ireturn, 1, 0, 0, .null, [])] := rfl
theorem bk_V_many_60 : vx_bk tb_V_many 60 = [(.aload_n 0, 1, 0, 0, .null, []), (.getfield 56, 3, 6, 7, .null, []), (.getfield 166, 3, 5, 3, .null, []), (.ireturn, 1, 0, 0, .null, [])] := rfl
theorem bk_V_many_68 : vx_bk tb_V_many 68 = [(.aload_n 0, 1, 0, 0, .null, []), (.getfield 29, 3, 6, 2, .null, []), (.getfield 243, 3, 3, 4, .null, []), (.ireturn, 1, 0, 0, .null, [])] := rfl
theorem bk_V_many_76 : vx_bk tb_V_many 76 = [(.aload_n 0, 1, 0, 0, .null, []), (.getfield 33, 3, 6, 3, .null, []), (.getfield 243, 3, 3, 4, .null, []), (.ireturn, 1, 0, 0, .null, [])] := rfl
theorem bk_V_many_84 : vx_bk tb_V_many 84 = [(.aload_n 0, 1, 0, 0, .null, []), (.getfield 36, 3, 6, 4, .null, []), (.getfield 243, 3, 3, 4, .null, []), (.ireturn, 1, 0, 0, .null, [])] := rfl
theorem bk_V_many_92 : vx_bk tb_V_many 92 = [(.aload_n 0, 1, 0, 0, .null, []), (.getfield 63, 3, 6, 9, .null, []), (.ireturn, 1, 0, 0, .null, [])] := rfl
theorem bk_V_many_97 : vx_bk tb_V_many 97 = [(.bipush (-2), 2, 0, 0, .int (-2), []), (.ireturn, 1, 0, 0, .null, [])] := rfl
abbrev m_V_many : Nat := 101
set_option maxRecDepth 100000 in
theorem ck_V_many : vx_ckM prog_1_method_37_code 6 2 0 false (some .int) tb_V_many = true := by decide +kernel
theorem ok_V_many {As : List Value} {sz : Nat} {h : vx_H} {P : Option Value → vx_H → Prop} (L0 : vx_L) (hlen : (vx_ar As).length ≤ 2) (hL0 : vx_ar As ++ List.replicate (2 - (vx_ar As).length) none = L0)
    (body : ∀ (lim z : vx_Z) X, vx_cl0 none lim tb_V_many (fun r z' h' => z' = z ∧ P r h') X → X 0 L0 [] z h) : vx_Ok m_V_many As sz h P :=
  vx_ok0 (M := (⟨"VoteWalls", "many", "(I)I"⟩, prog_1_method_37_code, 2, (some .int), 0, 0, 0, 1, 0)) rfl (ow := 6) rfl ck_V_many rfl hlen hL0 body
end
section
/-! blocks, printed by wip/gen.py: of each method its items from every place to which it jumps on -/
def kb_R_init_0 : List vx_I := [(.aload_n 0, 1, 0, 0, .null, []), (.invokespecial 1, 3, 0, 0, .int 0, []), (.aload_n 0, 1, 0, 0, .null, []), (.iconst 4, 1, 0, 0, .int 4, []), (.newarray .int, 2, 0, 4, .null, []), (.dup, 1, 0, 0, .null, []), (.iconst 0, 1, 0, 0, .int 0, []), (.bipush (-9), 2, 0, 0, .int (-9), []), (.iastore, 1, 0, 0, .null, []), (.dup, 1, 0, 0, .null, []), (.iconst 1, 1, 0, 0, .int 1, []), (.bipush (-9), 2, 0, 0, .int (-9), []), (.iastore, 1, 0, 0, .null, []), (.dup, 1, 0, 0, .null, []), (.iconst 2, 1, 0, 0, .int 2, []), (.bipush (-9), 2, 0, 0, .int (-9), []), (.iastore, 1, 0, 0, .null, []), (.dup, 1, 0, 0, .null, []), (.iconst 3, 1, 0, 0, .int 3, []), (.bipush (-9), 2, 0, 0, .int (-9), []), (.iastore, 1, 0, 0, .null, []), (.putfield 9, 3, 7, 2, .null, []), (.aload_n 0, 1, 0, 0, .null, []), (.iconst 4, 1, 0, 0, .int 4, []), (.newarray .int, 2, 0, 4, .null, []), (.putfield 13, 3, 7, 3, .null, []), (.aload_n 0, 1, 0, 0, .null, []), (.sipush 240, 3, 0, 0, .int 240, []), (.newarray .int, 2, 0, 240, .null, []), (.putfield 16, 3, 7, 4, .null, []), (.aload_n 0, 1, 0, 0, .null, []), (.iconst 5, 1, 0, 0, .int 5, []), (.newarray .int, 2, 0, 5, .null, []), (.putfield 19, 3, 7, 8, .null, []), (.aload_n 0, 1, 0, 0, .null, []), (.bipush 8, 2, 0, 0, .int 8, []), (.newarray .int, 2, 0, 8, .null, []), (.putfield 22, 3, 7, 9, .null, []), (.aload_n 0, 1, 0, 0, .null, []), (.bipush 8, 2, 0, 0, .int 8, []), (.newarray .int, 2, 0, 8, .null, []), (.putfield 25, 3, 7, 10, .null, []), (.aload_n 0, 1, 0, 0, .null, []), (.iconst 5, 1, 0, 0, .int 5, []), (.newarray .int, 2, 0, 5, .null, []), (.putfield 28, 3, 7, 16, .null, []), (.aload_n 0, 1, 0, 0, .null, []), (.bipush 8, 2, 0, 0, .int 8, []), (.newarray .int, 2, 0, 8, .null, []), (.putfield 31, 3, 7, 17, .null, []), (.aload_n 0, 1, 0, 0, .null, []), (.bipush 8, 2, 0, 0, .int 8, []), (.newarray .int, 2, 0, 8, .null, []), (.putfield 34, 3, 7, 18, .null, []), (.aload_n 0, 1, 0, 0, .null, []), (.bipush 6, 2, 0, 0, .int 6, []), (.newarray .int, 2, 0, 6, .null, []), (.putfield 37, 3, 7, 20, .null, []), (.aload_n 0, 1, 0, 0, .null, []), (.bipush 6, 2, 0, 0, .int 6, []), (.newarray .int, 2, 0, 6, .null, []), (.putfield 40, 3, 7, 21, .null, []), (.aload_n 0, 1, 0, 0, .null, []), (.bipush 6, 2, 0, 0, .int 6, []), (.newarray .int, 2, 0, 6, .null, []), (.putfield 43, 3, 7, 22, .null, []), (.aload_n 0, 1, 0, 0, .null, []), (.bipush 6, 2, 0, 0, .int 6, []), (.newarray .int, 2, 0, 6, .null, []), (.putfield 46, 3, 7, 24, .null, []), (.aload_n 0, 1, 0, 0, .null, []), (.bipush 6, 2, 0, 0, .int 6, []), (.newarray .int, 2, 0, 6, .null, []), (.putfield 49, 3, 7, 25, .null, []), (.aload_n 0, 1, 0, 0, .null, []), (.bipush 6, 2, 0, 0, .int 6, []), (.newarray .int, 2, 0, 6, .null, []), (.putfield 52, 3, 7, 26, .null, []), (.aload_n 0, 1, 0, 0, .null, []), (.iconst 5, 1, 0, 0, .int 5, []), (.newarray .int, 2, 0, 5, .null, []), (.putfield 55, 3, 7, 29, .null, []), (.aload_n 0, 1, 0, 0, .null, []), (.bipush 8, 2, 0, 0, .int 8, []), (.newarray .int, 2, 0, 8, .null, []), (.putfield 58, 3, 7, 32, .null, []), (.aload_n 0, 1, 0, 0, .null, []), (.bipush 8, 2, 0, 0, .int 8, []), (.newarray .int, 2, 0, 8, .null, []), (.putfield 61, 3, 7, 33, .null, []), (.aload_n 0, 1, 0, 0, .null, []), (.bipush 8, 2, 0, 0, .int 8, []), (.newarray .int, 2, 0, 8, .null, []), (.putfield 64, 3, 7, 34, .null, []), (.return_, 1, 0, 0, .null, [])]
def tb_R_init : List (Nat × List vx_I) := [(0, kb_R_init_0)]
theorem bk_R_init_0 : vx_bk tb_R_init 0 = [(.aload_n 0, 1, 0, 0, .null, []), (.invokespecial 1, 3, 0, 0, .int 0, []), (.aload_n 0, 1, 0, 0, .null, []), (.iconst 4, 1, 0, 0, .int 4, []), (.newarray .int, 2, 0, 4, .null, []), (.dup, 1, 0, 0, .null, []), (.iconst 0, 1, 0, 0, .int 0, []), (.bipush (-9), 2, 0, 0, .int (-9), []), (.iastore, 1, 0, 0, .null, []), (.dup, 1, 0, 0, .null, []), (.iconst 1, 1, 0, 0, .int 1, []), (.bipush (-9), 2, 0, 0, .int (-9), []), (.iastore, 1, 0, 0, .null, []), (.dup, 1, 0, 0, .null, []), (.iconst 2, 1, 0, 0, .int 2, []), (.bipush (-9), 2, 0, 0, .int (-9), []), (.iastore, 1, 0, 0, .null, []), (.dup, 1, 0, 0, .null, []), (.iconst 3, 1, 0, 0, .int 3, []), (.bipush (-9), 2, 0, 0, .int (-9), []), (.iastore, 1, 0, 0, .null, []), (.putfield 9, 3, 7, 2, .null, []), (.aload_n 0, 1, 0, 0, .null, []), (.iconst 4, 1, 0, 0, .int 4, []), (.newarray .int, 2, 0, 4, .null, []), (.putfield 13, 3, 7, 3, .null, []), (.aload_n 0, 1, 0, 0, .null, []), (.sipush 240, 3, 0, 0, .int 240, []), (.newarray .int, 2, 0, 240, .null, []), (.putfield 16, 3, 7, 4, .null, []), (.aload_n 0, 1, 0, 0, .null, []), (.iconst 5, 1, 0, 0, .int 5, []), (.newarray .int, 2, 0, 5, .null, []), (.putfield 19, 3, 7, 8, .null, []), (.aload_n 0, 1, 0, 0, .null, []), (.bipush 8, 2, 0, 0, .int 8, []), (.newarray .int, 2, 0, 8, .null, []), (.putfield 22, 3, 7, 9, .null, []), (.aload_n 0, 1, 0, 0, .null, []), (.bipush 8, 2, 0, 0, .int 8, []), (.newarray .int, 2, 0, 8, .null, []), (.putfield 25, 3, 7, 10, .null, []), (.aload_n 0, 1, 0, 0, .null, []), (.iconst 5, 1, 0, 0, .int 5, []), (.newarray .int, 2, 0, 5, .null, []), (.putfield 28, 3, 7, 16, .null, []), (.aload_n 0, 1, 0, 0, .null, []), (.bipush 8, 2, 0, 0, .int 8, []), (.newarray .int, 2, 0, 8, .null, []), (.putfield 31, 3, 7, 17, .null, []), (.aload_n 0, 1, 0, 0, .null, []), (.bipush 8, 2, 0, 0, .int 8, []), (.newarray .int, 2, 0, 8, .null, []), (.putfield 34, 3, 7, 18, .null, []), (.aload_n 0, 1, 0, 0, .null, []), (.bipush 6, 2, 0, 0, .int 6, []), (.newarray .int, 2, 0, 6, .null, []), (.putfield 37, 3, 7, 20, .null, []), (.aload_n 0, 1, 0, 0, .null, []), (.bipush 6, 2, 0, 0, .int 6, []), (.newarray .int, 2, 0, 6, .null, []), (.putfield 40, 3, 7, 21, .null, []), (.aload_n 0, 1, 0, 0, .null, []), (.bipush 6, 2, 0, 0, .int 6, []), (.newarray .int, 2, 0, 6, .null, []), (.putfield 43, 3, 7, 22, .null, []), (.aload_n 0, 1, 0, 0, .null, []), (.bipush 6, 2, 0, 0, .int 6, []), (.newarray .int, 2, 0, 6, .null, []), (.putfield 46, 3, 7, 24, .null, []), (.aload_n 0, 1, 0, 0, .null, []), (.bipush 6, 2, 0, 0, .int 6, []), (.newarray .int, 2, 0, 6, .null, []), (.putfield 49, 3, 7, 25, .null, []), (.aload_n 0, 1, 0, 0, .null, []), (.bipush 6, 2, 0, 0, .int 6, []), (.newarray .int, 2, 0, 6, .null, []), (.putfield 52, 3, 7, 26, .null, []), (.aload_n 0, 1, 0, 0, .null, []), (.iconst 5, 1, 0, 0, .int 5, []), (.newarray .int, 2, 0, 5, .null, []), (.putfield 55, 3, 7, 29, .null, []), (.aload_n 0, 1, 0, 0, .null, []), (.bipush 8, 2, 0, 0, .int 8, []), (.newarray .int, 2, 0, 8, .null, []), (.putfield 58, 3, 7, 32, .null, []), (.aload_n 0, 1, 0, 0, .null, []), (.bipush 8, 2, 0, 0, .int 8, []), (.newarray .int, 2, 0, 8, .null, []), (.putfield 61, 3, 7, 33, .null, []), (.aload_n 0, 1, 0, 0, .null, []), (.bipush 8, 2, 0, 0, .int 8, []), (.newarray .int, 2, 0, 8, .null, []), (.putfield 64, 3, 7, 34, .null, []), (.return_, 1, 0, 0, .null, [])] := rfl
abbrev m_R_init : Nat := 102
set_option maxRecDepth 100000 in
theorem ck_R_init : vx_ckM prog_9_method_1_code 7 1 1 true none tb_R_init = true := by decide +kernel
theorem ok_R_init {As : List Value} {sz : Nat} {h : vx_H} {P : Option Value → vx_H → Prop} (L0 : vx_L) (hlen : (vx_ar As).length ≤ 1) (hL0 : vx_ar As ++ List.replicate (1 - (vx_ar As).length) none = L0)
    (body : ∀ X, vx_cl0 none (sz + 19, 355) tb_R_init (fun r z' h' => z'.1 = sz + 19 ∧ P r h') X → X 0 L0 [] (sz, 0) h) : vx_Ok m_R_init As sz h P :=
  vx_ok (M := (⟨"VoteWallsModel", "<init>", "()V"⟩, prog_9_method_1_code, 1, none, 1, 19, 355, 0, 2)) rfl (ow := 7) rfl ck_R_init hlen hL0 (fun _ _ _ h => h) body
def kb_R_yard_0 : List vx_I := [(.aload_n 0, 1, 0, 0, .null, []), (.iconst 0, 1, 0, 0, .int 0, []), (.putfield 67, 3, 7, 0, .int 0, []), (.iload_n 1, 1, 1, 0, .null, []), (.invokestatic 90, 3, 104, 1, .null, []), (.ifCond .ne 5, 3, 14, 0, .null, []), (.iconst (-1), 1, 0, 0, .int (-1), []), (.ireturn, 1, 0, 0, .null, [])]
def kb_R_yard_14 : List vx_I := [(.iload_n 2, 1, 2, 0, .null, []), (.invokestatic 94, 3, 106, 1, .null, []), (.ifCond .ne 6, 3, 24, 0, .null, []), (.bipush (-2), 2, 0, 0, .int (-2), []), (.ireturn, 1, 0, 0, .null, [])]
def kb_R_yard_24 : List vx_I := [(.aload_n 0, 1, 0, 0, .null, []), (.iload_n 1, 1, 1, 0, .null, []), (.iload_n 2, 1, 2, 0, .null, []), (.iload_n 3, 1, 3, 0, .null, []), (.iload 4, 2, 4, 0, .null, []), (.invokevirtual 97, 3, 107, 4, .null, [(0, 0), (0, 0), (0, 0), (0, 0), (0, 0), (0, 0), (0, 0)]), (.istore 5, 2, 5, 0, .null, []), (.iload 5, 2, 5, 0, .null, []), (.ifCond .eq 10, 3, 47, 0, .null, []), (.aload_n 0, 1, 0, 0, .null, []), (.iload 5, 2, 5, 0, .null, []), (.invokevirtual 101, 3, 108, 1, .null, [(0, 0), (0, 0), (0, 0), (0, 0), (0, 0), (0, 0), (0, 0)]), (.ireturn, 1, 0, 0, .null, [])]
def kb_R_yard_47 : List vx_I := [(.bipush 60, 2, 0, 0, .int 60, []), (.iload_n 1, 1, 1, 0, .null, []), (.imul, 1, 0, 0, .null, []), (.iload_n 3, 1, 3, 0, .null, []), (.iadd, 1, 0, 0, .null, []), (.istore 6, 2, 6, 0, .null, []), (.aload_n 0, 1, 0, 0, .null, []), (.iload 6, 2, 6, 0, .null, []), (.putfield 83, 3, 7, 12, .int 0, []), (.aload_n 0, 1, 0, 0, .null, []), (.iload 6, 2, 6, 0, .null, []), (.iload 4, 2, 4, 0, .null, []), (.iadd, 1, 0, 0, .null, []), (.invokevirtual 105, 3, 109, 1, .null, [(0, 0), (0, 0), (0, 0), (0, 0), (0, 0), (0, 0), (0, 0)]), (.ifCond .ne 14, 3, 84, 0, .null, []), (.bipush (-100), 2, 0, 0, .int (-100), []), (.aload_n 0, 1, 0, 0, .null, []), (.getfield 83, 3, 7, 12, .null, []), (.iload 6, 2, 6, 0, .null, []), (.isub, 1, 0, 0, .null, []), (.isub, 1, 0, 0, .null, []), (.ireturn, 1, 0, 0, .null, [])]
def kb_R_yard_84 : List vx_I := [(.aload_n 0, 1, 0, 0, .null, []), (.aload_n 0, 1, 0, 0, .null, []), (.getfield 108, 3, 7, 13, .null, []), (.putfield 111, 3, 7, 5, .int 0, []), (.aload_n 0, 1, 0, 0, .null, []), (.aload_n 0, 1, 0, 0, .null, []), (.getfield 114, 3, 7, 14, .null, []), (.putfield 77, 3, 7, 6, .int 0, []), (.aload_n 0, 1, 0, 0, .null, []), (.aload_n 0, 1, 0, 0, .null, []), (.getfield 117, 3, 7, 15, .null, []), (.putfield 80, 3, 7, 7, .int 0, []), (.iconst 0, 1, 0, 0, .int 0, []), (.istore 7, 2, 7, 0, .null, [])]
def kb_R_yard_111 : List vx_I := [(.iload 7, 2, 7, 0, .null, []), (.aload_n 0, 1, 0, 0, .null, []), (.getfield 77, 3, 7, 6, .null, []), (.if_icmp .ge 23, 3, 140, 0, .null, []), (.aload_n 0, 1, 0, 0, .null, []), (.getfield 19, 3, 7, 8, .null, []), (.iload 7, 2, 7, 0, .null, []), (.aload_n 0, 1, 0, 0, .null, []), (.getfield 28, 3, 7, 16, .null, []), (.iload 7, 2, 7, 0, .null, []), (.iaload, 1, 0, 0, .null, []), (.iastore, 1, 0, 0, .null, []), (.iinc 7 1, 3, 7, 0, .int 1, []), (.goto (-26), 3, 111, 0, .null, [])]
def kb_R_yard_140 : List vx_I := [(.iconst 0, 1, 0, 0, .int 0, []), (.istore 7, 2, 7, 0, .null, [])]
def kb_R_yard_143 : List vx_I := [(.iload 7, 2, 7, 0, .null, []), (.aload_n 0, 1, 0, 0, .null, []), (.getfield 80, 3, 7, 7, .null, []), (.if_icmp .ge 37, 3, 186, 0, .null, []), (.aload_n 0, 1, 0, 0, .null, []), (.getfield 22, 3, 7, 9, .null, []), (.iload 7, 2, 7, 0, .null, []), (.aload_n 0, 1, 0, 0, .null, []), (.getfield 31, 3, 7, 17, .null, []), (.iload 7, 2, 7, 0, .null, []), (.iaload, 1, 0, 0, .null, []), (.iastore, 1, 0, 0, .null, []), (.aload_n 0, 1, 0, 0, .null, []), (.getfield 25, 3, 7, 10, .null, []), (.iload 7, 2, 7, 0, .null, []), (.aload_n 0, 1, 0, 0, .null, []), (.getfield 34, 3, 7, 18, .null, []), (.iload 7, 2, 7, 0, .null, []), (.iaload, 1, 0, 0, .null, []), (.iastore, 1, 0, 0, .null, []), (.iinc 7 1, 3, 7, 0, .int 1, []), (.goto (-40), 3, 143, 0, .null, [])]
def kb_R_yard_186 : List vx_I := [(.aload_n 0, 1, 0, 0, .null, []), (.iconst 0, 1, 0, 0, .int 0, []), (.putfield 120, 3, 7, 11, .int 0, []), (.aload_n 0, 1, 0, 0, .null, []), (.iconst 0, 1, 0, 0, .int 0, []), (.putfield 123, 3, 7, 19, .int 0, []), (.aload_n 0, 1, 0, 0, .null, []), (.iconst 0, 1, 0, 0, .int 0, []), (.putfield 126, 3, 7, 23, .int 0, []), (.aload_n 0, 1, 0, 0, .null, []), (.iconst 0, 1, 0, 0, .int 0, []), (.putfield 129, 3, 7, 31, .int 0, []), (.aload_n 0, 1, 0, 0, .null, []), (.getfield 80, 3, 7, 7, .null, []), (.ireturn, 1, 0, 0, .null, [])]
def tb_R_yard : List (Nat × List vx_I) := [(0, kb_R_yard_0), (14, kb_R_yard_14), (24, kb_R_yard_24), (47, kb_R_yard_47), (84, kb_R_yard_84), (111, kb_R_yard_111), (140, kb_R_yard_140), (143, kb_R_yard_143), (186, kb_R_yard_186)]
theorem bk_R_yard_0 : vx_bk tb_R_yard 0 = [(.aload_n 0, 1, 0, 0, .null, []), (.iconst 0, 1, 0, 0, .int 0, []), (.putfield 67, 3, 7, 0, .int 0, []), (.iload_n 1, 1, 1, 0, .null, []), (.invokestatic 90, 3, 104, 1, .null, []), (.ifCond .ne 5, 3, 14, 0, .null, []), (.iconst (-1), 1, 0, 0, .int (-1), []), (.ireturn, 1, 0, 0, .null, [])] := rfl
theorem bk_R_yard_14 : vx_bk tb_R_yard 14 = [(.iload_n 2, 1, 2, 0, .null, []), (.invokestatic 94, 3, 106, 1, .null, []), (.ifCond .ne 6, 3, 24, 0, .null, []), (.bipush (-2), 2, 0, 0, .int (-2), []), (.ireturn, 1, 0, 0, .null, [])] := rfl
theorem bk_R_yard_24 : vx_bk tb_R_yard 24 = [(.aload_n 0, 1, 0, 0, .null, []), (.iload_n 1, 1, 1, 0, .null, []), (.iload_n 2, 1, 2, 0, .null, []), (.iload_n 3, 1, 3, 0, .null, []), (.iload 4, 2, 4, 0, .null, []), (.invokevirtual 97, 3, 107, 4, .null, [(0, 0), (0, 0), (0, 0), (0, 0), (0, 0), (0, 0), (0, 0)]), (.istore 5, 2, 5, 0, .null, []), (.iload 5, 2, 5, 0, .null, []), (.ifCond .eq 10, 3, 47, 0, .null, []), (.aload_n 0, 1, 0, 0, .null, []), (.iload 5, 2, 5, 0, .null, []), (.invokevirtual 101, 3, 108, 1, .null, [(0, 0), (0, 0), (0, 0), (0, 0), (0, 0), (0, 0), (0, 0)]), (.ireturn, 1, 0, 0, .null, [])] := rfl
theorem bk_R_yard_47 : vx_bk tb_R_yard 47 = [(.bipush 60, 2, 0, 0, .int 60, []), (.iload_n 1, 1, 1, 0, .null, []), (.imul, 1, 0, 0, .null, []), (.iload_n 3, 1, 3, 0, .null, []), (.iadd, 1, 0, 0, .null, []), (.istore 6, 2, 6, 0, .null, []), (.aload_n 0, 1, 0, 0, .null, []), (.iload 6, 2, 6, 0, .null, []), (.putfield 83, 3, 7, 12, .int 0, []), (.aload_n 0, 1, 0, 0, .null, []), (.iload 6, 2, 6, 0, .null, []), (.iload 4, 2, 4, 0, .null, []), (.iadd, 1, 0, 0, .null, []), (.invokevirtual 105, 3, 109, 1, .null, [(0, 0), (0, 0), (0, 0), (0, 0), (0, 0), (0, 0), (0, 0)]), (.ifCond .ne 14, 3, 84, 0, .null, []), (.bipush (-100), 2, 0, 0, .int (-100), []), (.aload_n 0, 1, 0, 0, .null, []), (.getfield 83, 3, 7, 12, .null, []), (.iload 6, 2, 6, 0, .null, []), (.isub, 1, 0, 0, .null, []), (.isub, 1, 0, 0, .null, []), (.ireturn, 1, 0, 0, .null, [])] := rfl
theorem bk_R_yard_84 : vx_bk tb_R_yard 84 = [(.aload_n 0, 1, 0, 0, .null, []), (.aload_n 0, 1, 0, 0, .null, []), (.getfield 108, 3, 7, 13, .null, []), (.putfield 111, 3, 7, 5, .int 0, []), (.aload_n 0, 1, 0, 0, .null, []), (.aload_n 0, 1, 0, 0, .null, []), (.getfield 114, 3, 7, 14, .null, []), (.putfield 77, 3, 7, 6, .int 0, []), (.aload_n 0, 1, 0, 0, .null, []), (.aload_n 0, 1, 0, 0, .null, []), (.getfield 117, 3, 7, 15, .null, []), (.putfield 80, 3, 7, 7, .int 0, []), (.iconst 0, 1, 0, 0, .int 0, []), (.istore 7, 2, 7, 0, .null, [])] := rfl
theorem bk_R_yard_111 : vx_bk tb_R_yard 111 = [(.iload 7, 2, 7, 0, .null, []), (.aload_n 0, 1, 0, 0, .null, []), (.getfield 77, 3, 7, 6, .null, []), (.if_icmp .ge 23, 3, 140, 0, .null, []), (.aload_n 0, 1, 0, 0, .null, []), (.getfield 19, 3, 7, 8, .null, []), (.iload 7, 2, 7, 0, .null, []), (.aload_n 0, 1, 0, 0, .null, []), (.getfield 28, 3, 7, 16, .null, []), (.iload 7, 2, 7, 0, .null, []), (.iaload, 1, 0, 0, .null, []), (.iastore, 1, 0, 0, .null, []), (.iinc 7 1, 3, 7, 0, .int 1, []), (.goto (-26), 3, 111, 0, .null, [])] := rfl
theorem bk_R_yard_140 : vx_bk tb_R_yard 140 = [(.iconst 0, 1, 0, 0, .int 0, []), (.istore 7, 2, 7, 0, .null, [])] := rfl
theorem bk_R_yard_143 : vx_bk tb_R_yard 143 = [(.iload 7, 2, 7, 0, .null, []), (.aload_n 0, 1, 0, 0, .null, []), (.getfield 80, 3, 7, 7, .null, []), (.if_icmp .ge 37, 3, 186, 0, .null, []), (.aload_n 0, 1, 0, 0, .null, []), (.getfield 22, 3, 7, 9, .null, []), (.iload 7, 2, 7, 0, .null, []), (.aload_n 0, 1, 0, 0, .null, []), (.getfield 31, 3, 7, 17, .null, []), (.iload 7, 2, 7, 0, .null, []), (.iaload, 1, 0, 0, .null, []), (.iastore, 1, 0, 0, .null, []), (.aload_n 0, 1, 0, 0, .null, []), (.getfield 25, 3, 7, 10, .null, []), (.iload 7, 2, 7, 0, .null, []), (.aload_n 0, 1, 0, 0, .null, []), (.getfield 34, 3, 7, 18, .null, []), (.iload 7, 2, 7, 0, .null, []), (.iaload, 1, 0, 0, .null, []), (.iastore, 1, 0, 0, .null, []), (.iinc 7 1, 3, 7, 0, .int 1, []), (.goto (-40), 3, 143, 0, .null, [])] := rfl
theorem bk_R_yard_186 : vx_bk tb_R_yard 186 = [(.aload_n 0, 1, 0, 0, .null, []), (.iconst 0, 1, 0, 0, .int 0, []), (.putfield 120, 3, 7, 11, .int 0, []), (.aload_n 0, 1, 0, 0, .null, []), (.iconst 0, 1, 0, 0, .int 0, []), (.putfield 123, 3, 7, 19, .int 0, []), (.aload_n 0, 1, 0, 0, .null, []), (.iconst 0, 1, 0, 0, .int 0, []), (.putfield 126, 3, 7, 23, .int 0, []), (.aload_n 0, 1, 0, 0, .null, []), (.iconst 0, 1, 0, 0, .int 0, []), (.putfield 129, 3, 7, 31, .int 0, []), (.aload_n 0, 1, 0, 0, .null, []), (.getfield 80, 3, 7, 7, .null, []), (.ireturn, 1, 0, 0, .null, [])] := rfl
abbrev m_R_yard : Nat := 103
set_option maxRecDepth 100000 in
theorem ck_R_yard : vx_ckM prog_9_method_16_code 7 8 5 false (some .int) tb_R_yard = true := by decide +kernel
theorem ok_R_yard {As : List Value} {sz : Nat} {h : vx_H} {P : Option Value → vx_H → Prop} (L0 : vx_L) (hlen : (vx_ar As).length ≤ 8) (hL0 : vx_ar As ++ List.replicate (8 - (vx_ar As).length) none = L0)
    (body : ∀ (lim z : vx_Z) X, vx_cl0 none lim tb_R_yard (fun r z' h' => z' = z ∧ P r h') X → X 0 L0 [] z h) : vx_Ok m_R_yard As sz h P :=
  vx_ok0 (M := (⟨"VoteWallsModel", "yard", "(IIII)I"⟩, prog_9_method_16_code, 8, (some .int), 5, 0, 0, 4, 0)) rfl (ow := 7) rfl ck_R_yard rfl hlen hL0 body
def kb_R_isSheet_0 : List vx_I := [(.iload_n 0, 1, 0, 0, .null, []), (.iconst 0, 1, 0, 0, .int 0, []), (.iconst 3, 1, 0, 0, .int 3, []), (.invokestatic 73, 3, 105, 3, .null, []), (.ireturn, 1, 1, 0, .null, [])]
def tb_R_isSheet : List (Nat × List vx_I) := [(0, kb_R_isSheet_0)]
theorem bk_R_isSheet_0 : vx_bk tb_R_isSheet 0 = [(.iload_n 0, 1, 0, 0, .null, []), (.iconst 0, 1, 0, 0, .int 0, []), (.iconst 3, 1, 0, 0, .int 3, []), (.invokestatic 73, 3, 105, 3, .null, []), (.ireturn, 1, 1, 0, .null, [])] := rfl
abbrev m_R_isSheet : Nat := 104
set_option maxRecDepth 100000 in
theorem ck_R_isSheet : vx_ckM prog_9_method_6_code 7 1 1 false (some .boolean) tb_R_isSheet = true := by decide +kernel
theorem ok_R_isSheet {As : List Value} {sz : Nat} {h : vx_H} {P : Option Value → vx_H → Prop} (L0 : vx_L) (hlen : (vx_ar As).length ≤ 1) (hL0 : vx_ar As ++ List.replicate (1 - (vx_ar As).length) none = L0)
    (body : ∀ (lim z : vx_Z) X, vx_cl0 none lim tb_R_isSheet (fun r z' h' => z' = z ∧ P r h') X → X 0 L0 [] z h) : vx_Ok m_R_isSheet As sz h P :=
  vx_ok0 (M := (⟨"VoteWallsModel", "isSheet", "(I)Z"⟩, prog_9_method_6_code, 1, (some .boolean), 1, 0, 0, 1, 1)) rfl (ow := 7) rfl ck_R_isSheet rfl hlen hL0 body
def kb_R_within_0 : List vx_I := [(.iload_n 0, 1, 0, 0, .null, []), (.iload_n 1, 1, 1, 0, .null, []), (.if_icmp .lt 12, 3, 14, 0, .null, []), (.iload_n 0, 1, 0, 0, .null, []), (.iload_n 2, 1, 2, 0, .null, []), (.if_icmp .gt 7, 3, 14, 0, .null, []), (.iconst 1, 1, 0, 0, .int 1, []), (.goto 4, 3, 15, 0, .null, [])]
def kb_R_within_14 : List vx_I := [(.iconst 0, 1, 0, 0, .int 0, [])]
def kb_R_within_15 : List vx_I := [(.ireturn, 1, 1, 0, .null, [])]
def tb_R_within : List (Nat × List vx_I) := [(0, kb_R_within_0), (14, kb_R_within_14), (15, kb_R_within_15)]
theorem bk_R_within_0 : vx_bk tb_R_within 0 = [(.iload_n 0, 1, 0, 0, .null, []), (.iload_n 1, 1, 1, 0, .null, []), (.if_icmp .lt 12, 3, 14, 0, .null, []), (.iload_n 0, 1, 0, 0, .null, []), (.iload_n 2, 1, 2, 0, .null, []), (.if_icmp .gt 7, 3, 14, 0, .null, []), (.iconst 1, 1, 0, 0, .int 1, []), (.goto 4, 3, 15, 0, .null, [])] := rfl
theorem bk_R_within_14 : vx_bk tb_R_within 14 = [(.iconst 0, 1, 0, 0, .int 0, [])] := rfl
theorem bk_R_within_15 : vx_bk tb_R_within 15 = [(.ireturn, 1, 1, 0, .null, [])] := rfl
abbrev m_R_within : Nat := 105
set_option maxRecDepth 100000 in
theorem ck_R_within : vx_ckM prog_9_method_5_code 7 3 0 false (some .boolean) tb_R_within = true := by decide +kernel
theorem ok_R_within {As : List Value} {sz : Nat} {h : vx_H} {P : Option Value → vx_H → Prop} (L0 : vx_L) (hlen : (vx_ar As).length ≤ 3) (hL0 : vx_ar As ++ List.replicate (3 - (vx_ar As).length) none = L0)
    (body : ∀ (lim z : vx_Z) X, vx_cl0 none lim tb_R_within (fun r z' h' => z' = z ∧ P r h') X → X 0 L0 [] z h) : vx_Ok m_R_within As sz h P :=
  vx_ok0 (M := (⟨"VoteWallsModel", "within", "(III)Z"⟩, prog_9_method_5_code, 3, (some .boolean), 0, 0, 0, 3, 1)) rfl (ow := 7) rfl ck_R_within rfl hlen hL0 body
def kb_R_isSort_0 : List vx_I := [(.iload_n 0, 1, 0, 0, .null, []), (.iconst 0, 1, 0, 0, .int 0, []), (.iconst 2, 1, 0, 0, .int 2, []), (.invokestatic 73, 3, 105, 3, .null, []), (.ireturn, 1, 1, 0, .null, [])]
def tb_R_isSort : List (Nat × List vx_I) := [(0, kb_R_isSort_0)]
theorem bk_R_isSort_0 : vx_bk tb_R_isSort 0 = [(.iload_n 0, 1, 0, 0, .null, []), (.iconst 0, 1, 0, 0, .int 0, []), (.iconst 2, 1, 0, 0, .int 2, []), (.invokestatic 73, 3, 105, 3, .null, []), (.ireturn, 1, 1, 0, .null, [])] := rfl
abbrev m_R_isSort : Nat := 106
set_option maxRecDepth 100000 in
theorem ck_R_isSort : vx_ckM prog_9_method_7_code 7 1 1 false (some .boolean) tb_R_isSort = true := by decide +kernel
theorem ok_R_isSort {As : List Value} {sz : Nat} {h : vx_H} {P : Option Value → vx_H → Prop} (L0 : vx_L) (hlen : (vx_ar As).length ≤ 1) (hL0 : vx_ar As ++ List.replicate (1 - (vx_ar As).length) none = L0)
    (body : ∀ (lim z : vx_Z) X, vx_cl0 none lim tb_R_isSort (fun r z' h' => z' = z ∧ P r h') X → X 0 L0 [] z h) : vx_Ok m_R_isSort As sz h P :=
  vx_ok0 (M := (⟨"VoteWallsModel", "isSort", "(I)Z"⟩, prog_9_method_7_code, 1, (some .boolean), 1, 0, 0, 1, 1)) rfl (ow := 7) rfl ck_R_isSort rfl hlen hL0 body
def kb_R_against_0 : List vx_I := [(.aload_n 0, 1, 0, 0, .null, []), (.getfield 9, 3, 7, 2, .null, []), (.iload_n 1, 1, 1, 0, .null, []), (.iaload, 1, 0, 0, .null, []), (.bipush (-9), 2, 0, 0, .int (-9), []), (.if_icmp .eq 15, 3, 23, 0, .null, []), (.aload_n 0, 1, 0, 0, .null, []), (.getfield 9, 3, 7, 2, .null, []), (.iload_n 1, 1, 1, 0, .null, []), (.iaload, 1, 0, 0, .null, []), (.iload_n 2, 1, 2, 0, .null, []), (.if_icmp .eq 5, 3, 23, 0, .null, []), (.iconst 2, 1, 0, 0, .int 2, []), (.ireturn, 1, 0, 0, .null, [])]
def kb_R_against_23 : List vx_I := [(.aload_n 0, 1, 0, 0, .null, []), (.getfield 9, 3, 7, 2, .null, []), (.iload_n 1, 1, 1, 0, .null, []), (.iaload, 1, 0, 0, .null, []), (.bipush (-9), 2, 0, 0, .int (-9), []), (.if_icmp .ne 5, 3, 36, 0, .null, []), (.iconst 1, 1, 0, 0, .int 1, []), (.ireturn, 1, 0, 0, .null, [])]
def kb_R_against_36 : List vx_I := [(.iload 4, 2, 4, 0, .null, []), (.ifCond .ge 5, 3, 43, 0, .null, []), (.iconst 4, 1, 0, 0, .int 4, []), (.ireturn, 1, 0, 0, .null, [])]
def kb_R_against_43 : List vx_I := [(.iload_n 3, 1, 3, 0, .null, []), (.ifCond .lt 26, 3, 70, 0, .null, []), (.iload_n 3, 1, 3, 0, .null, []), (.aload_n 0, 1, 0, 0, .null, []), (.getfield 13, 3, 7, 3, .null, []), (.iload_n 1, 1, 1, 0, .null, []), (.iaload, 1, 0, 0, .null, []), (.if_icmp .gt 16, 3, 70, 0, .null, []), (.iload 4, 2, 4, 0, .null, []), (.aload_n 0, 1, 0, 0, .null, []), (.getfield 13, 3, 7, 3, .null, []), (.iload_n 1, 1, 1, 0, .null, []), (.iaload, 1, 0, 0, .null, []), (.iload_n 3, 1, 3, 0, .null, []), (.isub, 1, 0, 0, .null, []), (.if_icmp .le 7, 3, 74, 0, .null, [])]
def kb_R_against_70 : List vx_I := [(.iconst 3, 1, 0, 0, .int 3, []), (.goto 4, 3, 75, 0, .null, [])]
def kb_R_against_74 : List vx_I := [(.iconst 0, 1, 0, 0, .int 0, [])]
def kb_R_against_75 : List vx_I := [(.ireturn, 1, 0, 0, .null, [])]
def tb_R_against : List (Nat × List vx_I) := [(0, kb_R_against_0), (23, kb_R_against_23), (36, kb_R_against_36), (43, kb_R_against_43), (70, kb_R_against_70), (74, kb_R_against_74), (75, kb_R_against_75)]
theorem bk_R_against_0 : vx_bk tb_R_against 0 = [(.aload_n 0, 1, 0, 0, .null, []), (.getfield 9, 3, 7, 2, .null, []), (.iload_n 1, 1, 1, 0, .null, []), (.iaload, 1, 0, 0, .null, []), (.bipush (-9), 2, 0, 0, .int (-9), []), (.if_icmp .eq 15, 3, 23, 0, .null, []), (.aload_n 0, 1, 0, 0, .null, []), (.getfield 9, 3, 7, 2, .null, []), (.iload_n 1, 1, 1, 0, .null, []), (.iaload, 1, 0, 0, .null, []), (.iload_n 2, 1, 2, 0, .null, []), (.if_icmp .eq 5, 3, 23, 0, .null, []), (.iconst 2, 1, 0, 0, .int 2, []), (.ireturn, 1, 0, 0, .null, [])] := rfl
theorem bk_R_against_23 : vx_bk tb_R_against 23 = [(.aload_n 0, 1, 0, 0, .null, []), (.getfield 9, 3, 7, 2, .null, []), (.iload_n 1, 1, 1, 0, .null, []), (.iaload, 1, 0, 0, .null, []), (.bipush (-9), 2, 0, 0, .int (-9), []), (.if_icmp .ne 5, 3, 36, 0, .null, []), (.iconst 1, 1, 0, 0, .int 1, []), (.ireturn, 1, 0, 0, .null, [])] := rfl
theorem bk_R_against_36 : vx_bk tb_R_against 36 = [(.iload 4, 2, 4, 0, .null, []), (.ifCond .ge 5, 3, 43, 0, .null, []), (.iconst 4, 1, 0, 0, .int 4, []), (.ireturn, 1, 0, 0, .null, [])] := rfl
theorem bk_R_against_43 : vx_bk tb_R_against 43 = [(.iload_n 3, 1, 3, 0, .null, []), (.ifCond .lt 26, 3, 70, 0, .null, []), (.iload_n 3, 1, 3, 0, .null, []), (.aload_n 0, 1, 0, 0, .null, []), (.getfield 13, 3, 7, 3, .null, []), (.iload_n 1, 1, 1, 0, .null, []), (.iaload, 1, 0, 0, .null, []), (.if_icmp .gt 16, 3, 70, 0, .null, []), (.iload 4, 2, 4, 0, .null, []), (.aload_n 0, 1, 0, 0, .null, []), (.getfield 13, 3, 7, 3, .null, []), (.iload_n 1, 1, 1, 0, .null, []), (.iaload, 1, 0, 0, .null, []), (.iload_n 3, 1, 3, 0, .null, []), (.isub, 1, 0, 0, .null, []), (.if_icmp .le 7, 3, 74, 0, .null, [])] := rfl
theorem bk_R_against_70 : vx_bk tb_R_against 70 = [(.iconst 3, 1, 0, 0, .int 3, []), (.goto 4, 3, 75, 0, .null, [])] := rfl
theorem bk_R_against_74 : vx_bk tb_R_against 74 = [(.iconst 0, 1, 0, 0, .int 0, [])] := rfl
theorem bk_R_against_75 : vx_bk tb_R_against 75 = [(.ireturn, 1, 0, 0, .null, [])] := rfl
abbrev m_R_against : Nat := 107
set_option maxRecDepth 100000 in
theorem ck_R_against : vx_ckM prog_9_method_8_code 7 5 0 false (some .int) tb_R_against = true := by decide +kernel
theorem ok_R_against {As : List Value} {sz : Nat} {h : vx_H} {P : Option Value → vx_H → Prop} (L0 : vx_L) (hlen : (vx_ar As).length ≤ 5) (hL0 : vx_ar As ++ List.replicate (5 - (vx_ar As).length) none = L0)
    (body : ∀ (lim z : vx_Z) X, vx_cl0 none lim tb_R_against (fun r z' h' => z' = z ∧ P r h') X → X 0 L0 [] z h) : vx_Ok m_R_against As sz h P :=
  vx_ok0 (M := (⟨"VoteWallsModel", "against", "(IIII)I"⟩, prog_9_method_8_code, 5, (some .int), 0, 0, 0, 4, 0)) rfl (ow := 7) rfl ck_R_against rfl hlen hL0 body
def kb_R_fails_0 : List vx_I := [(.aload_n 0, 1, 0, 0, .null, []), (.iload_n 1, 1, 1, 0, .null, []), (.putfield 67, 3, 7, 0, .int 0, []), (.bipush (-10), 2, 0, 0, .int (-10), []), (.iload_n 1, 1, 1, 0, .null, []), (.isub, 1, 0, 0, .null, []), (.ireturn, 1, 0, 0, .null, [])]
def tb_R_fails : List (Nat × List vx_I) := [(0, kb_R_fails_0)]
theorem bk_R_fails_0 : vx_bk tb_R_fails 0 = [(.aload_n 0, 1, 0, 0, .null, []), (.iload_n 1, 1, 1, 0, .null, []), (.putfield 67, 3, 7, 0, .int 0, []), (.bipush (-10), 2, 0, 0, .int (-10), []), (.iload_n 1, 1, 1, 0, .null, []), (.isub, 1, 0, 0, .null, []), (.ireturn, 1, 0, 0, .null, [])] := rfl
abbrev m_R_fails : Nat := 108
set_option maxRecDepth 100000 in
theorem ck_R_fails : vx_ckM prog_9_method_3_code 7 2 0 false (some .int) tb_R_fails = true := by decide +kernel
theorem ok_R_fails {As : List Value} {sz : Nat} {h : vx_H} {P : Option Value → vx_H → Prop} (L0 : vx_L) (hlen : (vx_ar As).length ≤ 2) (hL0 : vx_ar As ++ List.replicate (2 - (vx_ar As).length) none = L0)
    (body : ∀ (lim z : vx_Z) X, vx_cl0 none lim tb_R_fails (fun r z' h' => z' = z ∧ P r h') X → X 0 L0 [] z h) : vx_Ok m_R_fails As sz h P :=
  vx_ok0 (M := (⟨"VoteWallsModel", "fails", "(I)I"⟩, prog_9_method_3_code, 2, (some .int), 0, 0, 0, 1, 0)) rfl (ow := 7) rfl ck_R_fails rfl hlen hL0 body
def kb_R_readYard_0 : List vx_I := [(.aload_n 0, 1, 0, 0, .null, []), (.iconst 0, 1, 0, 0, .int 0, []), (.putfield 114, 3, 7, 14, .int 0, []), (.aload_n 0, 1, 0, 0, .null, []), (.iconst 0, 1, 0, 0, .int 0, []), (.putfield 117, 3, 7, 15, .int 0, []), (.aload_n 0, 1, 0, 0, .null, []), (.iload_n 1, 1, 1, 0, .null, []), (.bipush 118, 2, 0, 0, .int 118, []), (.invokevirtual 132, 3, 110, 2, .null, [(0, 0), (0, 0), (0, 0), (0, 0), (0, 0), (0, 0), (0, 0)]), (.ifCond .ne 5, 3, 22, 0, .null, []), (.iconst 0, 1, 0, 0, .int 0, []), (.ireturn, 1, 1, 0, .null, [])]
def kb_R_readYard_22 : List vx_I := [(.aload_n 0, 1, 0, 0, .null, []), (.aload_n 0, 1, 0, 0, .null, []), (.iload_n 1, 1, 1, 0, .null, []), (.iconst 4, 1, 0, 0, .int 4, []), (.bipush 30, 2, 0, 0, .int 30, []), (.invokevirtual 136, 3, 111, 3, .null, [(0, 0), (0, 0), (0, 0), (0, 0), (0, 0), (0, 0), (0, 0)]), (.putfield 108, 3, 7, 13, .int 0, []), (.aload_n 0, 1, 0, 0, .null, []), (.getfield 108, 3, 7, 13, .null, []), (.bipush (-9), 2, 0, 0, .int (-9), []), (.if_icmp .eq 21, 3, 61, 0, .null, []), (.aload_n 0, 1, 0, 0, .null, []), (.iload_n 1, 1, 1, 0, .null, []), (.bipush 59, 2, 0, 0, .int 59, []), (.invokevirtual 132, 3, 110, 2, .null, [(0, 0), (0, 0), (0, 0), (0, 0), (0, 0), (0, 0), (0, 0)]), (.ifCond .eq 11, 3, 61, 0, .null, []), (.aload_n 0, 1, 0, 0, .null, []), (.iload_n 1, 1, 1, 0, .null, []), (.invokevirtual 139, 3, 113, 1, .null, [(0, 0), (0, 0), (0, 0), (0, 0), (0, 0), (0, 0), (0, 0)]), (.ifCond .ne 5, 3, 63, 0, .null, [])]
def kb_R_readYard_61 : List vx_I := [(.iconst 0, 1, 0, 0, .int 0, []), (.ireturn, 1, 1, 0, .null, [])]
def kb_R_readYard_63 : List vx_I := [(.aload_n 0, 1, 0, 0, .null, []), (.getfield 114, 3, 7, 14, .null, []), (.iconst 5, 1, 0, 0, .int 5, []), (.if_icmp .ge 23, 3, 91, 0, .null, []), (.aload_n 0, 1, 0, 0, .null, []), (.iload_n 1, 1, 1, 0, .null, []), (.bipush 59, 2, 0, 0, .int 59, []), (.invokevirtual 132, 3, 110, 2, .null, [(0, 0), (0, 0), (0, 0), (0, 0), (0, 0), (0, 0), (0, 0)]), (.ifCond .eq 13, 3, 91, 0, .null, []), (.aload_n 0, 1, 0, 0, .null, []), (.iload_n 1, 1, 1, 0, .null, []), (.invokevirtual 139, 3, 113, 1, .null, [(0, 0), (0, 0), (0, 0), (0, 0), (0, 0), (0, 0), (0, 0)]), (.ifCond .ne (-23), 3, 63, 0, .null, []), (.iconst 0, 1, 0, 0, .int 0, []), (.ireturn, 1, 1, 0, .null, [])]
def kb_R_readYard_91 : List vx_I := [(.aload_n 0, 1, 0, 0, .null, []), (.iload_n 1, 1, 1, 0, .null, []), (.bipush 44, 2, 0, 0, .int 44, []), (.invokevirtual 132, 3, 110, 2, .null, [(0, 0), (0, 0), (0, 0), (0, 0), (0, 0), (0, 0), (0, 0)]), (.ifCond .eq 11, 3, 109, 0, .null, []), (.aload_n 0, 1, 0, 0, .null, []), (.iload_n 1, 1, 1, 0, .null, []), (.invokevirtual 142, 3, 114, 1, .null, [(0, 0), (0, 0), (0, 0), (0, 0), (0, 0), (0, 0), (0, 0)]), (.ifCond .ne 5, 3, 111, 0, .null, [])]
def kb_R_readYard_109 : List vx_I := [(.iconst 0, 1, 0, 0, .int 0, []), (.ireturn, 1, 1, 0, .null, [])]
def kb_R_readYard_111 : List vx_I := [(.aload_n 0, 1, 0, 0, .null, []), (.getfield 117, 3, 7, 15, .null, []), (.bipush 8, 2, 0, 0, .int 8, []), (.if_icmp .ge 23, 3, 140, 0, .null, []), (.aload_n 0, 1, 0, 0, .null, []), (.iload_n 1, 1, 1, 0, .null, []), (.bipush 44, 2, 0, 0, .int 44, []), (.invokevirtual 132, 3, 110, 2, .null, [(0, 0), (0, 0), (0, 0), (0, 0), (0, 0), (0, 0), (0, 0)]), (.ifCond .eq 13, 3, 140, 0, .null, []), (.aload_n 0, 1, 0, 0, .null, []), (.iload_n 1, 1, 1, 0, .null, []), (.invokevirtual 142, 3, 114, 1, .null, [(0, 0), (0, 0), (0, 0), (0, 0), (0, 0), (0, 0), (0, 0)]), (.ifCond .ne (-24), 3, 111, 0, .null, []), (.iconst 0, 1, 0, 0, .int 0, []), (.ireturn, 1, 1, 0, .null, [])]
def kb_R_readYard_140 : List vx_I := [(.aload_n 0, 1, 0, 0, .null, []), (.getfield 83, 3, 7, 12, .null, []), (.iload_n 1, 1, 1, 0, .null, []), (.if_icmp .ne 7, 3, 152, 0, .null, []), (.iconst 1, 1, 0, 0, .int 1, []), (.goto 4, 3, 153, 0, .null, [])]
def kb_R_readYard_152 : List vx_I := [(.iconst 0, 1, 0, 0, .int 0, [])]
def kb_R_readYard_153 : List vx_I := [(.ireturn, 1, 1, 0, .null, [])]
def tb_R_readYard : List (Nat × List vx_I) := [(0, kb_R_readYard_0), (22, kb_R_readYard_22), (61, kb_R_readYard_61), (63, kb_R_readYard_63), (91, kb_R_readYard_91), (109, kb_R_readYard_109), (111, kb_R_readYard_111), (140, kb_R_readYard_140), (152, kb_R_readYard_152), (153, kb_R_readYard_153)]
theorem bk_R_readYard_0 : vx_bk tb_R_readYard 0 = [(.aload_n 0, 1, 0, 0, .null, []), (.iconst 0, 1, 0, 0, .int 0, []), (.putfield 114, 3, 7, 14, .int 0, []), (.aload_n 0, 1, 0, 0, .null, []), (.iconst 0, 1, 0, 0, .int 0, []), (.putfield 117, 3, 7, 15, .int 0, []), (.aload_n 0, 1, 0, 0, .null, []), (.iload_n 1, 1, 1, 0, .null, []), (.bipush 118, 2, 0, 0, .int 118, []), (.invokevirtual 132, 3, 110, 2, .null, [(0, 0), (0, 0), (0, 0), (0, 0), (0, 0), (0, 0), (0, 0)]), (.ifCond .ne 5, 3, 22, 0, .null, []), (.iconst 0, 1, 0, 0, .int 0, []), (.ireturn, 1, 1, 0, .null, [])] := rfl
theorem bk_R_readYard_22 : vx_bk tb_R_readYard 22 = [(.aload_n 0, 1, 0, 0, .null, []), (.aload_n 0, 1, 0, 0, .null, []), (.iload_n 1, 1, 1, 0, .null, []), (.iconst 4, 1, 0, 0, .int 4, []), (.bipush 30, 2, 0, 0, .int 30, []), (.invokevirtual 136, 3, 111, 3, .null, [(0, 0), (0, 0), (0, 0), (0, 0), (0, 0), (0, 0), (0, 0)]), (.putfield 108, 3, 7, 13, .int 0, []), (.aload_n 0, 1, 0, 0, .null, []), (.getfield 108, 3, 7, 13, .null, []), (.bipush (-9), 2, 0, 0, .int (-9), []), (.if_icmp .eq 21, 3, 61, 0, .null, []), (.aload_n 0, 1, 0, 0, .null, []), (.iload_n 1, 1, 1, 0, .null, []), (.bipush 59, 2, 0, 0, .int 59, []), (.invokevirtual 132, 3, 110, 2, .null, [(0, 0), (0, 0), (0, 0), (0, 0), (0, 0), (0, 0), (0, 0)]), (.ifCond .eq 11, 3, 61, 0, .null, []), (.aload_n 0, 1, 0, 0, .null, []), (.iload_n 1, 1, 1, 0, .null, []), (.invokevirtual 139, 3, 113, 1, .null, [(0, 0), (0, 0), (0, 0), (0, 0), (0, 0), (0, 0), (0, 0)]), (.ifCond .ne 5, 3, 63, 0, .null, [])] := rfl
theorem bk_R_readYard_61 : vx_bk tb_R_readYard 61 = [(.iconst 0, 1, 0, 0, .int 0, []), (.ireturn, 1, 1, 0, .null, [])] := rfl
theorem bk_R_readYard_63 : vx_bk tb_R_readYard 63 = [(.aload_n 0, 1, 0, 0, .null, []), (.getfield 114, 3, 7, 14, .null, []), (.iconst 5, 1, 0, 0, .int 5, []), (.if_icmp .ge 23, 3, 91, 0, .null, []), (.aload_n 0, 1, 0, 0, .null, []), (.iload_n 1, 1, 1, 0, .null, []), (.bipush 59, 2, 0, 0, .int 59, []), (.invokevirtual 132, 3, 110, 2, .null, [(0, 0), (0, 0), (0, 0), (0, 0), (0, 0), (0, 0), (0, 0)]), (.ifCond .eq 13, 3, 91, 0, .null, []), (.aload_n 0, 1, 0, 0, .null, []), (.iload_n 1, 1, 1, 0, .null, []), (.invokevirtual 139, 3, 113, 1, .null, [(0, 0), (0, 0), (0, 0), (0, 0), (0, 0), (0, 0), (0, 0)]), (.ifCond .ne (-23), 3, 63, 0, .null, []), (.iconst 0, 1, 0, 0, .int 0, []), (.ireturn, 1, 1, 0, .null, [])] := rfl
theorem bk_R_readYard_91 : vx_bk tb_R_readYard 91 = [(.aload_n 0, 1, 0, 0, .null, []), (.iload_n 1, 1, 1, 0, .null, []), (.bipush 44, 2, 0, 0, .int 44, []), (.invokevirtual 132, 3, 110, 2, .null, [(0, 0), (0, 0), (0, 0), (0, 0), (0, 0), (0, 0), (0, 0)]), (.ifCond .eq 11, 3, 109, 0, .null, []), (.aload_n 0, 1, 0, 0, .null, []), (.iload_n 1, 1, 1, 0, .null, []), (.invokevirtual 142, 3, 114, 1, .null, [(0, 0), (0, 0), (0, 0), (0, 0), (0, 0), (0, 0), (0, 0)]), (.ifCond .ne 5, 3, 111, 0, .null, [])] := rfl
theorem bk_R_readYard_109 : vx_bk tb_R_readYard 109 = [(.iconst 0, 1, 0, 0, .int 0, []), (.ireturn, 1, 1, 0, .null, [])] := rfl
theorem bk_R_readYard_111 : vx_bk tb_R_readYard 111 = [(.aload_n 0, 1, 0, 0, .null, []), (.getfield 117, 3, 7, 15, .null, []), (.bipush 8, 2, 0, 0, .int 8, []), (.if_icmp .ge 23, 3, 140, 0, .null, []), (.aload_n 0, 1, 0, 0, .null, []), (.iload_n 1, 1, 1, 0, .null, []), (.bipush 44, 2, 0, 0, .int 44, []), (.invokevirtual 132, 3, 110, 2, .null, [(0, 0), (0, 0), (0, 0), (0, 0), (0, 0), (0, 0), (0, 0)]), (.ifCond .eq 13, 3, 140, 0, .null, []), (.aload_n 0, 1, 0, 0, .null, []), (.iload_n 1, 1, 1, 0, .null, []), (.invokevirtual 142, 3, 114, 1, .null, [(0, 0), (0, 0), (0, 0), (0, 0), (0, 0), (0, 0), (0, 0)]), (.ifCond .ne (-24), 3, 111, 0, .null, []), (.iconst 0, 1, 0, 0, .int 0, []), (.ireturn, 1, 1, 0, .null, [])] := rfl
theorem bk_R_readYard_140 : vx_bk tb_R_readYard 140 = [(.aload_n 0, 1, 0, 0, .null, []), (.getfield 83, 3, 7, 12, .null, []), (.iload_n 1, 1, 1, 0, .null, []), (.if_icmp .ne 7, 3, 152, 0, .null, []), (.iconst 1, 1, 0, 0, .int 1, []), (.goto 4, 3, 153, 0, .null, [])] := rfl
theorem bk_R_readYard_152 : vx_bk tb_R_readYard 152 = [(.iconst 0, 1, 0, 0, .int 0, [])] := rfl
theorem bk_R_readYard_153 : vx_bk tb_R_readYard 153 = [(.ireturn, 1, 1, 0, .null, [])] := rfl
abbrev m_R_readYard : Nat := 109
set_option maxRecDepth 100000 in
theorem ck_R_readYard : vx_ckM prog_9_method_17_code 7 2 4 false (some .boolean) tb_R_readYard = true := by decide +kernel
theorem ok_R_readYard {As : List Value} {sz : Nat} {h : vx_H} {P : Option Value → vx_H → Prop} (L0 : vx_L) (hlen : (vx_ar As).length ≤ 2) (hL0 : vx_ar As ++ List.replicate (2 - (vx_ar As).length) none = L0)
    (body : ∀ (lim z : vx_Z) X, vx_cl0 none lim tb_R_readYard (fun r z' h' => z' = z ∧ P r h') X → X 0 L0 [] z h) : vx_Ok m_R_readYard As sz h P :=
  vx_ok0 (M := (⟨"VoteWallsModel", "readYard", "(I)Z"⟩, prog_9_method_17_code, 2, (some .boolean), 4, 0, 0, 1, 0)) rfl (ow := 7) rfl ck_R_readYard rfl hlen hL0 body
def kb_R_isSign_0 : List vx_I := [(.aload_n 0, 1, 0, 0, .null, []), (.getfield 83, 3, 7, 12, .null, []), (.iload_n 1, 1, 1, 0, .null, []), (.if_icmp .ge 16, 3, 21, 0, .null, []), (.aload_n 0, 1, 0, 0, .null, []), (.getfield 16, 3, 7, 4, .null, []), (.aload_n 0, 1, 0, 0, .null, []), (.getfield 83, 3, 7, 12, .null, []), (.iaload, 1, 0, 0, .null, []), (.iload_n 2, 1, 2, 0, .null, []), (.if_icmp .eq 5, 3, 23, 0, .null, [])]
def kb_R_isSign_21 : List vx_I := [(.iconst 0, 1, 0, 0, .int 0, []), (.ireturn, 1, 1, 0, .null, [])]
def kb_R_isSign_23 : List vx_I := [(.aload_n 0, 1, 0, 0, .null, []), (.dup, 1, 0, 0, .null, []), (.getfield 83, 3, 7, 12, .null, []), (.iconst 1, 1, 0, 0, .int 1, []), (.iadd, 1, 0, 0, .null, []), (.putfield 83, 3, 7, 12, .int 0, []), (.iconst 1, 1, 0, 0, .int 1, []), (.ireturn, 1, 1, 0, .null, [])]
def tb_R_isSign : List (Nat × List vx_I) := [(0, kb_R_isSign_0), (21, kb_R_isSign_21), (23, kb_R_isSign_23)]
theorem bk_R_isSign_0 : vx_bk tb_R_isSign 0 = [(.aload_n 0, 1, 0, 0, .null, []), (.getfield 83, 3, 7, 12, .null, []), (.iload_n 1, 1, 1, 0, .null, []), (.if_icmp .ge 16, 3, 21, 0, .null, []), (.aload_n 0, 1, 0, 0, .null, []), (.getfield 16, 3, 7, 4, .null, []), (.aload_n 0, 1, 0, 0, .null, []), (.getfield 83, 3, 7, 12, .null, []), (.iaload, 1, 0, 0, .null, []), (.iload_n 2, 1, 2, 0, .null, []), (.if_icmp .eq 5, 3, 23, 0, .null, [])] := rfl
theorem bk_R_isSign_21 : vx_bk tb_R_isSign 21 = [(.iconst 0, 1, 0, 0, .int 0, []), (.ireturn, 1, 1, 0, .null, [])] := rfl
theorem bk_R_isSign_23 : vx_bk tb_R_isSign 23 = [(.aload_n 0, 1, 0, 0, .null, []), (.dup, 1, 0, 0, .null, []), (.getfield 83, 3, 7, 12, .null, []), (.iconst 1, 1, 0, 0, .int 1, []), (.iadd, 1, 0, 0, .null, []), (.putfield 83, 3, 7, 12, .int 0, []), (.iconst 1, 1, 0, 0, .int 1, []), (.ireturn, 1, 1, 0, .null, [])] := rfl
abbrev m_R_isSign : Nat := 110
set_option maxRecDepth 100000 in
theorem ck_R_isSign : vx_ckM prog_9_method_13_code 7 3 0 false (some .boolean) tb_R_isSign = true := by decide +kernel
theorem ok_R_isSign {As : List Value} {sz : Nat} {h : vx_H} {P : Option Value → vx_H → Prop} (L0 : vx_L) (hlen : (vx_ar As).length ≤ 3) (hL0 : vx_ar As ++ List.replicate (3 - (vx_ar As).length) none = L0)
    (body : ∀ (lim z : vx_Z) X, vx_cl0 none lim tb_R_isSign (fun r z' h' => z' = z ∧ P r h') X → X 0 L0 [] z h) : vx_Ok m_R_isSign As sz h P :=
  vx_ok0 (M := (⟨"VoteWallsModel", "isSign", "(II)Z"⟩, prog_9_method_13_code, 3, (some .boolean), 0, 0, 0, 2, 0)) rfl (ow := 7) rfl ck_R_isSign rfl hlen hL0 body
def kb_R_number_0 : List vx_I := [(.iload_n 2, 1, 2, 0, .null, []), (.iload_n 3, 1, 3, 0, .null, []), (.if_icmp .le 6, 3, 8, 0, .null, []), (.bipush (-9), 2, 0, 0, .int (-9), []), (.ireturn, 1, 0, 0, .null, [])]
def kb_R_number_8 : List vx_I := [(.aload_n 0, 1, 0, 0, .null, []), (.iload_n 1, 1, 1, 0, .null, []), (.iload_n 2, 1, 2, 0, .null, []), (.bipush 10, 2, 0, 0, .int 10, []), (.idiv, 1, 0, 0, .null, []), (.iload_n 3, 1, 3, 0, .null, []), (.bipush 10, 2, 0, 0, .int 10, []), (.idiv, 1, 0, 0, .null, []), (.invokevirtual 86, 3, 112, 3, .null, [(0, 0), (0, 0), (0, 0), (0, 0), (0, 0), (0, 0), (0, 0)]), (.istore 4, 2, 4, 0, .null, []), (.iload 4, 2, 4, 0, .null, []), (.bipush (-9), 2, 0, 0, .int (-9), []), (.if_icmp .ne 6, 3, 33, 0, .null, []), (.bipush (-9), 2, 0, 0, .int (-9), []), (.ireturn, 1, 0, 0, .null, [])]
def kb_R_number_33 : List vx_I := [(.iload 4, 2, 4, 0, .null, []), (.iload_n 2, 1, 2, 0, .null, []), (.bipush 10, 2, 0, 0, .int 10, []), (.idiv, 1, 0, 0, .null, []), (.if_icmp .ne 10, 3, 49, 0, .null, []), (.iload_n 2, 1, 2, 0, .null, []), (.bipush 10, 2, 0, 0, .int 10, []), (.irem, 1, 0, 0, .null, []), (.goto 4, 3, 50, 0, .null, [])]
def kb_R_number_49 : List vx_I := [(.iconst 0, 1, 0, 0, .int 0, [])]
def kb_R_number_50 : List vx_I := [(.istore 5, 2, 5, 0, .null, []), (.iload 4, 2, 4, 0, .null, []), (.iload_n 3, 1, 3, 0, .null, []), (.bipush 10, 2, 0, 0, .int 10, []), (.idiv, 1, 0, 0, .null, []), (.if_icmp .ne 10, 3, 68, 0, .null, []), (.iload_n 3, 1, 3, 0, .null, []), (.bipush 10, 2, 0, 0, .int 10, []), (.irem, 1, 0, 0, .null, []), (.goto 5, 3, 70, 0, .null, [])]
def kb_R_number_68 : List vx_I := [(.bipush 9, 2, 0, 0, .int 9, [])]
def kb_R_number_70 : List vx_I := [(.istore 6, 2, 6, 0, .null, []), (.aload_n 0, 1, 0, 0, .null, []), (.iload_n 1, 1, 1, 0, .null, []), (.iload 5, 2, 5, 0, .null, []), (.iload 6, 2, 6, 0, .null, []), (.invokevirtual 86, 3, 112, 3, .null, [(0, 0), (0, 0), (0, 0), (0, 0), (0, 0), (0, 0), (0, 0)]), (.istore 7, 2, 7, 0, .null, []), (.iload 7, 2, 7, 0, .null, []), (.bipush (-9), 2, 0, 0, .int (-9), []), (.if_icmp .ne 8, 3, 95, 0, .null, []), (.bipush (-9), 2, 0, 0, .int (-9), []), (.goto 11, 3, 103, 0, .null, [])]
def kb_R_number_95 : List vx_I := [(.bipush 10, 2, 0, 0, .int 10, []), (.iload 4, 2, 4, 0, .null, []), (.imul, 1, 0, 0, .null, []), (.iload 7, 2, 7, 0, .null, []), (.iadd, 1, 0, 0, .null, [])]
def kb_R_number_103 : List vx_I := [(.ireturn, 1, 0, 0, .null, [])]
def tb_R_number : List (Nat × List vx_I) := [(0, kb_R_number_0), (8, kb_R_number_8), (33, kb_R_number_33), (49, kb_R_number_49), (50, kb_R_number_50), (68, kb_R_number_68), (70, kb_R_number_70), (95, kb_R_number_95), (103, kb_R_number_103)]
theorem bk_R_number_0 : vx_bk tb_R_number 0 = [(.iload_n 2, 1, 2, 0, .null, []), (.iload_n 3, 1, 3, 0, .null, []), (.if_icmp .le 6, 3, 8, 0, .null, []), (.bipush (-9), 2, 0, 0, .int (-9), []), (.ireturn, 1, 0, 0, .null, [])] := rfl
theorem bk_R_number_8 : vx_bk tb_R_number 8 = [(.aload_n 0, 1, 0, 0, .null, []), (.iload_n 1, 1, 1, 0, .null, []), (.iload_n 2, 1, 2, 0, .null, []), (.bipush 10, 2, 0, 0, .int 10, []), (.idiv, 1, 0, 0, .null, []), (.iload_n 3, 1, 3, 0, .null, []), (.bipush 10, 2, 0, 0, .int 10, []), (.idiv, 1, 0, 0, .null, []), (.invokevirtual 86, 3, 112, 3, .null, [(0, 0), (0, 0), (0, 0), (0, 0), (0, 0), (0, 0), (0, 0)]), (.istore 4, 2, 4, 0, .null, []), (.iload 4, 2, 4, 0, .null, []), (.bipush (-9), 2, 0, 0, .int (-9), []), (.if_icmp .ne 6, 3, 33, 0, .null, []), (.bipush (-9), 2, 0, 0, .int (-9), []), (.ireturn, 1, 0, 0, .null, [])] := rfl
theorem bk_R_number_33 : vx_bk tb_R_number 33 = [(.iload 4, 2, 4, 0, .null, []), (.iload_n 2, 1, 2, 0, .null, []), (.bipush 10, 2, 0, 0, .int 10, []), (.idiv, 1, 0, 0, .null, []), (.if_icmp .ne 10, 3, 49, 0, .null, []), (.iload_n 2, 1, 2, 0, .null, []), (.bipush 10, 2, 0, 0, .int 10, []), (.irem, 1, 0, 0, .null, []), (.goto 4, 3, 50, 0, .null, [])] := rfl
theorem bk_R_number_49 : vx_bk tb_R_number 49 = [(.iconst 0, 1, 0, 0, .int 0, [])] := rfl
theorem bk_R_number_50 : vx_bk tb_R_number 50 = [(.istore 5, 2, 5, 0, .null, []), (.iload 4, 2, 4, 0, .null, []), (.iload_n 3, 1, 3, 0, .null, []), (.bipush 10, 2, 0, 0, .int 10, []), (.idiv, 1, 0, 0, .null, []), (.if_icmp .ne 10, 3, 68, 0, .null, []), (.iload_n 3, 1, 3, 0, .null, []), (.bipush 10, 2, 0, 0, .int 10, []), (.irem, 1, 0, 0, .null, []), (.goto 5, 3, 70, 0, .null, [])] := rfl
theorem bk_R_number_68 : vx_bk tb_R_number 68 = [(.bipush 9, 2, 0, 0, .int 9, [])] := rfl
theorem bk_R_number_70 : vx_bk tb_R_number 70 = [(.istore 6, 2, 6, 0, .null, []), (.aload_n 0, 1, 0, 0, .null, []), (.iload_n 1, 1, 1, 0, .null, []), (.iload 5, 2, 5, 0, .null, []), (.iload 6, 2, 6, 0, .null, []), (.invokevirtual 86, 3, 112, 3, .null, [(0, 0), (0, 0), (0, 0), (0, 0), (0, 0), (0, 0), (0, 0)]), (.istore 7, 2, 7, 0, .null, []), (.iload 7, 2, 7, 0, .null, []), (.bipush (-9), 2, 0, 0, .int (-9), []), (.if_icmp .ne 8, 3, 95, 0, .null, []), (.bipush (-9), 2, 0, 0, .int (-9), []), (.goto 11, 3, 103, 0, .null, [])] := rfl
theorem bk_R_number_95 : vx_bk tb_R_number 95 = [(.bipush 10, 2, 0, 0, .int 10, []), (.iload 4, 2, 4, 0, .null, []), (.imul, 1, 0, 0, .null, []), (.iload 7, 2, 7, 0, .null, []), (.iadd, 1, 0, 0, .null, [])] := rfl
theorem bk_R_number_103 : vx_bk tb_R_number 103 = [(.ireturn, 1, 0, 0, .null, [])] := rfl
abbrev m_R_number : Nat := 111
set_option maxRecDepth 100000 in
theorem ck_R_number : vx_ckM prog_9_method_15_code 7 8 2 false (some .int) tb_R_number = true := by decide +kernel
theorem ok_R_number {As : List Value} {sz : Nat} {h : vx_H} {P : Option Value → vx_H → Prop} (L0 : vx_L) (hlen : (vx_ar As).length ≤ 8) (hL0 : vx_ar As ++ List.replicate (8 - (vx_ar As).length) none = L0)
    (body : ∀ (lim z : vx_Z) X, vx_cl0 none lim tb_R_number (fun r z' h' => z' = z ∧ P r h') X → X 0 L0 [] z h) : vx_Ok m_R_number As sz h P :=
  vx_ok0 (M := (⟨"VoteWallsModel", "number", "(III)I"⟩, prog_9_method_15_code, 8, (some .int), 2, 0, 0, 3, 0)) rfl (ow := 7) rfl ck_R_number rfl hlen hL0 body
def kb_R_digit_0 : List vx_I := [(.aload_n 0, 1, 0, 0, .null, []), (.getfield 83, 3, 7, 12, .null, []), (.iload_n 1, 1, 1, 0, .null, []), (.if_icmp .ge 26, 3, 31, 0, .null, []), (.aload_n 0, 1, 0, 0, .null, []), (.getfield 16, 3, 7, 4, .null, []), (.aload_n 0, 1, 0, 0, .null, []), (.getfield 83, 3, 7, 12, .null, []), (.iaload, 1, 0, 0, .null, []), (.bipush 48, 2, 0, 0, .int 48, []), (.iload_n 2, 1, 2, 0, .null, []), (.iadd, 1, 0, 0, .null, []), (.bipush 48, 2, 0, 0, .int 48, []), (.iload_n 3, 1, 3, 0, .null, []), (.iadd, 1, 0, 0, .null, []), (.invokestatic 73, 3, 105, 3, .null, []), (.ifCond .ne 6, 3, 34, 0, .null, [])]
def kb_R_digit_31 : List vx_I := [(.bipush (-9), 2, 0, 0, .int (-9), []), (.ireturn, 1, 0, 0, .null, [])]
def kb_R_digit_34 : List vx_I := [(.aload_n 0, 1, 0, 0, .null, []), (.dup, 1, 0, 0, .null, []), (.getfield 83, 3, 7, 12, .null, []), (.iconst 1, 1, 0, 0, .int 1, []), (.iadd, 1, 0, 0, .null, []), (.putfield 83, 3, 7, 12, .int 0, []), (.aload_n 0, 1, 0, 0, .null, []), (.getfield 16, 3, 7, 4, .null, []), (.aload_n 0, 1, 0, 0, .null, []), (.getfield 83, 3, 7, 12, .null, []), (.iconst 1, 1, 0, 0, .int 1, []), (.isub, 1, 0, 0, .null, []), (.iaload, 1, 0, 0, .null, []), (.bipush 48, 2, 0, 0, .int 48, []), (.isub, 1, 0, 0, .null, []), (.ireturn, 1, 0, 0, .null, [])]
def tb_R_digit : List (Nat × List vx_I) := [(0, kb_R_digit_0), (31, kb_R_digit_31), (34, kb_R_digit_34)]
theorem bk_R_digit_0 : vx_bk tb_R_digit 0 = [(.aload_n 0, 1, 0, 0, .null, []), (.getfield 83, 3, 7, 12, .null, []), (.iload_n 1, 1, 1, 0, .null, []), (.if_icmp .ge 26, 3, 31, 0, .null, []), (.aload_n 0, 1, 0, 0, .null, []), (.getfield 16, 3, 7, 4, .null, []), (.aload_n 0, 1, 0, 0, .null, []), (.getfield 83, 3, 7, 12, .null, []), (.iaload, 1, 0, 0, .null, []), (.bipush 48, 2, 0, 0, .int 48, []), (.iload_n 2, 1, 2, 0, .null, []), (.iadd, 1, 0, 0, .null, []), (.bipush 48, 2, 0, 0, .int 48, []), (.iload_n 3, 1, 3, 0, .null, []), (.iadd, 1, 0, 0, .null, []), (.invokestatic 73, 3, 105, 3, .null, []), (.ifCond .ne 6, 3, 34, 0, .null, [])] := rfl
theorem bk_R_digit_31 : vx_bk tb_R_digit 31 = [(.bipush (-9), 2, 0, 0, .int (-9), []), (.ireturn, 1, 0, 0, .null, [])] := rfl
theorem bk_R_digit_34 : vx_bk tb_R_digit 34 = [(.aload_n 0, 1, 0, 0, .null, []), (.dup, 1, 0, 0, .null, []), (.getfield 83, 3, 7, 12, .null, []), (.iconst 1, 1, 0, 0, .int 1, []), (.iadd, 1, 0, 0, .null, []), (.putfield 83, 3, 7, 12, .int 0, []), (.aload_n 0, 1, 0, 0, .null, []), (.getfield 16, 3, 7, 4, .null, []), (.aload_n 0, 1, 0, 0, .null, []), (.getfield 83, 3, 7, 12, .null, []), (.iconst 1, 1, 0, 0, .int 1, []), (.isub, 1, 0, 0, .null, []), (.iaload, 1, 0, 0, .null, []), (.bipush 48, 2, 0, 0, .int 48, []), (.isub, 1, 0, 0, .null, []), (.ireturn, 1, 0, 0, .null, [])] := rfl
abbrev m_R_digit : Nat := 112
set_option maxRecDepth 100000 in
theorem ck_R_digit : vx_ckM prog_9_method_14_code 7 4 1 false (some .int) tb_R_digit = true := by decide +kernel
theorem ok_R_digit {As : List Value} {sz : Nat} {h : vx_H} {P : Option Value → vx_H → Prop} (L0 : vx_L) (hlen : (vx_ar As).length ≤ 4) (hL0 : vx_ar As ++ List.replicate (4 - (vx_ar As).length) none = L0)
    (body : ∀ (lim z : vx_Z) X, vx_cl0 none lim tb_R_digit (fun r z' h' => z' = z ∧ P r h') X → X 0 L0 [] z h) : vx_Ok m_R_digit As sz h P :=
  vx_ok0 (M := (⟨"VoteWallsModel", "digit", "(III)I"⟩, prog_9_method_14_code, 4, (some .int), 1, 0, 0, 3, 0)) rfl (ow := 7) rfl ck_R_digit rfl hlen hL0 body
def kb_R_readBoard_0 : List vx_I := [(.aload_n 0, 1, 0, 0, .null, []), (.getfield 114, 3, 7, 14, .null, []), (.ifCond .ne 7, 3, 11, 0, .null, []), (.iconst 1, 1, 0, 0, .int 1, []), (.goto 16, 3, 24, 0, .null, [])]
def kb_R_readBoard_11 : List vx_I := [(.aload_n 0, 1, 0, 0, .null, []), (.getfield 28, 3, 7, 16, .null, []), (.aload_n 0, 1, 0, 0, .null, []), (.getfield 114, 3, 7, 14, .null, []), (.iconst 1, 1, 0, 0, .int 1, []), (.isub, 1, 0, 0, .null, []), (.iaload, 1, 0, 0, .null, []), (.iconst 1, 1, 0, 0, .int 1, []), (.iadd, 1, 0, 0, .null, [])]
def kb_R_readBoard_24 : List vx_I := [(.istore_n 2, 1, 2, 0, .null, []), (.aload_n 0, 1, 0, 0, .null, []), (.getfield 28, 3, 7, 16, .null, []), (.aload_n 0, 1, 0, 0, .null, []), (.getfield 114, 3, 7, 14, .null, []), (.aload_n 0, 1, 0, 0, .null, []), (.iload_n 1, 1, 1, 0, .null, []), (.iload_n 2, 1, 2, 0, .null, []), (.aload_n 0, 1, 0, 0, .null, []), (.getfield 108, 3, 7, 13, .null, []), (.iconst 1, 1, 0, 0, .int 1, []), (.isub, 1, 0, 0, .null, []), (.invokevirtual 136, 3, 111, 3, .null, [(0, 0), (0, 0), (0, 0), (0, 0), (0, 0), (0, 0), (0, 0)]), (.iastore, 1, 0, 0, .null, []), (.aload_n 0, 1, 0, 0, .null, []), (.dup, 1, 0, 0, .null, []), (.getfield 114, 3, 7, 14, .null, []), (.iconst 1, 1, 0, 0, .int 1, []), (.iadd, 1, 0, 0, .null, []), (.putfield 114, 3, 7, 14, .int 0, []), (.aload_n 0, 1, 0, 0, .null, []), (.getfield 28, 3, 7, 16, .null, []), (.aload_n 0, 1, 0, 0, .null, []), (.getfield 114, 3, 7, 14, .null, []), (.iconst 1, 1, 0, 0, .int 1, []), (.isub, 1, 0, 0, .null, []), (.iaload, 1, 0, 0, .null, []), (.bipush (-9), 2, 0, 0, .int (-9), []), (.if_icmp .eq 7, 3, 76, 0, .null, []), (.iconst 1, 1, 0, 0, .int 1, []), (.goto 4, 3, 77, 0, .null, [])]
def kb_R_readBoard_76 : List vx_I := [(.iconst 0, 1, 0, 0, .int 0, [])]
def kb_R_readBoard_77 : List vx_I := [(.ireturn, 1, 1, 0, .null, [])]
def tb_R_readBoard : List (Nat × List vx_I) := [(0, kb_R_readBoard_0), (11, kb_R_readBoard_11), (24, kb_R_readBoard_24), (76, kb_R_readBoard_76), (77, kb_R_readBoard_77)]
theorem bk_R_readBoard_0 : vx_bk tb_R_readBoard 0 = [(.aload_n 0, 1, 0, 0, .null, []), (.getfield 114, 3, 7, 14, .null, []), (.ifCond .ne 7, 3, 11, 0, .null, []), (.iconst 1, 1, 0, 0, .int 1, []), (.goto 16, 3, 24, 0, .null, [])] := rfl
theorem bk_R_readBoard_11 : vx_bk tb_R_readBoard 11 = [(.aload_n 0, 1, 0, 0, .null, []), (.getfield 28, 3, 7, 16, .null, []), (.aload_n 0, 1, 0, 0, .null, []), (.getfield 114, 3, 7, 14, .null, []), (.iconst 1, 1, 0, 0, .int 1, []), (.isub, 1, 0, 0, .null, []), (.iaload, 1, 0, 0, .null, []), (.iconst 1, 1, 0, 0, .int 1, []), (.iadd, 1, 0, 0, .null, [])] := rfl
theorem bk_R_readBoard_24 : vx_bk tb_R_readBoard 24 = [(.istore_n 2, 1, 2, 0, .null, []), (.aload_n 0, 1, 0, 0, .null, []), (.getfield 28, 3, 7, 16, .null, []), (.aload_n 0, 1, 0, 0, .null, []), (.getfield 114, 3, 7, 14, .null, []), (.aload_n 0, 1, 0, 0, .null, []), (.iload_n 1, 1, 1, 0, .null, []), (.iload_n 2, 1, 2, 0, .null, []), (.aload_n 0, 1, 0, 0, .null, []), (.getfield 108, 3, 7, 13, .null, []), (.iconst 1, 1, 0, 0, .int 1, []), (.isub, 1, 0, 0, .null, []), (.invokevirtual 136, 3, 111, 3, .null, [(0, 0), (0, 0), (0, 0), (0, 0), (0, 0), (0, 0), (0, 0)]), (.iastore, 1, 0, 0, .null, []), (.aload_n 0, 1, 0, 0, .null, []), (.dup, 1, 0, 0, .null, []), (.getfield 114, 3, 7, 14, .null, []), (.iconst 1, 1, 0, 0, .int 1, []), (.iadd, 1, 0, 0, .null, []), (.putfield 114, 3, 7, 14, .int 0, []), (.aload_n 0, 1, 0, 0, .null, []), (.getfield 28, 3, 7, 16, .null, []), (.aload_n 0, 1, 0, 0, .null, []), (.getfield 114, 3, 7, 14, .null, []), (.iconst 1, 1, 0, 0, .int 1, []), (.isub, 1, 0, 0, .null, []), (.iaload, 1, 0, 0, .null, []), (.bipush (-9), 2, 0, 0, .int (-9), []), (.if_icmp .eq 7, 3, 76, 0, .null, []), (.iconst 1, 1, 0, 0, .int 1, []), (.goto 4, 3, 77, 0, .null, [])] := rfl
theorem bk_R_readBoard_76 : vx_bk tb_R_readBoard 76 = [(.iconst 0, 1, 0, 0, .int 0, [])] := rfl
theorem bk_R_readBoard_77 : vx_bk tb_R_readBoard 77 = [(.ireturn, 1, 1, 0, .null, [])] := rfl
abbrev m_R_readBoard : Nat := 113
set_option maxRecDepth 100000 in
theorem ck_R_readBoard : vx_ckM prog_9_method_18_code 7 3 3 false (some .boolean) tb_R_readBoard = true := by decide +kernel
theorem ok_R_readBoard {As : List Value} {sz : Nat} {h : vx_H} {P : Option Value → vx_H → Prop} (L0 : vx_L) (hlen : (vx_ar As).length ≤ 3) (hL0 : vx_ar As ++ List.replicate (3 - (vx_ar As).length) none = L0)
    (body : ∀ (lim z : vx_Z) X, vx_cl0 none lim tb_R_readBoard (fun r z' h' => z' = z ∧ P r h') X → X 0 L0 [] z h) : vx_Ok m_R_readBoard As sz h P :=
  vx_ok0 (M := (⟨"VoteWallsModel", "readBoard", "(I)Z"⟩, prog_9_method_18_code, 3, (some .boolean), 3, 0, 0, 1, 0)) rfl (ow := 7) rfl ck_R_readBoard rfl hlen hL0 body
def kb_R_readPrisoner_0 : List vx_I := [(.aload_n 0, 1, 0, 0, .null, []), (.getfield 83, 3, 7, 12, .null, []), (.iload_n 1, 1, 1, 0, .null, []), (.if_icmp .ge 15, 3, 20, 0, .null, []), (.aload_n 0, 1, 0, 0, .null, []), (.getfield 16, 3, 7, 4, .null, []), (.aload_n 0, 1, 0, 0, .null, []), (.getfield 83, 3, 7, 12, .null, []), (.iaload, 1, 0, 0, .null, []), (.goto 4, 3, 21, 0, .null, [])]
def kb_R_readPrisoner_20 : List vx_I := [(.iconst 0, 1, 0, 0, .int 0, [])]
def kb_R_readPrisoner_21 : List vx_I := [(.istore_n 2, 1, 2, 0, .null, []), (.iload_n 2, 1, 2, 0, .null, []), (.bipush 112, 2, 0, 0, .int 112, []), (.if_icmp .ne 7, 3, 32, 0, .null, []), (.iconst 0, 1, 0, 0, .int 0, []), (.goto 25, 3, 54, 0, .null, [])]
def kb_R_readPrisoner_32 : List vx_I := [(.iload_n 2, 1, 2, 0, .null, []), (.bipush 116, 2, 0, 0, .int 116, []), (.if_icmp .ne 7, 3, 42, 0, .null, []), (.iconst 1, 1, 0, 0, .int 1, []), (.goto 15, 3, 54, 0, .null, [])]
def kb_R_readPrisoner_42 : List vx_I := [(.iload_n 2, 1, 2, 0, .null, []), (.bipush 98, 2, 0, 0, .int 98, []), (.if_icmp .ne 7, 3, 52, 0, .null, []), (.iconst 2, 1, 0, 0, .int 2, []), (.goto 5, 3, 54, 0, .null, [])]
def kb_R_readPrisoner_52 : List vx_I := [(.bipush (-9), 2, 0, 0, .int (-9), [])]
def kb_R_readPrisoner_54 : List vx_I := [(.istore_n 3, 1, 3, 0, .null, []), (.iload_n 3, 1, 3, 0, .null, []), (.bipush (-9), 2, 0, 0, .int (-9), []), (.if_icmp .ne 5, 3, 63, 0, .null, []), (.iconst 0, 1, 0, 0, .int 0, []), (.ireturn, 1, 1, 0, .null, [])]
def kb_R_readPrisoner_63 : List vx_I := [(.aload_n 0, 1, 0, 0, .null, []), (.dup, 1, 0, 0, .null, []), (.getfield 83, 3, 7, 12, .null, []), (.iconst 1, 1, 0, 0, .int 1, []), (.iadd, 1, 0, 0, .null, []), (.putfield 83, 3, 7, 12, .int 0, []), (.aload_n 0, 1, 0, 0, .null, []), (.getfield 31, 3, 7, 17, .null, []), (.aload_n 0, 1, 0, 0, .null, []), (.getfield 117, 3, 7, 15, .null, []), (.iload_n 3, 1, 3, 0, .null, []), (.iastore, 1, 0, 0, .null, []), (.aload_n 0, 1, 0, 0, .null, []), (.getfield 34, 3, 7, 18, .null, []), (.aload_n 0, 1, 0, 0, .null, []), (.getfield 117, 3, 7, 15, .null, []), (.aload_n 0, 1, 0, 0, .null, []), (.iload_n 1, 1, 1, 0, .null, []), (.iconst 0, 1, 0, 0, .int 0, []), (.aload_n 0, 1, 0, 0, .null, []), (.getfield 108, 3, 7, 13, .null, []), (.iconst 1, 1, 0, 0, .int 1, []), (.isub, 1, 0, 0, .null, []), (.invokevirtual 136, 3, 111, 3, .null, [(0, 0), (0, 0), (0, 0), (0, 0), (0, 0), (0, 0), (0, 0)]), (.iastore, 1, 0, 0, .null, []), (.aload_n 0, 1, 0, 0, .null, []), (.dup, 1, 0, 0, .null, []), (.getfield 117, 3, 7, 15, .null, []), (.iconst 1, 1, 0, 0, .int 1, []), (.iadd, 1, 0, 0, .null, []), (.putfield 117, 3, 7, 15, .int 0, []), (.aload_n 0, 1, 0, 0, .null, []), (.getfield 34, 3, 7, 18, .null, []), (.aload_n 0, 1, 0, 0, .null, []), (.getfield 117, 3, 7, 15, .null, []), (.iconst 1, 1, 0, 0, .int 1, []), (.isub, 1, 0, 0, .null, []), (.iaload, 1, 0, 0, .null, []), (.bipush (-9), 2, 0, 0, .int (-9), []), (.if_icmp .eq 7, 3, 134, 0, .null, []), (.iconst 1, 1, 0, 0, .int 1, []), (.goto 4, 3, 135, 0, .null, [])]
def kb_R_readPrisoner_134 : List vx_I := [(.iconst 0, 1, 0, 0, .int 0, [])]
def kb_R_readPrisoner_135 : List vx_I := [(.ireturn, 1, 1, 0, .null, [])]
def tb_R_readPrisoner : List (Nat × List vx_I) := [(0, kb_R_readPrisoner_0), (20, kb_R_readPrisoner_20), (21, kb_R_readPrisoner_21), (32, kb_R_readPrisoner_32), (42, kb_R_readPrisoner_42), (52, kb_R_readPrisoner_52), (54, kb_R_readPrisoner_54), (63, kb_R_readPrisoner_63), (134, kb_R_readPrisoner_134), (135, kb_R_readPrisoner_135)]
theorem bk_R_readPrisoner_0 : vx_bk tb_R_readPrisoner 0 = [(.aload_n 0, 1, 0, 0, .null, []), (.getfield 83, 3, 7, 12, .null, []), (.iload_n 1, 1, 1, 0, .null, []), (.if_icmp .ge 15, 3, 20, 0, .null, []), (.aload_n 0, 1, 0, 0, .null, []), (.getfield 16, 3, 7, 4, .null, []), (.aload_n 0, 1, 0, 0, .null, []), (.getfield 83, 3, 7, 12, .null, []), (.iaload, 1, 0, 0, .null, []), (.goto 4, 3, 21, 0, .null, [])] := rfl
theorem bk_R_readPrisoner_20 : vx_bk tb_R_readPrisoner 20 = [(.iconst 0, 1, 0, 0, .int 0, [])] := rfl
theorem bk_R_readPrisoner_21 : vx_bk tb_R_readPrisoner 21 = [(.istore_n 2, 1, 2, 0, .null, []), (.iload_n 2, 1, 2, 0, .null, []), (.bipush 112, 2, 0, 0, .int 112, []), (.if_icmp .ne 7, 3, 32, 0, .null, []), (.iconst 0, 1, 0, 0, .int 0, []), (.goto 25, 3, 54, 0, .null, [])] := rfl
theorem bk_R_readPrisoner_32 : vx_bk tb_R_readPrisoner 32 = [(.iload_n 2, 1, 2, 0, .null, []), (.bipush 116, 2, 0, 0, .int 116, []), (.if_icmp .ne 7, 3, 42, 0, .null, []), (.iconst 1, 1, 0, 0, .int 1, []), (.goto 15, 3, 54, 0, .null, [])] := rfl
theorem bk_R_readPrisoner_42 : vx_bk tb_R_readPrisoner 42 = [(.iload_n 2, 1, 2, 0, .null, []), (.bipush 98, 2, 0, 0, .int 98, []), (.if_icmp .ne 7, 3, 52, 0, .null, []), (.iconst 2, 1, 0, 0, .int 2, []), (.goto 5, 3, 54, 0, .null, [])] := rfl
theorem bk_R_readPrisoner_52 : vx_bk tb_R_readPrisoner 52 = [(.bipush (-9), 2, 0, 0, .int (-9), [])] := rfl
theorem bk_R_readPrisoner_54 : vx_bk tb_R_readPrisoner 54 = [(.istore_n 3, 1, 3, 0, .null, []), (.iload_n 3, 1, 3, 0, .null, []), (.bipush (-9), 2, 0, 0, .int (-9), []), (.if_icmp .ne 5, 3, 63, 0, .null, []), (.iconst 0, 1, 0, 0, .int 0, []), (.ireturn, 1, 1, 0, .null, [])] := rfl
theorem bk_R_readPrisoner_63 : vx_bk tb_R_readPrisoner 63 = [(.aload_n 0, 1, 0, 0, .null, []), (.dup, 1, 0, 0, .null, []), (.getfield 83, 3, 7, 12, .null, []), (.iconst 1, 1, 0, 0, .int 1, []), (.iadd, 1, 0, 0, .null, []), (.putfield 83, 3, 7, 12, .int 0, []), (.aload_n 0, 1, 0, 0, .null, []), (.getfield 31, 3, 7, 17, .null, []), (.aload_n 0, 1, 0, 0, .null, []), (.getfield 117, 3, 7, 15, .null, []), (.iload_n 3, 1, 3, 0, .null, []), (.iastore, 1, 0, 0, .null, []), (.aload_n 0, 1, 0, 0, .null, []), (.getfield 34, 3, 7, 18, .null, []), (.aload_n 0, 1, 0, 0, .null, []), (.getfield 117, 3, 7, 15, .null, []), (.aload_n 0, 1, 0, 0, .null, []), (.iload_n 1, 1, 1, 0, .null, []), (.iconst 0, 1, 0, 0, .int 0, []), (.aload_n 0, 1, 0, 0, .null, []), (.getfield 108, 3, 7, 13, .null, []), (.iconst 1, 1, 0, 0, .int 1, []), (.isub, 1, 0, 0, .null, []), (.invokevirtual 136, 3, 111, 3, .null, [(0, 0), (0, 0), (0, 0), (0, 0), (0, 0), (0, 0), (0, 0)]), (.iastore, 1, 0, 0, .null, []), (.aload_n 0, 1, 0, 0, .null, []), (.dup, 1, 0, 0, .null, []), (.getfield 117, 3, 7, 15, .null, []), (.iconst 1, 1, 0, 0, .int 1, []), (.iadd, 1, 0, 0, .null, []), (.putfield 117, 3, 7, 15, .int 0, []), (.aload_n 0, 1, 0, 0, .null, []), (.getfield 34, 3, 7, 18, .null, []), (.aload_n 0, 1, 0, 0, .null, []), (.getfield 117, 3, 7, 15, .null, []), (.iconst 1, 1, 0, 0, .int 1, []), (.isub, 1, 0, 0, .null, []), (.iaload, 1, 0, 0, .null, []), (.bipush (-9), 2, 0, 0, .int (-9), []), (.if_icmp .eq 7, 3, 134, 0, .null, []), (.iconst 1, 1, 0, 0, .int 1, []), (.goto 4, 3, 135, 0, .null, [])] := rfl
theorem bk_R_readPrisoner_134 : vx_bk tb_R_readPrisoner 134 = [(.iconst 0, 1, 0, 0, .int 0, [])] := rfl
theorem bk_R_readPrisoner_135 : vx_bk tb_R_readPrisoner 135 = [(.ireturn, 1, 1, 0, .null, [])] := rfl
abbrev m_R_readPrisoner : Nat := 114
set_option maxRecDepth 100000 in
theorem ck_R_readPrisoner : vx_ckM prog_9_method_19_code 7 4 3 false (some .boolean) tb_R_readPrisoner = true := by decide +kernel
theorem ok_R_readPrisoner {As : List Value} {sz : Nat} {h : vx_H} {P : Option Value → vx_H → Prop} (L0 : vx_L) (hlen : (vx_ar As).length ≤ 4) (hL0 : vx_ar As ++ List.replicate (4 - (vx_ar As).length) none = L0)
    (body : ∀ (lim z : vx_Z) X, vx_cl0 none lim tb_R_readPrisoner (fun r z' h' => z' = z ∧ P r h') X → X 0 L0 [] z h) : vx_Ok m_R_readPrisoner As sz h P :=
  vx_ok0 (M := (⟨"VoteWallsModel", "readPrisoner", "(I)Z"⟩, prog_9_method_19_code, 4, (some .boolean), 3, 0, 0, 1, 0)) rfl (ow := 7) rfl ck_R_readPrisoner rfl hlen hL0 body
def kb_R_ofPrisoner_0 : List vx_I := [(.aload_n 0, 1, 0, 0, .null, []), (.iload_n 1, 1, 1, 0, .null, []), (.invokevirtual 145, 3, 116, 1, .null, [(0, 0), (0, 0), (0, 0), (0, 0), (0, 0), (0, 0), (0, 0)]), (.ifCond .ne 5, 3, 10, 0, .null, []), (.iconst (-1), 1, 0, 0, .int (-1), []), (.ireturn, 1, 0, 0, .null, [])]
def kb_R_ofPrisoner_10 : List vx_I := [(.iload_n 2, 1, 2, 0, .null, []), (.ifCond .ne 12, 3, 23, 0, .null, []), (.aload_n 0, 1, 0, 0, .null, []), (.getfield 22, 3, 7, 9, .null, []), (.iload_n 1, 1, 1, 0, .null, []), (.iaload, 1, 0, 0, .null, []), (.goto 32, 3, 52, 0, .null, [])]
def kb_R_ofPrisoner_23 : List vx_I := [(.iload_n 2, 1, 2, 0, .null, []), (.iconst 1, 1, 0, 0, .int 1, []), (.if_icmp .ne 12, 3, 37, 0, .null, []), (.aload_n 0, 1, 0, 0, .null, []), (.getfield 25, 3, 7, 10, .null, []), (.iload_n 1, 1, 1, 0, .null, []), (.iaload, 1, 0, 0, .null, []), (.goto 18, 3, 52, 0, .null, [])]
def kb_R_ofPrisoner_37 : List vx_I := [(.iload_n 2, 1, 2, 0, .null, []), (.iconst 2, 1, 0, 0, .int 2, []), (.if_icmp .ne 11, 3, 50, 0, .null, []), (.aload_n 0, 1, 0, 0, .null, []), (.iload_n 1, 1, 1, 0, .null, []), (.invokevirtual 148, 3, 117, 1, .null, [(0, 0), (0, 0), (0, 0), (0, 0), (0, 0), (0, 0), (0, 0)]), (.goto 5, 3, 52, 0, .null, [])]
def kb_R_ofPrisoner_50 : List vx_I := [(.bipush (-2), 2, 0, 0, .int (-2), [])]
def kb_R_ofPrisoner_52 : List vx_I := [(.ireturn, 1, 0, 0, .null, [])]
def tb_R_ofPrisoner : List (Nat × List vx_I) := [(0, kb_R_ofPrisoner_0), (10, kb_R_ofPrisoner_10), (23, kb_R_ofPrisoner_23), (37, kb_R_ofPrisoner_37), (50, kb_R_ofPrisoner_50), (52, kb_R_ofPrisoner_52)]
theorem bk_R_ofPrisoner_0 : vx_bk tb_R_ofPrisoner 0 = [(.aload_n 0, 1, 0, 0, .null, []), (.iload_n 1, 1, 1, 0, .null, []), (.invokevirtual 145, 3, 116, 1, .null, [(0, 0), (0, 0), (0, 0), (0, 0), (0, 0), (0, 0), (0, 0)]), (.ifCond .ne 5, 3, 10, 0, .null, []), (.iconst (-1), 1, 0, 0, .int (-1), []), (.ireturn, 1, 0, 0, .null, [])] := rfl
theorem bk_R_ofPrisoner_10 : vx_bk tb_R_ofPrisoner 10 = [(.iload_n 2, 1, 2, 0, .null, []), (.ifCond .ne 12, 3, 23, 0, .null, []), (.aload_n 0, 1, 0, 0, .null, []), (.getfield 22, 3, 7, 9, .null, []), (.iload_n 1, 1, 1, 0, .null, []), (.iaload, 1, 0, 0, .null, []), (.goto 32, 3, 52, 0, .null, [])] := rfl
theorem bk_R_ofPrisoner_23 : vx_bk tb_R_ofPrisoner 23 = [(.iload_n 2, 1, 2, 0, .null, []), (.iconst 1, 1, 0, 0, .int 1, []), (.if_icmp .ne 12, 3, 37, 0, .null, []), (.aload_n 0, 1, 0, 0, .null, []), (.getfield 25, 3, 7, 10, .null, []), (.iload_n 1, 1, 1, 0, .null, []), (.iaload, 1, 0, 0, .null, []), (.goto 18, 3, 52, 0, .null, [])] := rfl
theorem bk_R_ofPrisoner_37 : vx_bk tb_R_ofPrisoner 37 = [(.iload_n 2, 1, 2, 0, .null, []), (.iconst 2, 1, 0, 0, .int 2, []), (.if_icmp .ne 11, 3, 50, 0, .null, []), (.aload_n 0, 1, 0, 0, .null, []), (.iload_n 1, 1, 1, 0, .null, []), (.invokevirtual 148, 3, 117, 1, .null, [(0, 0), (0, 0), (0, 0), (0, 0), (0, 0), (0, 0), (0, 0)]), (.goto 5, 3, 52, 0, .null, [])] := rfl
theorem bk_R_ofPrisoner_50 : vx_bk tb_R_ofPrisoner 50 = [(.bipush (-2), 2, 0, 0, .int (-2), [])] := rfl
theorem bk_R_ofPrisoner_52 : vx_bk tb_R_ofPrisoner 52 = [(.ireturn, 1, 0, 0, .null, [])] := rfl
abbrev m_R_ofPrisoner : Nat := 115
set_option maxRecDepth 100000 in
theorem ck_R_ofPrisoner : vx_ckM prog_9_method_21_code 7 3 1 false (some .int) tb_R_ofPrisoner = true := by decide +kernel
theorem ok_R_ofPrisoner {As : List Value} {sz : Nat} {h : vx_H} {P : Option Value → vx_H → Prop} (L0 : vx_L) (hlen : (vx_ar As).length ≤ 3) (hL0 : vx_ar As ++ List.replicate (3 - (vx_ar As).length) none = L0)
    (body : ∀ (lim z : vx_Z) X, vx_cl0 none lim tb_R_ofPrisoner (fun r z' h' => z' = z ∧ P r h') X → X 0 L0 [] z h) : vx_Ok m_R_ofPrisoner As sz h P :=
  vx_ok0 (M := (⟨"VoteWallsModel", "ofPrisoner", "(II)I"⟩, prog_9_method_21_code, 3, (some .int), 1, 0, 0, 2, 0)) rfl (ow := 7) rfl ck_R_ofPrisoner rfl hlen hL0 body
def kb_R_isPrisoner_0 : List vx_I := [(.iload_n 1, 1, 1, 0, .null, []), (.ifCond .lt 15, 3, 16, 0, .null, []), (.iload_n 1, 1, 1, 0, .null, []), (.aload_n 0, 1, 0, 0, .null, []), (.getfield 80, 3, 7, 7, .null, []), (.if_icmp .ge 7, 3, 16, 0, .null, []), (.iconst 1, 1, 0, 0, .int 1, []), (.goto 4, 3, 17, 0, .null, [])]
def kb_R_isPrisoner_16 : List vx_I := [(.iconst 0, 1, 0, 0, .int 0, [])]
def kb_R_isPrisoner_17 : List vx_I := [(.ireturn, 1, 1, 0, .null, [])]
def tb_R_isPrisoner : List (Nat × List vx_I) := [(0, kb_R_isPrisoner_0), (16, kb_R_isPrisoner_16), (17, kb_R_isPrisoner_17)]
theorem bk_R_isPrisoner_0 : vx_bk tb_R_isPrisoner 0 = [(.iload_n 1, 1, 1, 0, .null, []), (.ifCond .lt 15, 3, 16, 0, .null, []), (.iload_n 1, 1, 1, 0, .null, []), (.aload_n 0, 1, 0, 0, .null, []), (.getfield 80, 3, 7, 7, .null, []), (.if_icmp .ge 7, 3, 16, 0, .null, []), (.iconst 1, 1, 0, 0, .int 1, []), (.goto 4, 3, 17, 0, .null, [])] := rfl
theorem bk_R_isPrisoner_16 : vx_bk tb_R_isPrisoner 16 = [(.iconst 0, 1, 0, 0, .int 0, [])] := rfl
theorem bk_R_isPrisoner_17 : vx_bk tb_R_isPrisoner 17 = [(.ireturn, 1, 1, 0, .null, [])] := rfl
abbrev m_R_isPrisoner : Nat := 116
set_option maxRecDepth 100000 in
theorem ck_R_isPrisoner : vx_ckM prog_9_method_10_code 7 2 0 false (some .boolean) tb_R_isPrisoner = true := by decide +kernel
theorem ok_R_isPrisoner {As : List Value} {sz : Nat} {h : vx_H} {P : Option Value → vx_H → Prop} (L0 : vx_L) (hlen : (vx_ar As).length ≤ 2) (hL0 : vx_ar As ++ List.replicate (2 - (vx_ar As).length) none = L0)
    (body : ∀ (lim z : vx_Z) X, vx_cl0 none lim tb_R_isPrisoner (fun r z' h' => z' = z ∧ P r h') X → X 0 L0 [] z h) : vx_Ok m_R_isPrisoner As sz h P :=
  vx_ok0 (M := (⟨"VoteWallsModel", "isPrisoner", "(I)Z"⟩, prog_9_method_10_code, 2, (some .boolean), 0, 0, 0, 1, 0)) rfl (ow := 7) rfl ck_R_isPrisoner rfl hlen hL0 body
def kb_R_votes_0 : List vx_I := [(.aload_n 0, 1, 0, 0, .null, []), (.getfield 22, 3, 7, 9, .null, []), (.iload_n 1, 1, 1, 0, .null, []), (.iaload, 1, 0, 0, .null, []), (.ifCond .ne 7, 3, 13, 0, .null, []), (.iconst 1, 1, 0, 0, .int 1, []), (.goto 18, 3, 28, 0, .null, [])]
def kb_R_votes_13 : List vx_I := [(.aload_n 0, 1, 0, 0, .null, []), (.getfield 22, 3, 7, 9, .null, []), (.iload_n 1, 1, 1, 0, .null, []), (.iaload, 1, 0, 0, .null, []), (.iconst 1, 1, 0, 0, .int 1, []), (.if_icmp .ne 7, 3, 27, 0, .null, []), (.iconst 2, 1, 0, 0, .int 2, []), (.goto 4, 3, 28, 0, .null, [])]
def kb_R_votes_27 : List vx_I := [(.iconst 4, 1, 0, 0, .int 4, [])]
def kb_R_votes_28 : List vx_I := [(.ireturn, 1, 0, 0, .null, [])]
def tb_R_votes : List (Nat × List vx_I) := [(0, kb_R_votes_0), (13, kb_R_votes_13), (27, kb_R_votes_27), (28, kb_R_votes_28)]
theorem bk_R_votes_0 : vx_bk tb_R_votes 0 = [(.aload_n 0, 1, 0, 0, .null, []), (.getfield 22, 3, 7, 9, .null, []), (.iload_n 1, 1, 1, 0, .null, []), (.iaload, 1, 0, 0, .null, []), (.ifCond .ne 7, 3, 13, 0, .null, []), (.iconst 1, 1, 0, 0, .int 1, []), (.goto 18, 3, 28, 0, .null, [])] := rfl
theorem bk_R_votes_13 : vx_bk tb_R_votes 13 = [(.aload_n 0, 1, 0, 0, .null, []), (.getfield 22, 3, 7, 9, .null, []), (.iload_n 1, 1, 1, 0, .null, []), (.iaload, 1, 0, 0, .null, []), (.iconst 1, 1, 0, 0, .int 1, []), (.if_icmp .ne 7, 3, 27, 0, .null, []), (.iconst 2, 1, 0, 0, .int 2, []), (.goto 4, 3, 28, 0, .null, [])] := rfl
theorem bk_R_votes_27 : vx_bk tb_R_votes 27 = [(.iconst 4, 1, 0, 0, .int 4, [])] := rfl
theorem bk_R_votes_28 : vx_bk tb_R_votes 28 = [(.ireturn, 1, 0, 0, .null, [])] := rfl
abbrev m_R_votes : Nat := 117
set_option maxRecDepth 100000 in
theorem ck_R_votes : vx_ckM prog_9_method_20_code 7 2 0 false (some .int) tb_R_votes = true := by decide +kernel
theorem ok_R_votes {As : List Value} {sz : Nat} {h : vx_H} {P : Option Value → vx_H → Prop} (L0 : vx_L) (hlen : (vx_ar As).length ≤ 2) (hL0 : vx_ar As ++ List.replicate (2 - (vx_ar As).length) none = L0)
    (body : ∀ (lim z : vx_Z) X, vx_cl0 none lim tb_R_votes (fun r z' h' => z' = z ∧ P r h') X → X 0 L0 [] z h) : vx_Ok m_R_votes As sz h P :=
  vx_ok0 (M := (⟨"VoteWallsModel", "votes", "(I)I"⟩, prog_9_method_20_code, 2, (some .int), 0, 0, 0, 1, 0)) rfl (ow := 7) rfl ck_R_votes rfl hlen hL0 body
def kb_R_law_0 : List vx_I := [(.iload_n 1, 1, 1, 0, .null, []), (.iconst 0, 1, 0, 0, .int 0, []), (.iconst 1, 1, 0, 0, .int 1, []), (.invokestatic 73, 3, 105, 3, .null, []), (.ifCond .ne 6, 3, 12, 0, .null, []), (.bipush (-2), 2, 0, 0, .int (-2), []), (.ireturn, 1, 0, 0, .null, [])]
def kb_R_law_12 : List vx_I := [(.aload_n 0, 1, 0, 0, .null, []), (.invokevirtual 151, 3, 119, 0, .null, [(0, 0), (0, 0), (0, 0), (0, 0), (0, 0), (0, 0), (0, 0)]), (.ifCond .ne 6, 3, 22, 0, .null, []), (.bipush (-3), 2, 0, 0, .int (-3), []), (.ireturn, 1, 0, 0, .null, [])]
def kb_R_law_22 : List vx_I := [(.aload_n 0, 1, 0, 0, .null, []), (.getfield 120, 3, 7, 11, .null, []), (.istore_n 2, 1, 2, 0, .null, []), (.aload_n 0, 1, 0, 0, .null, []), (.iload_n 1, 1, 1, 0, .null, []), (.putfield 120, 3, 7, 11, .int 0, []), (.iload_n 2, 1, 2, 0, .null, []), (.ireturn, 1, 0, 0, .null, [])]
def tb_R_law : List (Nat × List vx_I) := [(0, kb_R_law_0), (12, kb_R_law_12), (22, kb_R_law_22)]
theorem bk_R_law_0 : vx_bk tb_R_law 0 = [(.iload_n 1, 1, 1, 0, .null, []), (.iconst 0, 1, 0, 0, .int 0, []), (.iconst 1, 1, 0, 0, .int 1, []), (.invokestatic 73, 3, 105, 3, .null, []), (.ifCond .ne 6, 3, 12, 0, .null, []), (.bipush (-2), 2, 0, 0, .int (-2), []), (.ireturn, 1, 0, 0, .null, [])] := rfl
theorem bk_R_law_12 : vx_bk tb_R_law 12 = [(.aload_n 0, 1, 0, 0, .null, []), (.invokevirtual 151, 3, 119, 0, .null, [(0, 0), (0, 0), (0, 0), (0, 0), (0, 0), (0, 0), (0, 0)]), (.ifCond .ne 6, 3, 22, 0, .null, []), (.bipush (-3), 2, 0, 0, .int (-3), []), (.ireturn, 1, 0, 0, .null, [])] := rfl
theorem bk_R_law_22 : vx_bk tb_R_law 22 = [(.aload_n 0, 1, 0, 0, .null, []), (.getfield 120, 3, 7, 11, .null, []), (.istore_n 2, 1, 2, 0, .null, []), (.aload_n 0, 1, 0, 0, .null, []), (.iload_n 1, 1, 1, 0, .null, []), (.putfield 120, 3, 7, 11, .int 0, []), (.iload_n 2, 1, 2, 0, .null, []), (.ireturn, 1, 0, 0, .null, [])] := rfl
abbrev m_R_law : Nat := 118
set_option maxRecDepth 100000 in
theorem ck_R_law : vx_ckM prog_9_method_22_code 7 3 1 false (some .int) tb_R_law = true := by decide +kernel
theorem ok_R_law {As : List Value} {sz : Nat} {h : vx_H} {P : Option Value → vx_H → Prop} (L0 : vx_L) (hlen : (vx_ar As).length ≤ 3) (hL0 : vx_ar As ++ List.replicate (3 - (vx_ar As).length) none = L0)
    (body : ∀ (lim z : vx_Z) X, vx_cl0 none lim tb_R_law (fun r z' h' => z' = z ∧ P r h') X → X 0 L0 [] z h) : vx_Ok m_R_law As sz h P :=
  vx_ok0 (M := (⟨"VoteWallsModel", "law", "(I)I"⟩, prog_9_method_22_code, 3, (some .int), 1, 0, 0, 1, 0)) rfl (ow := 7) rfl ck_R_law rfl hlen hL0 body
def kb_R_isYard_0 : List vx_I := [(.aload_n 0, 1, 0, 0, .null, []), (.getfield 77, 3, 7, 6, .null, []), (.ifCond .le 7, 3, 11, 0, .null, []), (.iconst 1, 1, 0, 0, .int 1, []), (.goto 4, 3, 12, 0, .null, [])]
def kb_R_isYard_11 : List vx_I := [(.iconst 0, 1, 0, 0, .int 0, [])]
def kb_R_isYard_12 : List vx_I := [(.ireturn, 1, 1, 0, .null, [])]
def tb_R_isYard : List (Nat × List vx_I) := [(0, kb_R_isYard_0), (11, kb_R_isYard_11), (12, kb_R_isYard_12)]
theorem bk_R_isYard_0 : vx_bk tb_R_isYard 0 = [(.aload_n 0, 1, 0, 0, .null, []), (.getfield 77, 3, 7, 6, .null, []), (.ifCond .le 7, 3, 11, 0, .null, []), (.iconst 1, 1, 0, 0, .int 1, []), (.goto 4, 3, 12, 0, .null, [])] := rfl
theorem bk_R_isYard_11 : vx_bk tb_R_isYard 11 = [(.iconst 0, 1, 0, 0, .int 0, [])] := rfl
theorem bk_R_isYard_12 : vx_bk tb_R_isYard 12 = [(.ireturn, 1, 1, 0, .null, [])] := rfl
abbrev m_R_isYard : Nat := 119
set_option maxRecDepth 100000 in
theorem ck_R_isYard : vx_ckM prog_9_method_11_code 7 1 0 false (some .boolean) tb_R_isYard = true := by decide +kernel
theorem ok_R_isYard {As : List Value} {sz : Nat} {h : vx_H} {P : Option Value → vx_H → Prop} (L0 : vx_L) (hlen : (vx_ar As).length ≤ 1) (hL0 : vx_ar As ++ List.replicate (1 - (vx_ar As).length) none = L0)
    (body : ∀ (lim z : vx_Z) X, vx_cl0 none lim tb_R_isYard (fun r z' h' => z' = z ∧ P r h') X → X 0 L0 [] z h) : vx_Ok m_R_isYard As sz h P :=
  vx_ok0 (M := (⟨"VoteWallsModel", "isYard", "()Z"⟩, prog_9_method_11_code, 1, (some .boolean), 0, 0, 0, 0, 0)) rfl (ow := 7) rfl ck_R_isYard rfl hlen hL0 body
def kb_R_lock_0 : List vx_I := [(.aload_n 0, 1, 0, 0, .null, []), (.iload_n 1, 1, 1, 0, .null, []), (.invokevirtual 158, 3, 121, 1, .null, [(0, 0), (0, 0), (0, 0), (0, 0), (0, 0), (0, 0), (0, 0)]), (.ifCond .ne 5, 3, 10, 0, .null, []), (.iconst (-1), 1, 0, 0, .int (-1), []), (.ireturn, 1, 0, 0, .null, [])]
def kb_R_lock_10 : List vx_I := [(.iload_n 2, 1, 2, 0, .null, []), (.iload_n 3, 1, 3, 0, .null, []), (.invokestatic 161, 3, 122, 2, .null, []), (.ifCond .ne 6, 3, 21, 0, .null, []), (.bipush (-2), 2, 0, 0, .int (-2), []), (.ireturn, 1, 0, 0, .null, [])]
def kb_R_lock_21 : List vx_I := [(.aload_n 0, 1, 0, 0, .null, []), (.getfield 123, 3, 7, 19, .null, []), (.bipush 6, 2, 0, 0, .int 6, []), (.if_icmp .ne 6, 3, 33, 0, .null, []), (.bipush (-4), 2, 0, 0, .int (-4), []), (.ireturn, 1, 0, 0, .null, [])]
def kb_R_lock_33 : List vx_I := [(.aload_n 0, 1, 0, 0, .null, []), (.getfield 37, 3, 7, 20, .null, []), (.aload_n 0, 1, 0, 0, .null, []), (.getfield 123, 3, 7, 19, .null, []), (.iload_n 1, 1, 1, 0, .null, []), (.iastore, 1, 0, 0, .null, []), (.aload_n 0, 1, 0, 0, .null, []), (.getfield 40, 3, 7, 21, .null, []), (.aload_n 0, 1, 0, 0, .null, []), (.getfield 123, 3, 7, 19, .null, []), (.iload_n 2, 1, 2, 0, .null, []), (.iastore, 1, 0, 0, .null, []), (.aload_n 0, 1, 0, 0, .null, []), (.getfield 43, 3, 7, 22, .null, []), (.aload_n 0, 1, 0, 0, .null, []), (.getfield 123, 3, 7, 19, .null, []), (.iload_n 3, 1, 3, 0, .null, []), (.iastore, 1, 0, 0, .null, []), (.aload_n 0, 1, 0, 0, .null, []), (.dup, 1, 0, 0, .null, []), (.getfield 123, 3, 7, 19, .null, []), (.iconst 1, 1, 0, 0, .int 1, []), (.iadd, 1, 0, 0, .null, []), (.putfield 123, 3, 7, 19, .int 0, []), (.aload_n 0, 1, 0, 0, .null, []), (.getfield 123, 3, 7, 19, .null, []), (.iconst 1, 1, 0, 0, .int 1, []), (.isub, 1, 0, 0, .null, []), (.ireturn, 1, 0, 0, .null, [])]
def tb_R_lock : List (Nat × List vx_I) := [(0, kb_R_lock_0), (10, kb_R_lock_10), (21, kb_R_lock_21), (33, kb_R_lock_33)]
theorem bk_R_lock_0 : vx_bk tb_R_lock 0 = [(.aload_n 0, 1, 0, 0, .null, []), (.iload_n 1, 1, 1, 0, .null, []), (.invokevirtual 158, 3, 121, 1, .null, [(0, 0), (0, 0), (0, 0), (0, 0), (0, 0), (0, 0), (0, 0)]), (.ifCond .ne 5, 3, 10, 0, .null, []), (.iconst (-1), 1, 0, 0, .int (-1), []), (.ireturn, 1, 0, 0, .null, [])] := rfl
theorem bk_R_lock_10 : vx_bk tb_R_lock 10 = [(.iload_n 2, 1, 2, 0, .null, []), (.iload_n 3, 1, 3, 0, .null, []), (.invokestatic 161, 3, 122, 2, .null, []), (.ifCond .ne 6, 3, 21, 0, .null, []), (.bipush (-2), 2, 0, 0, .int (-2), []), (.ireturn, 1, 0, 0, .null, [])] := rfl
theorem bk_R_lock_21 : vx_bk tb_R_lock 21 = [(.aload_n 0, 1, 0, 0, .null, []), (.getfield 123, 3, 7, 19, .null, []), (.bipush 6, 2, 0, 0, .int 6, []), (.if_icmp .ne 6, 3, 33, 0, .null, []), (.bipush (-4), 2, 0, 0, .int (-4), []), (.ireturn, 1, 0, 0, .null, [])] := rfl
theorem bk_R_lock_33 : vx_bk tb_R_lock 33 = [(.aload_n 0, 1, 0, 0, .null, []), (.getfield 37, 3, 7, 20, .null, []), (.aload_n 0, 1, 0, 0, .null, []), (.getfield 123, 3, 7, 19, .null, []), (.iload_n 1, 1, 1, 0, .null, []), (.iastore, 1, 0, 0, .null, []), (.aload_n 0, 1, 0, 0, .null, []), (.getfield 40, 3, 7, 21, .null, []), (.aload_n 0, 1, 0, 0, .null, []), (.getfield 123, 3, 7, 19, .null, []), (.iload_n 2, 1, 2, 0, .null, []), (.iastore, 1, 0, 0, .null, []), (.aload_n 0, 1, 0, 0, .null, []), (.getfield 43, 3, 7, 22, .null, []), (.aload_n 0, 1, 0, 0, .null, []), (.getfield 123, 3, 7, 19, .null, []), (.iload_n 3, 1, 3, 0, .null, []), (.iastore, 1, 0, 0, .null, []), (.aload_n 0, 1, 0, 0, .null, []), (.dup, 1, 0, 0, .null, []), (.getfield 123, 3, 7, 19, .null, []), (.iconst 1, 1, 0, 0, .int 1, []), (.iadd, 1, 0, 0, .null, []), (.putfield 123, 3, 7, 19, .int 0, []), (.aload_n 0, 1, 0, 0, .null, []), (.getfield 123, 3, 7, 19, .null, []), (.iconst 1, 1, 0, 0, .int 1, []), (.isub, 1, 0, 0, .null, []), (.ireturn, 1, 0, 0, .null, [])] := rfl
abbrev m_R_lock : Nat := 120
set_option maxRecDepth 100000 in
theorem ck_R_lock : vx_ckM prog_9_method_24_code 7 4 3 false (some .int) tb_R_lock = true := by decide +kernel
theorem ok_R_lock {As : List Value} {sz : Nat} {h : vx_H} {P : Option Value → vx_H → Prop} (L0 : vx_L) (hlen : (vx_ar As).length ≤ 4) (hL0 : vx_ar As ++ List.replicate (4 - (vx_ar As).length) none = L0)
    (body : ∀ (lim z : vx_Z) X, vx_cl0 none lim tb_R_lock (fun r z' h' => z' = z ∧ P r h') X → X 0 L0 [] z h) : vx_Ok m_R_lock As sz h P :=
  vx_ok0 (M := (⟨"VoteWallsModel", "lock", "(III)I"⟩, prog_9_method_24_code, 4, (some .int), 3, 0, 0, 3, 0)) rfl (ow := 7) rfl ck_R_lock rfl hlen hL0 body
def kb_R_isBoard_0 : List vx_I := [(.iload_n 1, 1, 1, 0, .null, []), (.ifCond .lt 15, 3, 16, 0, .null, []), (.iload_n 1, 1, 1, 0, .null, []), (.aload_n 0, 1, 0, 0, .null, []), (.getfield 77, 3, 7, 6, .null, []), (.if_icmp .ge 7, 3, 16, 0, .null, []), (.iconst 1, 1, 0, 0, .int 1, []), (.goto 4, 3, 17, 0, .null, [])]
def kb_R_isBoard_16 : List vx_I := [(.iconst 0, 1, 0, 0, .int 0, [])]
def kb_R_isBoard_17 : List vx_I := [(.ireturn, 1, 1, 0, .null, [])]
def tb_R_isBoard : List (Nat × List vx_I) := [(0, kb_R_isBoard_0), (16, kb_R_isBoard_16), (17, kb_R_isBoard_17)]
theorem bk_R_isBoard_0 : vx_bk tb_R_isBoard 0 = [(.iload_n 1, 1, 1, 0, .null, []), (.ifCond .lt 15, 3, 16, 0, .null, []), (.iload_n 1, 1, 1, 0, .null, []), (.aload_n 0, 1, 0, 0, .null, []), (.getfield 77, 3, 7, 6, .null, []), (.if_icmp .ge 7, 3, 16, 0, .null, []), (.iconst 1, 1, 0, 0, .int 1, []), (.goto 4, 3, 17, 0, .null, [])] := rfl
theorem bk_R_isBoard_16 : vx_bk tb_R_isBoard 16 = [(.iconst 0, 1, 0, 0, .int 0, [])] := rfl
theorem bk_R_isBoard_17 : vx_bk tb_R_isBoard 17 = [(.ireturn, 1, 1, 0, .null, [])] := rfl
abbrev m_R_isBoard : Nat := 121
set_option maxRecDepth 100000 in
theorem ck_R_isBoard : vx_ckM prog_9_method_9_code 7 2 0 false (some .boolean) tb_R_isBoard = true := by decide +kernel
theorem ok_R_isBoard {As : List Value} {sz : Nat} {h : vx_H} {P : Option Value → vx_H → Prop} (L0 : vx_L) (hlen : (vx_ar As).length ≤ 2) (hL0 : vx_ar As ++ List.replicate (2 - (vx_ar As).length) none = L0)
    (body : ∀ (lim z : vx_Z) X, vx_cl0 none lim tb_R_isBoard (fun r z' h' => z' = z ∧ P r h') X → X 0 L0 [] z h) : vx_Ok m_R_isBoard As sz h P :=
  vx_ok0 (M := (⟨"VoteWallsModel", "isBoard", "(I)Z"⟩, prog_9_method_9_code, 2, (some .boolean), 0, 0, 0, 1, 0)) rfl (ow := 7) rfl ck_R_isBoard rfl hlen hL0 body
def kb_R_isSpan_0 : List vx_I := [(.iload_n 0, 1, 0, 0, .null, []), (.invokestatic 155, 3, 123, 1, .null, []), (.ifCond .eq 19, 3, 23, 0, .null, []), (.iload_n 1, 1, 1, 0, .null, []), (.invokestatic 155, 3, 123, 1, .null, []), (.ifCond .eq 12, 3, 23, 0, .null, []), (.iload_n 1, 1, 1, 0, .null, []), (.iload_n 0, 1, 0, 0, .null, []), (.if_icmp .lt 7, 3, 23, 0, .null, []), (.iconst 1, 1, 0, 0, .int 1, []), (.goto 4, 3, 24, 0, .null, [])]
def kb_R_isSpan_23 : List vx_I := [(.iconst 0, 1, 0, 0, .int 0, [])]
def kb_R_isSpan_24 : List vx_I := [(.ireturn, 1, 1, 0, .null, [])]
def tb_R_isSpan : List (Nat × List vx_I) := [(0, kb_R_isSpan_0), (23, kb_R_isSpan_23), (24, kb_R_isSpan_24)]
theorem bk_R_isSpan_0 : vx_bk tb_R_isSpan 0 = [(.iload_n 0, 1, 0, 0, .null, []), (.invokestatic 155, 3, 123, 1, .null, []), (.ifCond .eq 19, 3, 23, 0, .null, []), (.iload_n 1, 1, 1, 0, .null, []), (.invokestatic 155, 3, 123, 1, .null, []), (.ifCond .eq 12, 3, 23, 0, .null, []), (.iload_n 1, 1, 1, 0, .null, []), (.iload_n 0, 1, 0, 0, .null, []), (.if_icmp .lt 7, 3, 23, 0, .null, []), (.iconst 1, 1, 0, 0, .int 1, []), (.goto 4, 3, 24, 0, .null, [])] := rfl
theorem bk_R_isSpan_23 : vx_bk tb_R_isSpan 23 = [(.iconst 0, 1, 0, 0, .int 0, [])] := rfl
theorem bk_R_isSpan_24 : vx_bk tb_R_isSpan 24 = [(.ireturn, 1, 1, 0, .null, [])] := rfl
abbrev m_R_isSpan : Nat := 122
set_option maxRecDepth 100000 in
theorem ck_R_isSpan : vx_ckM prog_9_method_23_code 7 2 2 false (some .boolean) tb_R_isSpan = true := by decide +kernel
theorem ok_R_isSpan {As : List Value} {sz : Nat} {h : vx_H} {P : Option Value → vx_H → Prop} (L0 : vx_L) (hlen : (vx_ar As).length ≤ 2) (hL0 : vx_ar As ++ List.replicate (2 - (vx_ar As).length) none = L0)
    (body : ∀ (lim z : vx_Z) X, vx_cl0 none lim tb_R_isSpan (fun r z' h' => z' = z ∧ P r h') X → X 0 L0 [] z h) : vx_Ok m_R_isSpan As sz h P :=
  vx_ok0 (M := (⟨"VoteWallsModel", "isSpan", "(II)Z"⟩, prog_9_method_23_code, 2, (some .boolean), 2, 0, 0, 2, 1)) rfl (ow := 7) rfl ck_R_isSpan rfl hlen hL0 body
def kb_R_isSunday_0 : List vx_I := [(.iload_n 0, 1, 0, 0, .null, []), (.iconst 0, 1, 0, 0, .int 0, []), (.bipush 49, 2, 0, 0, .int 49, []), (.invokestatic 73, 3, 105, 3, .null, []), (.ireturn, 1, 1, 0, .null, [])]
def tb_R_isSunday : List (Nat × List vx_I) := [(0, kb_R_isSunday_0)]
theorem bk_R_isSunday_0 : vx_bk tb_R_isSunday 0 = [(.iload_n 0, 1, 0, 0, .null, []), (.iconst 0, 1, 0, 0, .int 0, []), (.bipush 49, 2, 0, 0, .int 49, []), (.invokestatic 73, 3, 105, 3, .null, []), (.ireturn, 1, 1, 0, .null, [])] := rfl
abbrev m_R_isSunday : Nat := 123
set_option maxRecDepth 100000 in
theorem ck_R_isSunday : vx_ckM prog_9_method_12_code 7 1 1 false (some .boolean) tb_R_isSunday = true := by decide +kernel
theorem ok_R_isSunday {As : List Value} {sz : Nat} {h : vx_H} {P : Option Value → vx_H → Prop} (L0 : vx_L) (hlen : (vx_ar As).length ≤ 1) (hL0 : vx_ar As ++ List.replicate (1 - (vx_ar As).length) none = L0)
    (body : ∀ (lim z : vx_Z) X, vx_cl0 none lim tb_R_isSunday (fun r z' h' => z' = z ∧ P r h') X → X 0 L0 [] z h) : vx_Ok m_R_isSunday As sz h P :=
  vx_ok0 (M := (⟨"VoteWallsModel", "isSunday", "(I)Z"⟩, prog_9_method_12_code, 1, (some .boolean), 1, 0, 0, 1, 1)) rfl (ow := 7) rfl ck_R_isSunday rfl hlen hL0 body
def kb_R_unlock_0 : List vx_I := [(.iload_n 1, 1, 1, 0, .null, []), (.iconst 0, 1, 0, 0, .int 0, []), (.aload_n 0, 1, 0, 0, .null, []), (.getfield 123, 3, 7, 19, .null, []), (.invokestatic 73, 3, 105, 3, .null, []), (.ifCond .ne 6, 3, 15, 0, .null, []), (.bipush (-2), 2, 0, 0, .int (-2), []), (.ireturn, 1, 0, 0, .null, [])]
def kb_R_unlock_15 : List vx_I := [(.aload_n 0, 1, 0, 0, .null, []), (.dup, 1, 0, 0, .null, []), (.getfield 123, 3, 7, 19, .null, []), (.iload_n 1, 1, 1, 0, .null, []), (.isub, 1, 0, 0, .null, []), (.putfield 123, 3, 7, 19, .int 0, []), (.aload_n 0, 1, 0, 0, .null, []), (.getfield 123, 3, 7, 19, .null, []), (.ireturn, 1, 0, 0, .null, [])]
def tb_R_unlock : List (Nat × List vx_I) := [(0, kb_R_unlock_0), (15, kb_R_unlock_15)]
theorem bk_R_unlock_0 : vx_bk tb_R_unlock 0 = [(.iload_n 1, 1, 1, 0, .null, []), (.iconst 0, 1, 0, 0, .int 0, []), (.aload_n 0, 1, 0, 0, .null, []), (.getfield 123, 3, 7, 19, .null, []), (.invokestatic 73, 3, 105, 3, .null, []), (.ifCond .ne 6, 3, 15, 0, .null, []), (.bipush (-2), 2, 0, 0, .int (-2), []), (.ireturn, 1, 0, 0, .null, [])] := rfl
theorem bk_R_unlock_15 : vx_bk tb_R_unlock 15 = [(.aload_n 0, 1, 0, 0, .null, []), (.dup, 1, 0, 0, .null, []), (.getfield 123, 3, 7, 19, .null, []), (.iload_n 1, 1, 1, 0, .null, []), (.isub, 1, 0, 0, .null, []), (.putfield 123, 3, 7, 19, .int 0, []), (.aload_n 0, 1, 0, 0, .null, []), (.getfield 123, 3, 7, 19, .null, []), (.ireturn, 1, 0, 0, .null, [])] := rfl
abbrev m_R_unlock : Nat := 124
set_option maxRecDepth 100000 in
theorem ck_R_unlock : vx_ckM prog_9_method_25_code 7 2 1 false (some .int) tb_R_unlock = true := by decide +kernel
theorem ok_R_unlock {As : List Value} {sz : Nat} {h : vx_H} {P : Option Value → vx_H → Prop} (L0 : vx_L) (hlen : (vx_ar As).length ≤ 2) (hL0 : vx_ar As ++ List.replicate (2 - (vx_ar As).length) none = L0)
    (body : ∀ (lim z : vx_Z) X, vx_cl0 none lim tb_R_unlock (fun r z' h' => z' = z ∧ P r h') X → X 0 L0 [] z h) : vx_Ok m_R_unlock As sz h P :=
  vx_ok0 (M := (⟨"VoteWallsModel", "unlock", "(I)I"⟩, prog_9_method_25_code, 2, (some .int), 1, 0, 0, 1, 0)) rfl (ow := 7) rfl ck_R_unlock rfl hlen hL0 body
def kb_R_strike_0 : List vx_I := [(.aload_n 0, 1, 0, 0, .null, []), (.iload_n 1, 1, 1, 0, .null, []), (.invokevirtual 145, 3, 116, 1, .null, [(0, 0), (0, 0), (0, 0), (0, 0), (0, 0), (0, 0), (0, 0)]), (.ifCond .ne 5, 3, 10, 0, .null, []), (.iconst (-1), 1, 0, 0, .int (-1), []), (.ireturn, 1, 0, 0, .null, [])]
def kb_R_strike_10 : List vx_I := [(.iload_n 2, 1, 2, 0, .null, []), (.iload_n 3, 1, 3, 0, .null, []), (.invokestatic 161, 3, 122, 2, .null, []), (.ifCond .ne 6, 3, 21, 0, .null, []), (.bipush (-2), 2, 0, 0, .int (-2), []), (.ireturn, 1, 0, 0, .null, [])]
def kb_R_strike_21 : List vx_I := [(.aload_n 0, 1, 0, 0, .null, []), (.getfield 126, 3, 7, 23, .null, []), (.bipush 6, 2, 0, 0, .int 6, []), (.if_icmp .ne 6, 3, 33, 0, .null, []), (.bipush (-4), 2, 0, 0, .int (-4), []), (.ireturn, 1, 0, 0, .null, [])]
def kb_R_strike_33 : List vx_I := [(.aload_n 0, 1, 0, 0, .null, []), (.getfield 46, 3, 7, 24, .null, []), (.aload_n 0, 1, 0, 0, .null, []), (.getfield 126, 3, 7, 23, .null, []), (.iload_n 1, 1, 1, 0, .null, []), (.iastore, 1, 0, 0, .null, []), (.aload_n 0, 1, 0, 0, .null, []), (.getfield 49, 3, 7, 25, .null, []), (.aload_n 0, 1, 0, 0, .null, []), (.getfield 126, 3, 7, 23, .null, []), (.iload_n 2, 1, 2, 0, .null, []), (.iastore, 1, 0, 0, .null, []), (.aload_n 0, 1, 0, 0, .null, []), (.getfield 52, 3, 7, 26, .null, []), (.aload_n 0, 1, 0, 0, .null, []), (.getfield 126, 3, 7, 23, .null, []), (.iload_n 3, 1, 3, 0, .null, []), (.iastore, 1, 0, 0, .null, []), (.aload_n 0, 1, 0, 0, .null, []), (.dup, 1, 0, 0, .null, []), (.getfield 126, 3, 7, 23, .null, []), (.iconst 1, 1, 0, 0, .int 1, []), (.iadd, 1, 0, 0, .null, []), (.putfield 126, 3, 7, 23, .int 0, []), (.aload_n 0, 1, 0, 0, .null, []), (.getfield 126, 3, 7, 23, .null, []), (.iconst 1, 1, 0, 0, .int 1, []), (.isub, 1, 0, 0, .null, []), (.ireturn, 1, 0, 0, .null, [])]
def tb_R_strike : List (Nat × List vx_I) := [(0, kb_R_strike_0), (10, kb_R_strike_10), (21, kb_R_strike_21), (33, kb_R_strike_33)]
theorem bk_R_strike_0 : vx_bk tb_R_strike 0 = [(.aload_n 0, 1, 0, 0, .null, []), (.iload_n 1, 1, 1, 0, .null, []), (.invokevirtual 145, 3, 116, 1, .null, [(0, 0), (0, 0), (0, 0), (0, 0), (0, 0), (0, 0), (0, 0)]), (.ifCond .ne 5, 3, 10, 0, .null, []), (.iconst (-1), 1, 0, 0, .int (-1), []), (.ireturn, 1, 0, 0, .null, [])] := rfl
theorem bk_R_strike_10 : vx_bk tb_R_strike 10 = [(.iload_n 2, 1, 2, 0, .null, []), (.iload_n 3, 1, 3, 0, .null, []), (.invokestatic 161, 3, 122, 2, .null, []), (.ifCond .ne 6, 3, 21, 0, .null, []), (.bipush (-2), 2, 0, 0, .int (-2), []), (.ireturn, 1, 0, 0, .null, [])] := rfl
theorem bk_R_strike_21 : vx_bk tb_R_strike 21 = [(.aload_n 0, 1, 0, 0, .null, []), (.getfield 126, 3, 7, 23, .null, []), (.bipush 6, 2, 0, 0, .int 6, []), (.if_icmp .ne 6, 3, 33, 0, .null, []), (.bipush (-4), 2, 0, 0, .int (-4), []), (.ireturn, 1, 0, 0, .null, [])] := rfl
theorem bk_R_strike_33 : vx_bk tb_R_strike 33 = [(.aload_n 0, 1, 0, 0, .null, []), (.getfield 46, 3, 7, 24, .null, []), (.aload_n 0, 1, 0, 0, .null, []), (.getfield 126, 3, 7, 23, .null, []), (.iload_n 1, 1, 1, 0, .null, []), (.iastore, 1, 0, 0, .null, []), (.aload_n 0, 1, 0, 0, .null, []), (.getfield 49, 3, 7, 25, .null, []), (.aload_n 0, 1, 0, 0, .null, []), (.getfield 126, 3, 7, 23, .null, []), (.iload_n 2, 1, 2, 0, .null, []), (.iastore, 1, 0, 0, .null, []), (.aload_n 0, 1, 0, 0, .null, []), (.getfield 52, 3, 7, 26, .null, []), (.aload_n 0, 1, 0, 0, .null, []), (.getfield 126, 3, 7, 23, .null, []), (.iload_n 3, 1, 3, 0, .null, []), (.iastore, 1, 0, 0, .null, []), (.aload_n 0, 1, 0, 0, .null, []), (.dup, 1, 0, 0, .null, []), (.getfield 126, 3, 7, 23, .null, []), (.iconst 1, 1, 0, 0, .int 1, []), (.iadd, 1, 0, 0, .null, []), (.putfield 126, 3, 7, 23, .int 0, []), (.aload_n 0, 1, 0, 0, .null, []), (.getfield 126, 3, 7, 23, .null, []), (.iconst 1, 1, 0, 0, .int 1, []), (.isub, 1, 0, 0, .null, []), (.ireturn, 1, 0, 0, .null, [])] := rfl
abbrev m_R_strike : Nat := 125
set_option maxRecDepth 100000 in
theorem ck_R_strike : vx_ckM prog_9_method_26_code 7 4 3 false (some .int) tb_R_strike = true := by decide +kernel
theorem ok_R_strike {As : List Value} {sz : Nat} {h : vx_H} {P : Option Value → vx_H → Prop} (L0 : vx_L) (hlen : (vx_ar As).length ≤ 4) (hL0 : vx_ar As ++ List.replicate (4 - (vx_ar As).length) none = L0)
    (body : ∀ (lim z : vx_Z) X, vx_cl0 none lim tb_R_strike (fun r z' h' => z' = z ∧ P r h') X → X 0 L0 [] z h) : vx_Ok m_R_strike As sz h P :=
  vx_ok0 (M := (⟨"VoteWallsModel", "strike", "(III)I"⟩, prog_9_method_26_code, 4, (some .int), 3, 0, 0, 3, 0)) rfl (ow := 7) rfl ck_R_strike rfl hlen hL0 body
def kb_R_eat_0 : List vx_I := [(.iload_n 1, 1, 1, 0, .null, []), (.iconst 0, 1, 0, 0, .int 0, []), (.aload_n 0, 1, 0, 0, .null, []), (.getfield 126, 3, 7, 23, .null, []), (.invokestatic 73, 3, 105, 3, .null, []), (.ifCond .ne 6, 3, 15, 0, .null, []), (.bipush (-2), 2, 0, 0, .int (-2), []), (.ireturn, 1, 0, 0, .null, [])]
def kb_R_eat_15 : List vx_I := [(.aload_n 0, 1, 0, 0, .null, []), (.dup, 1, 0, 0, .null, []), (.getfield 126, 3, 7, 23, .null, []), (.iload_n 1, 1, 1, 0, .null, []), (.isub, 1, 0, 0, .null, []), (.putfield 126, 3, 7, 23, .int 0, []), (.aload_n 0, 1, 0, 0, .null, []), (.getfield 126, 3, 7, 23, .null, []), (.ireturn, 1, 0, 0, .null, [])]
def tb_R_eat : List (Nat × List vx_I) := [(0, kb_R_eat_0), (15, kb_R_eat_15)]
theorem bk_R_eat_0 : vx_bk tb_R_eat 0 = [(.iload_n 1, 1, 1, 0, .null, []), (.iconst 0, 1, 0, 0, .int 0, []), (.aload_n 0, 1, 0, 0, .null, []), (.getfield 126, 3, 7, 23, .null, []), (.invokestatic 73, 3, 105, 3, .null, []), (.ifCond .ne 6, 3, 15, 0, .null, []), (.bipush (-2), 2, 0, 0, .int (-2), []), (.ireturn, 1, 0, 0, .null, [])] := rfl
theorem bk_R_eat_15 : vx_bk tb_R_eat 15 = [(.aload_n 0, 1, 0, 0, .null, []), (.dup, 1, 0, 0, .null, []), (.getfield 126, 3, 7, 23, .null, []), (.iload_n 1, 1, 1, 0, .null, []), (.isub, 1, 0, 0, .null, []), (.putfield 126, 3, 7, 23, .int 0, []), (.aload_n 0, 1, 0, 0, .null, []), (.getfield 126, 3, 7, 23, .null, []), (.ireturn, 1, 0, 0, .null, [])] := rfl
abbrev m_R_eat : Nat := 126
set_option maxRecDepth 100000 in
theorem ck_R_eat : vx_ckM prog_9_method_27_code 7 2 1 false (some .int) tb_R_eat = true := by decide +kernel
theorem ok_R_eat {As : List Value} {sz : Nat} {h : vx_H} {P : Option Value → vx_H → Prop} (L0 : vx_L) (hlen : (vx_ar As).length ≤ 2) (hL0 : vx_ar As ++ List.replicate (2 - (vx_ar As).length) none = L0)
    (body : ∀ (lim z : vx_Z) X, vx_cl0 none lim tb_R_eat (fun r z' h' => z' = z ∧ P r h') X → X 0 L0 [] z h) : vx_Ok m_R_eat As sz h P :=
  vx_ok0 (M := (⟨"VoteWallsModel", "eat", "(I)I"⟩, prog_9_method_27_code, 2, (some .int), 1, 0, 0, 1, 0)) rfl (ow := 7) rfl ck_R_eat rfl hlen hL0 body
def kb_R_gap_0 : List vx_I := [(.aload_n 0, 1, 0, 0, .null, []), (.iload_n 1, 1, 1, 0, .null, []), (.invokevirtual 158, 3, 121, 1, .null, [(0, 0), (0, 0), (0, 0), (0, 0), (0, 0), (0, 0), (0, 0)]), (.ifCond .ne 5, 3, 10, 0, .null, []), (.iconst (-1), 1, 0, 0, .int (-1), []), (.ireturn, 1, 0, 0, .null, [])]
def kb_R_gap_10 : List vx_I := [(.iload_n 2, 1, 2, 0, .null, []), (.invokestatic 201, 3, 128, 1, .null, []), (.ifCond .ne 6, 3, 20, 0, .null, []), (.bipush (-2), 2, 0, 0, .int (-2), []), (.ireturn, 1, 0, 0, .null, [])]
def kb_R_gap_20 : List vx_I := [(.aload_n 0, 1, 0, 0, .null, []), (.iload_n 2, 1, 2, 0, .null, []), (.invokevirtual 204, 3, 129, 1, .null, [(0, 0), (0, 0), (0, 0), (0, 0), (0, 0), (0, 0), (0, 0)]), (.aload_n 0, 1, 0, 0, .null, []), (.getfield 55, 3, 7, 29, .null, []), (.iload_n 1, 1, 1, 0, .null, []), (.iaload, 1, 0, 0, .null, []), (.ireturn, 1, 0, 0, .null, [])]
def tb_R_gap : List (Nat × List vx_I) := [(0, kb_R_gap_0), (10, kb_R_gap_10), (20, kb_R_gap_20)]
theorem bk_R_gap_0 : vx_bk tb_R_gap 0 = [(.aload_n 0, 1, 0, 0, .null, []), (.iload_n 1, 1, 1, 0, .null, []), (.invokevirtual 158, 3, 121, 1, .null, [(0, 0), (0, 0), (0, 0), (0, 0), (0, 0), (0, 0), (0, 0)]), (.ifCond .ne 5, 3, 10, 0, .null, []), (.iconst (-1), 1, 0, 0, .int (-1), []), (.ireturn, 1, 0, 0, .null, [])] := rfl
theorem bk_R_gap_10 : vx_bk tb_R_gap 10 = [(.iload_n 2, 1, 2, 0, .null, []), (.invokestatic 201, 3, 128, 1, .null, []), (.ifCond .ne 6, 3, 20, 0, .null, []), (.bipush (-2), 2, 0, 0, .int (-2), []), (.ireturn, 1, 0, 0, .null, [])] := rfl
theorem bk_R_gap_20 : vx_bk tb_R_gap 20 = [(.aload_n 0, 1, 0, 0, .null, []), (.iload_n 2, 1, 2, 0, .null, []), (.invokevirtual 204, 3, 129, 1, .null, [(0, 0), (0, 0), (0, 0), (0, 0), (0, 0), (0, 0), (0, 0)]), (.aload_n 0, 1, 0, 0, .null, []), (.getfield 55, 3, 7, 29, .null, []), (.iload_n 1, 1, 1, 0, .null, []), (.iaload, 1, 0, 0, .null, []), (.ireturn, 1, 0, 0, .null, [])] := rfl
abbrev m_R_gap : Nat := 127
set_option maxRecDepth 100000 in
theorem ck_R_gap : vx_ckM prog_9_method_38_code 7 3 5 false (some .int) tb_R_gap = true := by decide +kernel
theorem ok_R_gap {As : List Value} {sz : Nat} {h : vx_H} {P : Option Value → vx_H → Prop} (L0 : vx_L) (hlen : (vx_ar As).length ≤ 3) (hL0 : vx_ar As ++ List.replicate (3 - (vx_ar As).length) none = L0)
    (body : ∀ (lim z : vx_Z) X, vx_cl0 none lim tb_R_gap (fun r z' h' => z' = z ∧ P r h') X → X 0 L0 [] z h) : vx_Ok m_R_gap As sz h P :=
  vx_ok0 (M := (⟨"VoteWallsModel", "gap", "(II)I"⟩, prog_9_method_38_code, 3, (some .int), 5, 0, 0, 2, 0)) rfl (ow := 7) rfl ck_R_gap rfl hlen hL0 body
def kb_R_isEnd_0 : List vx_I := [(.iload_n 0, 1, 0, 0, .null, []), (.iconst (-1), 1, 0, 0, .int (-1), []), (.bipush 49, 2, 0, 0, .int 49, []), (.invokestatic 73, 3, 105, 3, .null, []), (.ireturn, 1, 1, 0, .null, [])]
def tb_R_isEnd : List (Nat × List vx_I) := [(0, kb_R_isEnd_0)]
theorem bk_R_isEnd_0 : vx_bk tb_R_isEnd 0 = [(.iload_n 0, 1, 0, 0, .null, []), (.iconst (-1), 1, 0, 0, .int (-1), []), (.bipush 49, 2, 0, 0, .int 49, []), (.invokestatic 73, 3, 105, 3, .null, []), (.ireturn, 1, 1, 0, .null, [])] := rfl
abbrev m_R_isEnd : Nat := 128
set_option maxRecDepth 100000 in
theorem ck_R_isEnd : vx_ckM prog_9_method_37_code 7 1 1 false (some .boolean) tb_R_isEnd = true := by decide +kernel
theorem ok_R_isEnd {As : List Value} {sz : Nat} {h : vx_H} {P : Option Value → vx_H → Prop} (L0 : vx_L) (hlen : (vx_ar As).length ≤ 1) (hL0 : vx_ar As ++ List.replicate (1 - (vx_ar As).length) none = L0)
    (body : ∀ (lim z : vx_Z) X, vx_cl0 none lim tb_R_isEnd (fun r z' h' => z' = z ∧ P r h') X → X 0 L0 [] z h) : vx_Ok m_R_isEnd As sz h P :=
  vx_ok0 (M := (⟨"VoteWallsModel", "isEnd", "(I)Z"⟩, prog_9_method_37_code, 1, (some .boolean), 1, 0, 0, 1, 1)) rfl (ow := 7) rfl ck_R_isEnd rfl hlen hL0 body
def kb_R_goTo_0 : List vx_I := [(.aload_n 0, 1, 0, 0, .null, []), (.invokevirtual 194, 3, 130, 0, .null, [(0, 0), (0, 0), (0, 0), (0, 0), (0, 0), (0, 0), (0, 0)]), (.iconst 0, 1, 0, 0, .int 0, []), (.istore_n 2, 1, 2, 0, .null, [])]
def kb_R_goTo_6 : List vx_I := [(.iload_n 2, 1, 2, 0, .null, []), (.iload_n 1, 1, 1, 0, .null, []), (.if_icmp .gt 14, 3, 22, 0, .null, []), (.aload_n 0, 1, 0, 0, .null, []), (.iload_n 2, 1, 2, 0, .null, []), (.invokevirtual 197, 3, 131, 1, .null, [(0, 0), (0, 0), (0, 0), (0, 0), (0, 0), (0, 0), (0, 0)]), (.iinc 2 1, 3, 2, 0, .int 1, []), (.goto (-13), 3, 6, 0, .null, [])]
def kb_R_goTo_22 : List vx_I := [(.return_, 1, 0, 0, .null, [])]
def tb_R_goTo : List (Nat × List vx_I) := [(0, kb_R_goTo_0), (6, kb_R_goTo_6), (22, kb_R_goTo_22)]
theorem bk_R_goTo_0 : vx_bk tb_R_goTo 0 = [(.aload_n 0, 1, 0, 0, .null, []), (.invokevirtual 194, 3, 130, 0, .null, [(0, 0), (0, 0), (0, 0), (0, 0), (0, 0), (0, 0), (0, 0)]), (.iconst 0, 1, 0, 0, .int 0, []), (.istore_n 2, 1, 2, 0, .null, [])] := rfl
theorem bk_R_goTo_6 : vx_bk tb_R_goTo 6 = [(.iload_n 2, 1, 2, 0, .null, []), (.iload_n 1, 1, 1, 0, .null, []), (.if_icmp .gt 14, 3, 22, 0, .null, []), (.aload_n 0, 1, 0, 0, .null, []), (.iload_n 2, 1, 2, 0, .null, []), (.invokevirtual 197, 3, 131, 1, .null, [(0, 0), (0, 0), (0, 0), (0, 0), (0, 0), (0, 0), (0, 0)]), (.iinc 2 1, 3, 2, 0, .int 1, []), (.goto (-13), 3, 6, 0, .null, [])] := rfl
theorem bk_R_goTo_22 : vx_bk tb_R_goTo 22 = [(.return_, 1, 0, 0, .null, [])] := rfl
abbrev m_R_goTo : Nat := 129
set_option maxRecDepth 100000 in
theorem ck_R_goTo : vx_ckM prog_9_method_36_code 7 3 4 false none tb_R_goTo = true := by decide +kernel
theorem ok_R_goTo {As : List Value} {sz : Nat} {h : vx_H} {P : Option Value → vx_H → Prop} (L0 : vx_L) (hlen : (vx_ar As).length ≤ 3) (hL0 : vx_ar As ++ List.replicate (3 - (vx_ar As).length) none = L0)
    (body : ∀ (lim z : vx_Z) X, vx_cl0 none lim tb_R_goTo (fun r z' h' => z' = z ∧ P r h') X → X 0 L0 [] z h) : vx_Ok m_R_goTo As sz h P :=
  vx_ok0 (M := (⟨"VoteWallsModel", "goTo", "(I)V"⟩, prog_9_method_36_code, 3, none, 4, 0, 0, 1, 0)) rfl (ow := 7) rfl ck_R_goTo rfl hlen hL0 body
def kb_R_begin_0 : List vx_I := [(.iconst 0, 1, 0, 0, .int 0, []), (.istore_n 1, 1, 1, 0, .null, [])]
def kb_R_begin_2 : List vx_I := [(.iload_n 1, 1, 1, 0, .null, []), (.aload_n 0, 1, 0, 0, .null, []), (.getfield 77, 3, 7, 6, .null, []), (.if_icmp .ge 21, 3, 28, 0, .null, []), (.aload_n 0, 1, 0, 0, .null, []), (.getfield 55, 3, 7, 29, .null, []), (.iload_n 1, 1, 1, 0, .null, []), (.aload_n 0, 1, 0, 0, .null, []), (.getfield 19, 3, 7, 8, .null, []), (.iload_n 1, 1, 1, 0, .null, []), (.iaload, 1, 0, 0, .null, []), (.iastore, 1, 0, 0, .null, []), (.iinc 1 1, 3, 1, 0, .int 1, []), (.goto (-23), 3, 2, 0, .null, [])]
def kb_R_begin_28 : List vx_I := [(.return_, 1, 0, 0, .null, [])]
def tb_R_begin : List (Nat × List vx_I) := [(0, kb_R_begin_0), (2, kb_R_begin_2), (28, kb_R_begin_28)]
theorem bk_R_begin_0 : vx_bk tb_R_begin 0 = [(.iconst 0, 1, 0, 0, .int 0, []), (.istore_n 1, 1, 1, 0, .null, [])] := rfl
theorem bk_R_begin_2 : vx_bk tb_R_begin 2 = [(.iload_n 1, 1, 1, 0, .null, []), (.aload_n 0, 1, 0, 0, .null, []), (.getfield 77, 3, 7, 6, .null, []), (.if_icmp .ge 21, 3, 28, 0, .null, []), (.aload_n 0, 1, 0, 0, .null, []), (.getfield 55, 3, 7, 29, .null, []), (.iload_n 1, 1, 1, 0, .null, []), (.aload_n 0, 1, 0, 0, .null, []), (.getfield 19, 3, 7, 8, .null, []), (.iload_n 1, 1, 1, 0, .null, []), (.iaload, 1, 0, 0, .null, []), (.iastore, 1, 0, 0, .null, []), (.iinc 1 1, 3, 1, 0, .int 1, []), (.goto (-23), 3, 2, 0, .null, [])] := rfl
theorem bk_R_begin_28 : vx_bk tb_R_begin 28 = [(.return_, 1, 0, 0, .null, [])] := rfl
abbrev m_R_begin : Nat := 130
set_option maxRecDepth 100000 in
theorem ck_R_begin : vx_ckM prog_9_method_35_code 7 2 0 false none tb_R_begin = true := by decide +kernel
theorem ok_R_begin {As : List Value} {sz : Nat} {h : vx_H} {P : Option Value → vx_H → Prop} (L0 : vx_L) (hlen : (vx_ar As).length ≤ 2) (hL0 : vx_ar As ++ List.replicate (2 - (vx_ar As).length) none = L0)
    (body : ∀ (lim z : vx_Z) X, vx_cl0 none lim tb_R_begin (fun r z' h' => z' = z ∧ P r h') X → X 0 L0 [] z h) : vx_Ok m_R_begin As sz h P :=
  vx_ok0 (M := (⟨"VoteWallsModel", "begin", "()V"⟩, prog_9_method_35_code, 2, none, 0, 0, 0, 0, 0)) rfl (ow := 7) rfl ck_R_begin rfl hlen hL0 body
def kb_R_goSunday_0 : List vx_I := [(.aload_n 0, 1, 0, 0, .null, []), (.iload_n 1, 1, 1, 0, .null, []), (.invokevirtual 184, 3, 132, 1, .null, [(0, 0), (0, 0), (0, 0), (0, 0), (0, 0), (0, 0), (0, 0)]), (.istore_n 2, 1, 2, 0, .null, []), (.aload_n 0, 1, 0, 0, .null, []), (.iload_n 1, 1, 1, 0, .null, []), (.invokevirtual 187, 3, 133, 1, .null, [(0, 0), (0, 0), (0, 0), (0, 0), (0, 0), (0, 0), (0, 0)]), (.istore_n 3, 1, 3, 0, .null, []), (.aload_n 0, 1, 0, 0, .null, []), (.iconst 0, 1, 0, 0, .int 0, []), (.putfield 180, 3, 7, 30, .long 0, []), (.iconst 0, 1, 0, 0, .int 0, []), (.istore 4, 2, 4, 0, .null, [])]
def kb_R_goSunday_20 : List vx_I := [(.iload 4, 2, 4, 0, .null, []), (.aload_n 0, 1, 0, 0, .null, []), (.getfield 77, 3, 7, 6, .null, []), (.if_icmp .ge 48, 3, 74, 0, .null, []), (.aload_n 0, 1, 0, 0, .null, []), (.getfield 120, 3, 7, 11, .null, []), (.ifCond .ne 8, 3, 41, 0, .null, []), (.iload 4, 2, 4, 0, .null, []), (.goto 12, 3, 50, 0, .null, [])]
def kb_R_goSunday_41 : List vx_I := [(.aload_n 0, 1, 0, 0, .null, []), (.getfield 77, 3, 7, 6, .null, []), (.iconst 1, 1, 0, 0, .int 1, []), (.isub, 1, 0, 0, .null, []), (.iload 4, 2, 4, 0, .null, []), (.isub, 1, 0, 0, .null, [])]
def kb_R_goSunday_50 : List vx_I := [(.istore 5, 2, 5, 0, .null, []), (.iload_n 2, 1, 2, 0, .null, []), (.iload 5, 2, 5, 0, .null, []), (.ishr, 1, 0, 0, .null, []), (.iconst 1, 1, 0, 0, .int 1, []), (.iand, 1, 0, 0, .null, []), (.ifCond .ne 10, 3, 68, 0, .null, []), (.aload_n 0, 1, 0, 0, .null, []), (.iload 5, 2, 5, 0, .null, []), (.iload_n 3, 1, 3, 0, .null, []), (.invokevirtual 190, 3, 134, 2, .null, [(0, 0), (0, 0), (0, 0), (0, 0), (0, 0), (0, 0), (0, 0)])]
def kb_R_goSunday_68 : List vx_I := [(.iinc 4 1, 3, 4, 0, .int 1, []), (.goto (-51), 3, 20, 0, .null, [])]
def kb_R_goSunday_74 : List vx_I := [(.return_, 1, 0, 0, .null, [])]
def tb_R_goSunday : List (Nat × List vx_I) := [(0, kb_R_goSunday_0), (20, kb_R_goSunday_20), (41, kb_R_goSunday_41), (50, kb_R_goSunday_50), (68, kb_R_goSunday_68), (74, kb_R_goSunday_74)]
theorem bk_R_goSunday_0 : vx_bk tb_R_goSunday 0 = [(.aload_n 0, 1, 0, 0, .null, []), (.iload_n 1, 1, 1, 0, .null, []), (.invokevirtual 184, 3, 132, 1, .null, [(0, 0), (0, 0), (0, 0), (0, 0), (0, 0), (0, 0), (0, 0)]), (.istore_n 2, 1, 2, 0, .null, []), (.aload_n 0, 1, 0, 0, .null, []), (.iload_n 1, 1, 1, 0, .null, []), (.invokevirtual 187, 3, 133, 1, .null, [(0, 0), (0, 0), (0, 0), (0, 0), (0, 0), (0, 0), (0, 0)]), (.istore_n 3, 1, 3, 0, .null, []), (.aload_n 0, 1, 0, 0, .null, []), (.iconst 0, 1, 0, 0, .int 0, []), (.putfield 180, 3, 7, 30, .long 0, []), (.iconst 0, 1, 0, 0, .int 0, []), (.istore 4, 2, 4, 0, .null, [])] := rfl
theorem bk_R_goSunday_20 : vx_bk tb_R_goSunday 20 = [(.iload 4, 2, 4, 0, .null, []), (.aload_n 0, 1, 0, 0, .null, []), (.getfield 77, 3, 7, 6, .null, []), (.if_icmp .ge 48, 3, 74, 0, .null, []), (.aload_n 0, 1, 0, 0, .null, []), (.getfield 120, 3, 7, 11, .null, []), (.ifCond .ne 8, 3, 41, 0, .null, []), (.iload 4, 2, 4, 0, .null, []), (.goto 12, 3, 50, 0, .null, [])] := rfl
theorem bk_R_goSunday_41 : vx_bk tb_R_goSunday 41 = [(.aload_n 0, 1, 0, 0, .null, []), (.getfield 77, 3, 7, 6, .null, []), (.iconst 1, 1, 0, 0, .int 1, []), (.isub, 1, 0, 0, .null, []), (.iload 4, 2, 4, 0, .null, []), (.isub, 1, 0, 0, .null, [])] := rfl
theorem bk_R_goSunday_50 : vx_bk tb_R_goSunday 50 = [(.istore 5, 2, 5, 0, .null, []), (.iload_n 2, 1, 2, 0, .null, []), (.iload 5, 2, 5, 0, .null, []), (.ishr, 1, 0, 0, .null, []), (.iconst 1, 1, 0, 0, .int 1, []), (.iand, 1, 0, 0, .null, []), (.ifCond .ne 10, 3, 68, 0, .null, []), (.aload_n 0, 1, 0, 0, .null, []), (.iload 5, 2, 5, 0, .null, []), (.iload_n 3, 1, 3, 0, .null, []), (.invokevirtual 190, 3, 134, 2, .null, [(0, 0), (0, 0), (0, 0), (0, 0), (0, 0), (0, 0), (0, 0)])] := rfl
theorem bk_R_goSunday_68 : vx_bk tb_R_goSunday 68 = [(.iinc 4 1, 3, 4, 0, .int 1, []), (.goto (-51), 3, 20, 0, .null, [])] := rfl
theorem bk_R_goSunday_74 : vx_bk tb_R_goSunday 74 = [(.return_, 1, 0, 0, .null, [])] := rfl
abbrev m_R_goSunday : Nat := 131
set_option maxRecDepth 100000 in
theorem ck_R_goSunday : vx_ckM prog_9_method_34_code 7 6 3 false none tb_R_goSunday = true := by decide +kernel
theorem ok_R_goSunday {As : List Value} {sz : Nat} {h : vx_H} {P : Option Value → vx_H → Prop} (L0 : vx_L) (hlen : (vx_ar As).length ≤ 6) (hL0 : vx_ar As ++ List.replicate (6 - (vx_ar As).length) none = L0)
    (body : ∀ (lim z : vx_Z) X, vx_cl0 none lim tb_R_goSunday (fun r z' h' => z' = z ∧ P r h') X → X 0 L0 [] z h) : vx_Ok m_R_goSunday As sz h P :=
  vx_ok0 (M := (⟨"VoteWallsModel", "goSunday", "(I)V"⟩, prog_9_method_34_code, 6, none, 3, 0, 0, 1, 0)) rfl (ow := 7) rfl ck_R_goSunday rfl hlen hL0 body
def kb_R_lockedOn_0 : List vx_I := [(.aload_n 0, 1, 0, 0, .null, []), (.getfield 164, 3, 7, 27, .null, []), (.istore_n 2, 1, 2, 0, .null, []), (.iconst 0, 1, 0, 0, .int 0, []), (.istore_n 3, 1, 3, 0, .null, [])]
def kb_R_lockedOn_7 : List vx_I := [(.iload_n 3, 1, 3, 0, .null, []), (.aload_n 0, 1, 0, 0, .null, []), (.getfield 123, 3, 7, 19, .null, []), (.if_icmp .ge 43, 3, 55, 0, .null, []), (.iload_n 2, 1, 2, 0, .null, []), (.iload_n 1, 1, 1, 0, .null, []), (.aload_n 0, 1, 0, 0, .null, []), (.getfield 40, 3, 7, 21, .null, []), (.iload_n 3, 1, 3, 0, .null, []), (.iaload, 1, 0, 0, .null, []), (.aload_n 0, 1, 0, 0, .null, []), (.getfield 43, 3, 7, 22, .null, []), (.iload_n 3, 1, 3, 0, .null, []), (.iaload, 1, 0, 0, .null, []), (.invokestatic 73, 3, 105, 3, .null, []), (.ifCond .eq 14, 3, 46, 0, .null, []), (.iconst 1, 1, 0, 0, .int 1, []), (.aload_n 0, 1, 0, 0, .null, []), (.getfield 37, 3, 7, 20, .null, []), (.iload_n 3, 1, 3, 0, .null, []), (.iaload, 1, 0, 0, .null, []), (.ishl, 1, 0, 0, .null, []), (.goto 4, 3, 47, 0, .null, [])]
def kb_R_lockedOn_46 : List vx_I := [(.iconst 0, 1, 0, 0, .int 0, [])]
def kb_R_lockedOn_47 : List vx_I := [(.ior, 1, 0, 0, .null, []), (.istore_n 2, 1, 2, 0, .null, []), (.iinc 3 1, 3, 3, 0, .int 1, []), (.goto (-45), 3, 7, 0, .null, [])]
def kb_R_lockedOn_55 : List vx_I := [(.iload_n 2, 1, 2, 0, .null, []), (.ireturn, 1, 0, 0, .null, [])]
def tb_R_lockedOn : List (Nat × List vx_I) := [(0, kb_R_lockedOn_0), (7, kb_R_lockedOn_7), (46, kb_R_lockedOn_46), (47, kb_R_lockedOn_47), (55, kb_R_lockedOn_55)]
theorem bk_R_lockedOn_0 : vx_bk tb_R_lockedOn 0 = [(.aload_n 0, 1, 0, 0, .null, []), (.getfield 164, 3, 7, 27, .null, []), (.istore_n 2, 1, 2, 0, .null, []), (.iconst 0, 1, 0, 0, .int 0, []), (.istore_n 3, 1, 3, 0, .null, [])] := rfl
theorem bk_R_lockedOn_7 : vx_bk tb_R_lockedOn 7 = [(.iload_n 3, 1, 3, 0, .null, []), (.aload_n 0, 1, 0, 0, .null, []), (.getfield 123, 3, 7, 19, .null, []), (.if_icmp .ge 43, 3, 55, 0, .null, []), (.iload_n 2, 1, 2, 0, .null, []), (.iload_n 1, 1, 1, 0, .null, []), (.aload_n 0, 1, 0, 0, .null, []), (.getfield 40, 3, 7, 21, .null, []), (.iload_n 3, 1, 3, 0, .null, []), (.iaload, 1, 0, 0, .null, []), (.aload_n 0, 1, 0, 0, .null, []), (.getfield 43, 3, 7, 22, .null, []), (.iload_n 3, 1, 3, 0, .null, []), (.iaload, 1, 0, 0, .null, []), (.invokestatic 73, 3, 105, 3, .null, []), (.ifCond .eq 14, 3, 46, 0, .null, []), (.iconst 1, 1, 0, 0, .int 1, []), (.aload_n 0, 1, 0, 0, .null, []), (.getfield 37, 3, 7, 20, .null, []), (.iload_n 3, 1, 3, 0, .null, []), (.iaload, 1, 0, 0, .null, []), (.ishl, 1, 0, 0, .null, []), (.goto 4, 3, 47, 0, .null, [])] := rfl
theorem bk_R_lockedOn_46 : vx_bk tb_R_lockedOn 46 = [(.iconst 0, 1, 0, 0, .int 0, [])] := rfl
theorem bk_R_lockedOn_47 : vx_bk tb_R_lockedOn 47 = [(.ior, 1, 0, 0, .null, []), (.istore_n 2, 1, 2, 0, .null, []), (.iinc 3 1, 3, 3, 0, .int 1, []), (.goto (-45), 3, 7, 0, .null, [])] := rfl
theorem bk_R_lockedOn_55 : vx_bk tb_R_lockedOn 55 = [(.iload_n 2, 1, 2, 0, .null, []), (.ireturn, 1, 0, 0, .null, [])] := rfl
abbrev m_R_lockedOn : Nat := 132
set_option maxRecDepth 100000 in
theorem ck_R_lockedOn : vx_ckM prog_9_method_28_code 7 4 1 false (some .int) tb_R_lockedOn = true := by decide +kernel
theorem ok_R_lockedOn {As : List Value} {sz : Nat} {h : vx_H} {P : Option Value → vx_H → Prop} (L0 : vx_L) (hlen : (vx_ar As).length ≤ 4) (hL0 : vx_ar As ++ List.replicate (4 - (vx_ar As).length) none = L0)
    (body : ∀ (lim z : vx_Z) X, vx_cl0 none lim tb_R_lockedOn (fun r z' h' => z' = z ∧ P r h') X → X 0 L0 [] z h) : vx_Ok m_R_lockedOn As sz h P :=
  vx_ok0 (M := (⟨"VoteWallsModel", "lockedOn", "(I)I"⟩, prog_9_method_28_code, 4, (some .int), 1, 0, 0, 1, 0)) rfl (ow := 7) rfl ck_R_lockedOn rfl hlen hL0 body
def kb_R_strikingOn_0 : List vx_I := [(.aload_n 0, 1, 0, 0, .null, []), (.getfield 167, 3, 7, 28, .null, []), (.istore_n 2, 1, 2, 0, .null, []), (.iconst 0, 1, 0, 0, .int 0, []), (.istore_n 3, 1, 3, 0, .null, [])]
def kb_R_strikingOn_7 : List vx_I := [(.iload_n 3, 1, 3, 0, .null, []), (.aload_n 0, 1, 0, 0, .null, []), (.getfield 126, 3, 7, 23, .null, []), (.if_icmp .ge 43, 3, 55, 0, .null, []), (.iload_n 2, 1, 2, 0, .null, []), (.iload_n 1, 1, 1, 0, .null, []), (.aload_n 0, 1, 0, 0, .null, []), (.getfield 49, 3, 7, 25, .null, []), (.iload_n 3, 1, 3, 0, .null, []), (.iaload, 1, 0, 0, .null, []), (.aload_n 0, 1, 0, 0, .null, []), (.getfield 52, 3, 7, 26, .null, []), (.iload_n 3, 1, 3, 0, .null, []), (.iaload, 1, 0, 0, .null, []), (.invokestatic 73, 3, 105, 3, .null, []), (.ifCond .eq 14, 3, 46, 0, .null, []), (.iconst 1, 1, 0, 0, .int 1, []), (.aload_n 0, 1, 0, 0, .null, []), (.getfield 46, 3, 7, 24, .null, []), (.iload_n 3, 1, 3, 0, .null, []), (.iaload, 1, 0, 0, .null, []), (.ishl, 1, 0, 0, .null, []), (.goto 4, 3, 47, 0, .null, [])]
def kb_R_strikingOn_46 : List vx_I := [(.iconst 0, 1, 0, 0, .int 0, [])]
def kb_R_strikingOn_47 : List vx_I := [(.ior, 1, 0, 0, .null, []), (.istore_n 2, 1, 2, 0, .null, []), (.iinc 3 1, 3, 3, 0, .int 1, []), (.goto (-45), 3, 7, 0, .null, [])]
def kb_R_strikingOn_55 : List vx_I := [(.iload_n 2, 1, 2, 0, .null, []), (.ireturn, 1, 0, 0, .null, [])]
def tb_R_strikingOn : List (Nat × List vx_I) := [(0, kb_R_strikingOn_0), (7, kb_R_strikingOn_7), (46, kb_R_strikingOn_46), (47, kb_R_strikingOn_47), (55, kb_R_strikingOn_55)]
theorem bk_R_strikingOn_0 : vx_bk tb_R_strikingOn 0 = [(.aload_n 0, 1, 0, 0, .null, []), (.getfield 167, 3, 7, 28, .null, []), (.istore_n 2, 1, 2, 0, .null, []), (.iconst 0, 1, 0, 0, .int 0, []), (.istore_n 3, 1, 3, 0, .null, [])] := rfl
theorem bk_R_strikingOn_7 : vx_bk tb_R_strikingOn 7 = [(.iload_n 3, 1, 3, 0, .null, []), (.aload_n 0, 1, 0, 0, .null, []), (.getfield 126, 3, 7, 23, .null, []), (.if_icmp .ge 43, 3, 55, 0, .null, []), (.iload_n 2, 1, 2, 0, .null, []), (.iload_n 1, 1, 1, 0, .null, []), (.aload_n 0, 1, 0, 0, .null, []), (.getfield 49, 3, 7, 25, .null, []), (.iload_n 3, 1, 3, 0, .null, []), (.iaload, 1, 0, 0, .null, []), (.aload_n 0, 1, 0, 0, .null, []), (.getfield 52, 3, 7, 26, .null, []), (.iload_n 3, 1, 3, 0, .null, []), (.iaload, 1, 0, 0, .null, []), (.invokestatic 73, 3, 105, 3, .null, []), (.ifCond .eq 14, 3, 46, 0, .null, []), (.iconst 1, 1, 0, 0, .int 1, []), (.aload_n 0, 1, 0, 0, .null, []), (.getfield 46, 3, 7, 24, .null, []), (.iload_n 3, 1, 3, 0, .null, []), (.iaload, 1, 0, 0, .null, []), (.ishl, 1, 0, 0, .null, []), (.goto 4, 3, 47, 0, .null, [])] := rfl
theorem bk_R_strikingOn_46 : vx_bk tb_R_strikingOn 46 = [(.iconst 0, 1, 0, 0, .int 0, [])] := rfl
theorem bk_R_strikingOn_47 : vx_bk tb_R_strikingOn 47 = [(.ior, 1, 0, 0, .null, []), (.istore_n 2, 1, 2, 0, .null, []), (.iinc 3 1, 3, 3, 0, .int 1, []), (.goto (-45), 3, 7, 0, .null, [])] := rfl
theorem bk_R_strikingOn_55 : vx_bk tb_R_strikingOn 55 = [(.iload_n 2, 1, 2, 0, .null, []), (.ireturn, 1, 0, 0, .null, [])] := rfl
abbrev m_R_strikingOn : Nat := 133
set_option maxRecDepth 100000 in
theorem ck_R_strikingOn : vx_ckM prog_9_method_29_code 7 4 1 false (some .int) tb_R_strikingOn = true := by decide +kernel
theorem ok_R_strikingOn {As : List Value} {sz : Nat} {h : vx_H} {P : Option Value → vx_H → Prop} (L0 : vx_L) (hlen : (vx_ar As).length ≤ 4) (hL0 : vx_ar As ++ List.replicate (4 - (vx_ar As).length) none = L0)
    (body : ∀ (lim z : vx_Z) X, vx_cl0 none lim tb_R_strikingOn (fun r z' h' => z' = z ∧ P r h') X → X 0 L0 [] z h) : vx_Ok m_R_strikingOn As sz h P :=
  vx_ok0 (M := (⟨"VoteWallsModel", "strikingOn", "(I)I"⟩, prog_9_method_29_code, 4, (some .int), 1, 0, 0, 1, 0)) rfl (ow := 7) rfl ck_R_strikingOn rfl hlen hL0 body
def kb_R_push_0 : List vx_I := [(.aload_n 0, 1, 0, 0, .null, []), (.iload_n 1, 1, 1, 0, .null, []), (.iload_n 2, 1, 2, 0, .null, []), (.invokevirtual 173, 3, 135, 2, .null, [(0, 0), (0, 0), (0, 0), (0, 0), (0, 0), (0, 0), (0, 0)]), (.istore_n 3, 1, 3, 0, .null, []), (.aload_n 0, 1, 0, 0, .null, []), (.iload_n 1, 1, 1, 0, .null, []), (.iconst 1, 1, 0, 0, .int 1, []), (.iadd, 1, 0, 0, .null, []), (.iload_n 2, 1, 2, 0, .null, []), (.invokevirtual 173, 3, 135, 2, .null, [(0, 0), (0, 0), (0, 0), (0, 0), (0, 0), (0, 0), (0, 0)]), (.istore 4, 2, 4, 0, .null, []), (.iload_n 3, 1, 3, 0, .null, []), (.iload 4, 2, 4, 0, .null, []), (.if_icmp .le 36, 3, 56, 0, .null, []), (.aload_n 0, 1, 0, 0, .null, []), (.getfield 55, 3, 7, 29, .null, []), (.iload_n 1, 1, 1, 0, .null, []), (.iaload, 1, 0, 0, .null, []), (.iconst 1, 1, 0, 0, .int 1, []), (.iadd, 1, 0, 0, .null, []), (.aload_n 0, 1, 0, 0, .null, []), (.iload_n 1, 1, 1, 0, .null, []), (.iconst 2, 1, 0, 0, .int 2, []), (.iadd, 1, 0, 0, .null, []), (.invokevirtual 177, 3, 137, 1, .null, [(0, 0), (0, 0), (0, 0), (0, 0), (0, 0), (0, 0), (0, 0)]), (.if_icmp .ge 18, 3, 56, 0, .null, []), (.aload_n 0, 1, 0, 0, .null, []), (.getfield 55, 3, 7, 29, .null, []), (.iload_n 1, 1, 1, 0, .null, []), (.dup2, 1, 0, 0, .null, []), (.iaload, 1, 0, 0, .null, []), (.iconst 1, 1, 0, 0, .int 1, []), (.iadd, 1, 0, 0, .null, []), (.iastore, 1, 0, 0, .null, []), (.aload_n 0, 1, 0, 0, .null, []), (.iconst 1, 1, 0, 0, .int 1, []), (.putfield 180, 3, 7, 30, .long 0, [])]
def kb_R_push_56 : List vx_I := [(.iload 4, 2, 4, 0, .null, []), (.iload_n 3, 1, 3, 0, .null, []), (.if_icmp .le 34, 3, 93, 0, .null, []), (.aload_n 0, 1, 0, 0, .null, []), (.getfield 55, 3, 7, 29, .null, []), (.iload_n 1, 1, 1, 0, .null, []), (.iaload, 1, 0, 0, .null, []), (.iconst 1, 1, 0, 0, .int 1, []), (.isub, 1, 0, 0, .null, []), (.aload_n 0, 1, 0, 0, .null, []), (.iload_n 1, 1, 1, 0, .null, []), (.invokevirtual 177, 3, 137, 1, .null, [(0, 0), (0, 0), (0, 0), (0, 0), (0, 0), (0, 0), (0, 0)]), (.if_icmp .le 18, 3, 93, 0, .null, []), (.aload_n 0, 1, 0, 0, .null, []), (.getfield 55, 3, 7, 29, .null, []), (.iload_n 1, 1, 1, 0, .null, []), (.dup2, 1, 0, 0, .null, []), (.iaload, 1, 0, 0, .null, []), (.iconst 1, 1, 0, 0, .int 1, []), (.isub, 1, 0, 0, .null, []), (.iastore, 1, 0, 0, .null, []), (.aload_n 0, 1, 0, 0, .null, []), (.iconst 1, 1, 0, 0, .int 1, []), (.putfield 180, 3, 7, 30, .long 0, [])]
def kb_R_push_93 : List vx_I := [(.return_, 1, 0, 0, .null, [])]
def tb_R_push : List (Nat × List vx_I) := [(0, kb_R_push_0), (56, kb_R_push_56), (93, kb_R_push_93)]
theorem bk_R_push_0 : vx_bk tb_R_push 0 = [(.aload_n 0, 1, 0, 0, .null, []), (.iload_n 1, 1, 1, 0, .null, []), (.iload_n 2, 1, 2, 0, .null, []), (.invokevirtual 173, 3, 135, 2, .null, [(0, 0), (0, 0), (0, 0), (0, 0), (0, 0), (0, 0), (0, 0)]), (.istore_n 3, 1, 3, 0, .null, []), (.aload_n 0, 1, 0, 0, .null, []), (.iload_n 1, 1, 1, 0, .null, []), (.iconst 1, 1, 0, 0, .int 1, []), (.iadd, 1, 0, 0, .null, []), (.iload_n 2, 1, 2, 0, .null, []), (.invokevirtual 173, 3, 135, 2, .null, [(0, 0), (0, 0), (0, 0), (0, 0), (0, 0), (0, 0), (0, 0)]), (.istore 4, 2, 4, 0, .null, []), (.iload_n 3, 1, 3, 0, .null, []), (.iload 4, 2, 4, 0, .null, []), (.if_icmp .le 36, 3, 56, 0, .null, []), (.aload_n 0, 1, 0, 0, .null, []), (.getfield 55, 3, 7, 29, .null, []), (.iload_n 1, 1, 1, 0, .null, []), (.iaload, 1, 0, 0, .null, []), (.iconst 1, 1, 0, 0, .int 1, []), (.iadd, 1, 0, 0, .null, []), (.aload_n 0, 1, 0, 0, .null, []), (.iload_n 1, 1, 1, 0, .null, []), (.iconst 2, 1, 0, 0, .int 2, []), (.iadd, 1, 0, 0, .null, []), (.invokevirtual 177, 3, 137, 1, .null, [(0, 0), (0, 0), (0, 0), (0, 0), (0, 0), (0, 0), (0, 0)]), (.if_icmp .ge 18, 3, 56, 0, .null, []), (.aload_n 0, 1, 0, 0, .null, []), (.getfield 55, 3, 7, 29, .null, []), (.iload_n 1, 1, 1, 0, .null, []), (.dup2, 1, 0, 0, .null, []), (.iaload, 1, 0, 0, .null, []), (.iconst 1, 1, 0, 0, .int 1, []), (.iadd, 1, 0, 0, .null, []), (.iastore, 1, 0, 0, .null, []), (.aload_n 0, 1, 0, 0, .null, []), (.iconst 1, 1, 0, 0, .int 1, []), (.putfield 180, 3, 7, 30, .long 0, [])] := rfl
theorem bk_R_push_56 : vx_bk tb_R_push 56 = [(.iload 4, 2, 4, 0, .null, []), (.iload_n 3, 1, 3, 0, .null, []), (.if_icmp .le 34, 3, 93, 0, .null, []), (.aload_n 0, 1, 0, 0, .null, []), (.getfield 55, 3, 7, 29, .null, []), (.iload_n 1, 1, 1, 0, .null, []), (.iaload, 1, 0, 0, .null, []), (.iconst 1, 1, 0, 0, .int 1, []), (.isub, 1, 0, 0, .null, []), (.aload_n 0, 1, 0, 0, .null, []), (.iload_n 1, 1, 1, 0, .null, []), (.invokevirtual 177, 3, 137, 1, .null, [(0, 0), (0, 0), (0, 0), (0, 0), (0, 0), (0, 0), (0, 0)]), (.if_icmp .le 18, 3, 93, 0, .null, []), (.aload_n 0, 1, 0, 0, .null, []), (.getfield 55, 3, 7, 29, .null, []), (.iload_n 1, 1, 1, 0, .null, []), (.dup2, 1, 0, 0, .null, []), (.iaload, 1, 0, 0, .null, []), (.iconst 1, 1, 0, 0, .int 1, []), (.isub, 1, 0, 0, .null, []), (.iastore, 1, 0, 0, .null, []), (.aload_n 0, 1, 0, 0, .null, []), (.iconst 1, 1, 0, 0, .int 1, []), (.putfield 180, 3, 7, 30, .long 0, [])] := rfl
theorem bk_R_push_93 : vx_bk tb_R_push 93 = [(.return_, 1, 0, 0, .null, [])] := rfl
abbrev m_R_push : Nat := 134
set_option maxRecDepth 100000 in
theorem ck_R_push : vx_ckM prog_9_method_33_code 7 5 2 false none tb_R_push = true := by decide +kernel
theorem ok_R_push {As : List Value} {sz : Nat} {h : vx_H} {P : Option Value → vx_H → Prop} (L0 : vx_L) (hlen : (vx_ar As).length ≤ 5) (hL0 : vx_ar As ++ List.replicate (5 - (vx_ar As).length) none = L0)
    (body : ∀ (lim z : vx_Z) X, vx_cl0 none lim tb_R_push (fun r z' h' => z' = z ∧ P r h') X → X 0 L0 [] z h) : vx_Ok m_R_push As sz h P :=
  vx_ok0 (M := (⟨"VoteWallsModel", "push", "(II)V"⟩, prog_9_method_33_code, 5, none, 2, 0, 0, 2, 0)) rfl (ow := 7) rfl ck_R_push rfl hlen hL0 body
def kb_R_votesIn_0 : List vx_I := [(.iconst 0, 1, 0, 0, .int 0, []), (.istore_n 3, 1, 3, 0, .null, []), (.iconst 0, 1, 0, 0, .int 0, []), (.istore 4, 2, 4, 0, .null, [])]
def kb_R_votesIn_5 : List vx_I := [(.iload 4, 2, 4, 0, .null, []), (.aload_n 0, 1, 0, 0, .null, []), (.getfield 80, 3, 7, 7, .null, []), (.if_icmp .ge 41, 3, 52, 0, .null, []), (.iload_n 3, 1, 3, 0, .null, []), (.iload_n 2, 1, 2, 0, .null, []), (.iload 4, 2, 4, 0, .null, []), (.ishr, 1, 0, 0, .null, []), (.iconst 1, 1, 0, 0, .int 1, []), (.iand, 1, 0, 0, .null, []), (.ifCond .ne 22, 3, 43, 0, .null, []), (.aload_n 0, 1, 0, 0, .null, []), (.iload 4, 2, 4, 0, .null, []), (.invokevirtual 170, 3, 136, 1, .null, [(0, 0), (0, 0), (0, 0), (0, 0), (0, 0), (0, 0), (0, 0)]), (.iload_n 1, 1, 1, 0, .null, []), (.if_icmp .ne 12, 3, 43, 0, .null, []), (.aload_n 0, 1, 0, 0, .null, []), (.iload 4, 2, 4, 0, .null, []), (.invokevirtual 148, 3, 117, 1, .null, [(0, 0), (0, 0), (0, 0), (0, 0), (0, 0), (0, 0), (0, 0)]), (.goto 4, 3, 44, 0, .null, [])]
def kb_R_votesIn_43 : List vx_I := [(.iconst 0, 1, 0, 0, .int 0, [])]
def kb_R_votesIn_44 : List vx_I := [(.iadd, 1, 0, 0, .null, []), (.istore_n 3, 1, 3, 0, .null, []), (.iinc 4 1, 3, 4, 0, .int 1, []), (.goto (-44), 3, 5, 0, .null, [])]
def kb_R_votesIn_52 : List vx_I := [(.iload_n 3, 1, 3, 0, .null, []), (.ireturn, 1, 0, 0, .null, [])]
def tb_R_votesIn : List (Nat × List vx_I) := [(0, kb_R_votesIn_0), (5, kb_R_votesIn_5), (43, kb_R_votesIn_43), (44, kb_R_votesIn_44), (52, kb_R_votesIn_52)]
theorem bk_R_votesIn_0 : vx_bk tb_R_votesIn 0 = [(.iconst 0, 1, 0, 0, .int 0, []), (.istore_n 3, 1, 3, 0, .null, []), (.iconst 0, 1, 0, 0, .int 0, []), (.istore 4, 2, 4, 0, .null, [])] := rfl
theorem bk_R_votesIn_5 : vx_bk tb_R_votesIn 5 = [(.iload 4, 2, 4, 0, .null, []), (.aload_n 0, 1, 0, 0, .null, []), (.getfield 80, 3, 7, 7, .null, []), (.if_icmp .ge 41, 3, 52, 0, .null, []), (.iload_n 3, 1, 3, 0, .null, []), (.iload_n 2, 1, 2, 0, .null, []), (.iload 4, 2, 4, 0, .null, []), (.ishr, 1, 0, 0, .null, []), (.iconst 1, 1, 0, 0, .int 1, []), (.iand, 1, 0, 0, .null, []), (.ifCond .ne 22, 3, 43, 0, .null, []), (.aload_n 0, 1, 0, 0, .null, []), (.iload 4, 2, 4, 0, .null, []), (.invokevirtual 170, 3, 136, 1, .null, [(0, 0), (0, 0), (0, 0), (0, 0), (0, 0), (0, 0), (0, 0)]), (.iload_n 1, 1, 1, 0, .null, []), (.if_icmp .ne 12, 3, 43, 0, .null, []), (.aload_n 0, 1, 0, 0, .null, []), (.iload 4, 2, 4, 0, .null, []), (.invokevirtual 148, 3, 117, 1, .null, [(0, 0), (0, 0), (0, 0), (0, 0), (0, 0), (0, 0), (0, 0)]), (.goto 4, 3, 44, 0, .null, [])] := rfl
theorem bk_R_votesIn_43 : vx_bk tb_R_votesIn 43 = [(.iconst 0, 1, 0, 0, .int 0, [])] := rfl
theorem bk_R_votesIn_44 : vx_bk tb_R_votesIn 44 = [(.iadd, 1, 0, 0, .null, []), (.istore_n 3, 1, 3, 0, .null, []), (.iinc 4 1, 3, 4, 0, .int 1, []), (.goto (-44), 3, 5, 0, .null, [])] := rfl
theorem bk_R_votesIn_52 : vx_bk tb_R_votesIn 52 = [(.iload_n 3, 1, 3, 0, .null, []), (.ireturn, 1, 0, 0, .null, [])] := rfl
abbrev m_R_votesIn : Nat := 135
set_option maxRecDepth 100000 in
theorem ck_R_votesIn : vx_ckM prog_9_method_32_code 7 5 1 false (some .int) tb_R_votesIn = true := by decide +kernel
theorem ok_R_votesIn {As : List Value} {sz : Nat} {h : vx_H} {P : Option Value → vx_H → Prop} (L0 : vx_L) (hlen : (vx_ar As).length ≤ 5) (hL0 : vx_ar As ++ List.replicate (5 - (vx_ar As).length) none = L0)
    (body : ∀ (lim z : vx_Z) X, vx_cl0 none lim tb_R_votesIn (fun r z' h' => z' = z ∧ P r h') X → X 0 L0 [] z h) : vx_Ok m_R_votesIn As sz h P :=
  vx_ok0 (M := (⟨"VoteWallsModel", "votesIn", "(II)I"⟩, prog_9_method_32_code, 5, (some .int), 1, 0, 0, 2, 0)) rfl (ow := 7) rfl ck_R_votesIn rfl hlen hL0 body
def kb_R_cellNow_0 : List vx_I := [(.iconst 0, 1, 0, 0, .int 0, []), (.istore_n 2, 1, 2, 0, .null, [])]
def kb_R_cellNow_2 : List vx_I := [(.iload_n 2, 1, 2, 0, .null, []), (.aload_n 0, 1, 0, 0, .null, []), (.getfield 77, 3, 7, 6, .null, []), (.if_icmp .ge 24, 3, 31, 0, .null, []), (.aload_n 0, 1, 0, 0, .null, []), (.getfield 55, 3, 7, 29, .null, []), (.iload_n 2, 1, 2, 0, .null, []), (.iaload, 1, 0, 0, .null, []), (.aload_n 0, 1, 0, 0, .null, []), (.getfield 25, 3, 7, 10, .null, []), (.iload_n 1, 1, 1, 0, .null, []), (.iaload, 1, 0, 0, .null, []), (.if_icmp .gt 9, 3, 31, 0, .null, []), (.iinc 2 1, 3, 2, 0, .int 1, []), (.goto (-26), 3, 2, 0, .null, [])]
def kb_R_cellNow_31 : List vx_I := [(.iload_n 2, 1, 2, 0, .null, []), (.ireturn, 1, 0, 0, .null, [])]
def tb_R_cellNow : List (Nat × List vx_I) := [(0, kb_R_cellNow_0), (2, kb_R_cellNow_2), (31, kb_R_cellNow_31)]
theorem bk_R_cellNow_0 : vx_bk tb_R_cellNow 0 = [(.iconst 0, 1, 0, 0, .int 0, []), (.istore_n 2, 1, 2, 0, .null, [])] := rfl
theorem bk_R_cellNow_2 : vx_bk tb_R_cellNow 2 = [(.iload_n 2, 1, 2, 0, .null, []), (.aload_n 0, 1, 0, 0, .null, []), (.getfield 77, 3, 7, 6, .null, []), (.if_icmp .ge 24, 3, 31, 0, .null, []), (.aload_n 0, 1, 0, 0, .null, []), (.getfield 55, 3, 7, 29, .null, []), (.iload_n 2, 1, 2, 0, .null, []), (.iaload, 1, 0, 0, .null, []), (.aload_n 0, 1, 0, 0, .null, []), (.getfield 25, 3, 7, 10, .null, []), (.iload_n 1, 1, 1, 0, .null, []), (.iaload, 1, 0, 0, .null, []), (.if_icmp .gt 9, 3, 31, 0, .null, []), (.iinc 2 1, 3, 2, 0, .int 1, []), (.goto (-26), 3, 2, 0, .null, [])] := rfl
theorem bk_R_cellNow_31 : vx_bk tb_R_cellNow 31 = [(.iload_n 2, 1, 2, 0, .null, []), (.ireturn, 1, 0, 0, .null, [])] := rfl
abbrev m_R_cellNow : Nat := 136
set_option maxRecDepth 100000 in
theorem ck_R_cellNow : vx_ckM prog_9_method_31_code 7 3 0 false (some .int) tb_R_cellNow = true := by decide +kernel
theorem ok_R_cellNow {As : List Value} {sz : Nat} {h : vx_H} {P : Option Value → vx_H → Prop} (L0 : vx_L) (hlen : (vx_ar As).length ≤ 3) (hL0 : vx_ar As ++ List.replicate (3 - (vx_ar As).length) none = L0)
    (body : ∀ (lim z : vx_Z) X, vx_cl0 none lim tb_R_cellNow (fun r z' h' => z' = z ∧ P r h') X → X 0 L0 [] z h) : vx_Ok m_R_cellNow As sz h P :=
  vx_ok0 (M := (⟨"VoteWallsModel", "cellNow", "(I)I"⟩, prog_9_method_31_code, 3, (some .int), 0, 0, 0, 1, 0)) rfl (ow := 7) rfl ck_R_cellNow rfl hlen hL0 body
def kb_R_edge_0 : List vx_I := [(.iload_n 1, 1, 1, 0, .null, []), (.ifCond .ne 7, 3, 8, 0, .null, []), (.iconst 0, 1, 0, 0, .int 0, []), (.goto 26, 3, 31, 0, .null, [])]
def kb_R_edge_8 : List vx_I := [(.iload_n 1, 1, 1, 0, .null, []), (.aload_n 0, 1, 0, 0, .null, []), (.getfield 77, 3, 7, 6, .null, []), (.if_icmp .le 10, 3, 23, 0, .null, []), (.aload_n 0, 1, 0, 0, .null, []), (.getfield 111, 3, 7, 5, .null, []), (.goto 11, 3, 31, 0, .null, [])]
def kb_R_edge_23 : List vx_I := [(.aload_n 0, 1, 0, 0, .null, []), (.getfield 55, 3, 7, 29, .null, []), (.iload_n 1, 1, 1, 0, .null, []), (.iconst 1, 1, 0, 0, .int 1, []), (.isub, 1, 0, 0, .null, []), (.iaload, 1, 0, 0, .null, [])]
def kb_R_edge_31 : List vx_I := [(.ireturn, 1, 0, 0, .null, [])]
def tb_R_edge : List (Nat × List vx_I) := [(0, kb_R_edge_0), (8, kb_R_edge_8), (23, kb_R_edge_23), (31, kb_R_edge_31)]
theorem bk_R_edge_0 : vx_bk tb_R_edge 0 = [(.iload_n 1, 1, 1, 0, .null, []), (.ifCond .ne 7, 3, 8, 0, .null, []), (.iconst 0, 1, 0, 0, .int 0, []), (.goto 26, 3, 31, 0, .null, [])] := rfl
theorem bk_R_edge_8 : vx_bk tb_R_edge 8 = [(.iload_n 1, 1, 1, 0, .null, []), (.aload_n 0, 1, 0, 0, .null, []), (.getfield 77, 3, 7, 6, .null, []), (.if_icmp .le 10, 3, 23, 0, .null, []), (.aload_n 0, 1, 0, 0, .null, []), (.getfield 111, 3, 7, 5, .null, []), (.goto 11, 3, 31, 0, .null, [])] := rfl
theorem bk_R_edge_23 : vx_bk tb_R_edge 23 = [(.aload_n 0, 1, 0, 0, .null, []), (.getfield 55, 3, 7, 29, .null, []), (.iload_n 1, 1, 1, 0, .null, []), (.iconst 1, 1, 0, 0, .int 1, []), (.isub, 1, 0, 0, .null, []), (.iaload, 1, 0, 0, .null, [])] := rfl
theorem bk_R_edge_31 : vx_bk tb_R_edge 31 = [(.ireturn, 1, 0, 0, .null, [])] := rfl
abbrev m_R_edge : Nat := 137
set_option maxRecDepth 100000 in
theorem ck_R_edge : vx_ckM prog_9_method_30_code 7 2 0 false (some .int) tb_R_edge = true := by decide +kernel
theorem ok_R_edge {As : List Value} {sz : Nat} {h : vx_H} {P : Option Value → vx_H → Prop} (L0 : vx_L) (hlen : (vx_ar As).length ≤ 2) (hL0 : vx_ar As ++ List.replicate (2 - (vx_ar As).length) none = L0)
    (body : ∀ (lim z : vx_Z) X, vx_cl0 none lim tb_R_edge (fun r z' h' => z' = z ∧ P r h') X → X 0 L0 [] z h) : vx_Ok m_R_edge As sz h P :=
  vx_ok0 (M := (⟨"VoteWallsModel", "edge", "(I)I"⟩, prog_9_method_30_code, 2, (some .int), 0, 0, 0, 1, 0)) rfl (ow := 7) rfl ck_R_edge rfl hlen hL0 body
def kb_R_cellOf_0 : List vx_I := [(.aload_n 0, 1, 0, 0, .null, []), (.iload_n 1, 1, 1, 0, .null, []), (.invokevirtual 145, 3, 116, 1, .null, [(0, 0), (0, 0), (0, 0), (0, 0), (0, 0), (0, 0), (0, 0)]), (.ifCond .ne 5, 3, 10, 0, .null, []), (.iconst (-1), 1, 0, 0, .int (-1), []), (.ireturn, 1, 0, 0, .null, [])]
def kb_R_cellOf_10 : List vx_I := [(.iload_n 2, 1, 2, 0, .null, []), (.invokestatic 201, 3, 128, 1, .null, []), (.ifCond .ne 6, 3, 20, 0, .null, []), (.bipush (-2), 2, 0, 0, .int (-2), []), (.ireturn, 1, 0, 0, .null, [])]
def kb_R_cellOf_20 : List vx_I := [(.aload_n 0, 1, 0, 0, .null, []), (.iload_n 2, 1, 2, 0, .null, []), (.invokevirtual 204, 3, 129, 1, .null, [(0, 0), (0, 0), (0, 0), (0, 0), (0, 0), (0, 0), (0, 0)]), (.aload_n 0, 1, 0, 0, .null, []), (.iload_n 1, 1, 1, 0, .null, []), (.invokevirtual 170, 3, 136, 1, .null, [(0, 0), (0, 0), (0, 0), (0, 0), (0, 0), (0, 0), (0, 0)]), (.ireturn, 1, 0, 0, .null, [])]
def tb_R_cellOf : List (Nat × List vx_I) := [(0, kb_R_cellOf_0), (10, kb_R_cellOf_10), (20, kb_R_cellOf_20)]
theorem bk_R_cellOf_0 : vx_bk tb_R_cellOf 0 = [(.aload_n 0, 1, 0, 0, .null, []), (.iload_n 1, 1, 1, 0, .null, []), (.invokevirtual 145, 3, 116, 1, .null, [(0, 0), (0, 0), (0, 0), (0, 0), (0, 0), (0, 0), (0, 0)]), (.ifCond .ne 5, 3, 10, 0, .null, []), (.iconst (-1), 1, 0, 0, .int (-1), []), (.ireturn, 1, 0, 0, .null, [])] := rfl
theorem bk_R_cellOf_10 : vx_bk tb_R_cellOf 10 = [(.iload_n 2, 1, 2, 0, .null, []), (.invokestatic 201, 3, 128, 1, .null, []), (.ifCond .ne 6, 3, 20, 0, .null, []), (.bipush (-2), 2, 0, 0, .int (-2), []), (.ireturn, 1, 0, 0, .null, [])] := rfl
theorem bk_R_cellOf_20 : vx_bk tb_R_cellOf 20 = [(.aload_n 0, 1, 0, 0, .null, []), (.iload_n 2, 1, 2, 0, .null, []), (.invokevirtual 204, 3, 129, 1, .null, [(0, 0), (0, 0), (0, 0), (0, 0), (0, 0), (0, 0), (0, 0)]), (.aload_n 0, 1, 0, 0, .null, []), (.iload_n 1, 1, 1, 0, .null, []), (.invokevirtual 170, 3, 136, 1, .null, [(0, 0), (0, 0), (0, 0), (0, 0), (0, 0), (0, 0), (0, 0)]), (.ireturn, 1, 0, 0, .null, [])] := rfl
abbrev m_R_cellOf : Nat := 138
set_option maxRecDepth 100000 in
theorem ck_R_cellOf : vx_ckM prog_9_method_39_code 7 3 5 false (some .int) tb_R_cellOf = true := by decide +kernel
theorem ok_R_cellOf {As : List Value} {sz : Nat} {h : vx_H} {P : Option Value → vx_H → Prop} (L0 : vx_L) (hlen : (vx_ar As).length ≤ 3) (hL0 : vx_ar As ++ List.replicate (3 - (vx_ar As).length) none = L0)
    (body : ∀ (lim z : vx_Z) X, vx_cl0 none lim tb_R_cellOf (fun r z' h' => z' = z ∧ P r h') X → X 0 L0 [] z h) : vx_Ok m_R_cellOf As sz h P :=
  vx_ok0 (M := (⟨"VoteWallsModel", "cellOf", "(II)I"⟩, prog_9_method_39_code, 3, (some .int), 5, 0, 0, 2, 0)) rfl (ow := 7) rfl ck_R_cellOf rfl hlen hL0 body
def kb_R_wide_0 : List vx_I := [(.aload_n 0, 1, 0, 0, .null, []), (.iload_n 1, 1, 1, 0, .null, []), (.invokevirtual 207, 3, 140, 1, .null, [(0, 0), (0, 0), (0, 0), (0, 0), (0, 0), (0, 0), (0, 0)]), (.ifCond .ne 5, 3, 10, 0, .null, []), (.iconst (-1), 1, 0, 0, .int (-1), []), (.ireturn, 1, 0, 0, .null, [])]
def kb_R_wide_10 : List vx_I := [(.iload_n 2, 1, 2, 0, .null, []), (.invokestatic 201, 3, 128, 1, .null, []), (.ifCond .ne 6, 3, 20, 0, .null, []), (.bipush (-2), 2, 0, 0, .int (-2), []), (.ireturn, 1, 0, 0, .null, [])]
def kb_R_wide_20 : List vx_I := [(.aload_n 0, 1, 0, 0, .null, []), (.iload_n 2, 1, 2, 0, .null, []), (.invokevirtual 204, 3, 129, 1, .null, [(0, 0), (0, 0), (0, 0), (0, 0), (0, 0), (0, 0), (0, 0)]), (.aload_n 0, 1, 0, 0, .null, []), (.iload_n 1, 1, 1, 0, .null, []), (.invokevirtual 210, 3, 141, 1, .null, [(0, 0), (0, 0), (0, 0), (0, 0), (0, 0), (0, 0), (0, 0)]), (.ireturn, 1, 0, 0, .null, [])]
def tb_R_wide : List (Nat × List vx_I) := [(0, kb_R_wide_0), (10, kb_R_wide_10), (20, kb_R_wide_20)]
theorem bk_R_wide_0 : vx_bk tb_R_wide 0 = [(.aload_n 0, 1, 0, 0, .null, []), (.iload_n 1, 1, 1, 0, .null, []), (.invokevirtual 207, 3, 140, 1, .null, [(0, 0), (0, 0), (0, 0), (0, 0), (0, 0), (0, 0), (0, 0)]), (.ifCond .ne 5, 3, 10, 0, .null, []), (.iconst (-1), 1, 0, 0, .int (-1), []), (.ireturn, 1, 0, 0, .null, [])] := rfl
theorem bk_R_wide_10 : vx_bk tb_R_wide 10 = [(.iload_n 2, 1, 2, 0, .null, []), (.invokestatic 201, 3, 128, 1, .null, []), (.ifCond .ne 6, 3, 20, 0, .null, []), (.bipush (-2), 2, 0, 0, .int (-2), []), (.ireturn, 1, 0, 0, .null, [])] := rfl
theorem bk_R_wide_20 : vx_bk tb_R_wide 20 = [(.aload_n 0, 1, 0, 0, .null, []), (.iload_n 2, 1, 2, 0, .null, []), (.invokevirtual 204, 3, 129, 1, .null, [(0, 0), (0, 0), (0, 0), (0, 0), (0, 0), (0, 0), (0, 0)]), (.aload_n 0, 1, 0, 0, .null, []), (.iload_n 1, 1, 1, 0, .null, []), (.invokevirtual 210, 3, 141, 1, .null, [(0, 0), (0, 0), (0, 0), (0, 0), (0, 0), (0, 0), (0, 0)]), (.ireturn, 1, 0, 0, .null, [])] := rfl
abbrev m_R_wide : Nat := 139
set_option maxRecDepth 100000 in
theorem ck_R_wide : vx_ckM prog_9_method_42_code 7 3 5 false (some .int) tb_R_wide = true := by decide +kernel
theorem ok_R_wide {As : List Value} {sz : Nat} {h : vx_H} {P : Option Value → vx_H → Prop} (L0 : vx_L) (hlen : (vx_ar As).length ≤ 3) (hL0 : vx_ar As ++ List.replicate (3 - (vx_ar As).length) none = L0)
    (body : ∀ (lim z : vx_Z) X, vx_cl0 none lim tb_R_wide (fun r z' h' => z' = z ∧ P r h') X → X 0 L0 [] z h) : vx_Ok m_R_wide As sz h P :=
  vx_ok0 (M := (⟨"VoteWallsModel", "wide", "(II)I"⟩, prog_9_method_42_code, 3, (some .int), 5, 0, 0, 2, 0)) rfl (ow := 7) rfl ck_R_wide rfl hlen hL0 body
def kb_R_isCell_0 : List vx_I := [(.aload_n 0, 1, 0, 0, .null, []), (.invokevirtual 151, 3, 119, 0, .null, [(0, 0), (0, 0), (0, 0), (0, 0), (0, 0), (0, 0), (0, 0)]), (.ifCond .eq 19, 3, 23, 0, .null, []), (.iload_n 1, 1, 1, 0, .null, []), (.iconst 0, 1, 0, 0, .int 0, []), (.aload_n 0, 1, 0, 0, .null, []), (.getfield 77, 3, 7, 6, .null, []), (.invokestatic 73, 3, 105, 3, .null, []), (.ifCond .eq 7, 3, 23, 0, .null, []), (.iconst 1, 1, 0, 0, .int 1, []), (.goto 4, 3, 24, 0, .null, [])]
def kb_R_isCell_23 : List vx_I := [(.iconst 0, 1, 0, 0, .int 0, [])]
def kb_R_isCell_24 : List vx_I := [(.ireturn, 1, 1, 0, .null, [])]
def tb_R_isCell : List (Nat × List vx_I) := [(0, kb_R_isCell_0), (23, kb_R_isCell_23), (24, kb_R_isCell_24)]
theorem bk_R_isCell_0 : vx_bk tb_R_isCell 0 = [(.aload_n 0, 1, 0, 0, .null, []), (.invokevirtual 151, 3, 119, 0, .null, [(0, 0), (0, 0), (0, 0), (0, 0), (0, 0), (0, 0), (0, 0)]), (.ifCond .eq 19, 3, 23, 0, .null, []), (.iload_n 1, 1, 1, 0, .null, []), (.iconst 0, 1, 0, 0, .int 0, []), (.aload_n 0, 1, 0, 0, .null, []), (.getfield 77, 3, 7, 6, .null, []), (.invokestatic 73, 3, 105, 3, .null, []), (.ifCond .eq 7, 3, 23, 0, .null, []), (.iconst 1, 1, 0, 0, .int 1, []), (.goto 4, 3, 24, 0, .null, [])] := rfl
theorem bk_R_isCell_23 : vx_bk tb_R_isCell 23 = [(.iconst 0, 1, 0, 0, .int 0, [])] := rfl
theorem bk_R_isCell_24 : vx_bk tb_R_isCell 24 = [(.ireturn, 1, 1, 0, .null, [])] := rfl
abbrev m_R_isCell : Nat := 140
set_option maxRecDepth 100000 in
theorem ck_R_isCell : vx_ckM prog_9_method_40_code 7 2 1 false (some .boolean) tb_R_isCell = true := by decide +kernel
theorem ok_R_isCell {As : List Value} {sz : Nat} {h : vx_H} {P : Option Value → vx_H → Prop} (L0 : vx_L) (hlen : (vx_ar As).length ≤ 2) (hL0 : vx_ar As ++ List.replicate (2 - (vx_ar As).length) none = L0)
    (body : ∀ (lim z : vx_Z) X, vx_cl0 none lim tb_R_isCell (fun r z' h' => z' = z ∧ P r h') X → X 0 L0 [] z h) : vx_Ok m_R_isCell As sz h P :=
  vx_ok0 (M := (⟨"VoteWallsModel", "isCell", "(I)Z"⟩, prog_9_method_40_code, 2, (some .boolean), 1, 0, 0, 1, 0)) rfl (ow := 7) rfl ck_R_isCell rfl hlen hL0 body
def kb_R_wideNow_0 : List vx_I := [(.aload_n 0, 1, 0, 0, .null, []), (.iload_n 1, 1, 1, 0, .null, []), (.iconst 1, 1, 0, 0, .int 1, []), (.iadd, 1, 0, 0, .null, []), (.invokevirtual 177, 3, 137, 1, .null, [(0, 0), (0, 0), (0, 0), (0, 0), (0, 0), (0, 0), (0, 0)]), (.aload_n 0, 1, 0, 0, .null, []), (.iload_n 1, 1, 1, 0, .null, []), (.invokevirtual 177, 3, 137, 1, .null, [(0, 0), (0, 0), (0, 0), (0, 0), (0, 0), (0, 0), (0, 0)]), (.isub, 1, 0, 0, .null, []), (.ireturn, 1, 0, 0, .null, [])]
def tb_R_wideNow : List (Nat × List vx_I) := [(0, kb_R_wideNow_0)]
theorem bk_R_wideNow_0 : vx_bk tb_R_wideNow 0 = [(.aload_n 0, 1, 0, 0, .null, []), (.iload_n 1, 1, 1, 0, .null, []), (.iconst 1, 1, 0, 0, .int 1, []), (.iadd, 1, 0, 0, .null, []), (.invokevirtual 177, 3, 137, 1, .null, [(0, 0), (0, 0), (0, 0), (0, 0), (0, 0), (0, 0), (0, 0)]), (.aload_n 0, 1, 0, 0, .null, []), (.iload_n 1, 1, 1, 0, .null, []), (.invokevirtual 177, 3, 137, 1, .null, [(0, 0), (0, 0), (0, 0), (0, 0), (0, 0), (0, 0), (0, 0)]), (.isub, 1, 0, 0, .null, []), (.ireturn, 1, 0, 0, .null, [])] := rfl
abbrev m_R_wideNow : Nat := 141
set_option maxRecDepth 100000 in
theorem ck_R_wideNow : vx_ckM prog_9_method_41_code 7 2 1 false (some .int) tb_R_wideNow = true := by decide +kernel
theorem ok_R_wideNow {As : List Value} {sz : Nat} {h : vx_H} {P : Option Value → vx_H → Prop} (L0 : vx_L) (hlen : (vx_ar As).length ≤ 2) (hL0 : vx_ar As ++ List.replicate (2 - (vx_ar As).length) none = L0)
    (body : ∀ (lim z : vx_Z) X, vx_cl0 none lim tb_R_wideNow (fun r z' h' => z' = z ∧ P r h') X → X 0 L0 [] z h) : vx_Ok m_R_wideNow As sz h P :=
  vx_ok0 (M := (⟨"VoteWallsModel", "wideNow", "(I)I"⟩, prog_9_method_41_code, 2, (some .int), 1, 0, 0, 1, 0)) rfl (ow := 7) rfl ck_R_wideNow rfl hlen hL0 body
def kb_R_with_0 : List vx_I := [(.aload_n 0, 1, 0, 0, .null, []), (.iload_n 1, 1, 1, 0, .null, []), (.invokevirtual 145, 3, 116, 1, .null, [(0, 0), (0, 0), (0, 0), (0, 0), (0, 0), (0, 0), (0, 0)]), (.ifCond .ne 5, 3, 10, 0, .null, []), (.iconst (-1), 1, 0, 0, .int (-1), []), (.ireturn, 1, 0, 0, .null, [])]
def kb_R_with_10 : List vx_I := [(.iload_n 2, 1, 2, 0, .null, []), (.invokestatic 201, 3, 128, 1, .null, []), (.ifCond .ne 6, 3, 20, 0, .null, []), (.bipush (-2), 2, 0, 0, .int (-2), []), (.ireturn, 1, 0, 0, .null, [])]
def kb_R_with_20 : List vx_I := [(.aload_n 0, 1, 0, 0, .null, []), (.iload_n 2, 1, 2, 0, .null, []), (.invokevirtual 204, 3, 129, 1, .null, [(0, 0), (0, 0), (0, 0), (0, 0), (0, 0), (0, 0), (0, 0)]), (.iconst 0, 1, 0, 0, .int 0, []), (.istore_n 3, 1, 3, 0, .null, []), (.iconst 0, 1, 0, 0, .int 0, []), (.istore 4, 2, 4, 0, .null, [])]
def kb_R_with_30 : List vx_I := [(.iload 4, 2, 4, 0, .null, []), (.aload_n 0, 1, 0, 0, .null, []), (.getfield 80, 3, 7, 7, .null, []), (.if_icmp .ge 34, 3, 70, 0, .null, []), (.iload_n 3, 1, 3, 0, .null, []), (.aload_n 0, 1, 0, 0, .null, []), (.iload 4, 2, 4, 0, .null, []), (.invokevirtual 170, 3, 136, 1, .null, [(0, 0), (0, 0), (0, 0), (0, 0), (0, 0), (0, 0), (0, 0)]), (.aload_n 0, 1, 0, 0, .null, []), (.iload_n 1, 1, 1, 0, .null, []), (.invokevirtual 170, 3, 136, 1, .null, [(0, 0), (0, 0), (0, 0), (0, 0), (0, 0), (0, 0), (0, 0)]), (.if_icmp .ne 10, 3, 61, 0, .null, []), (.iconst 1, 1, 0, 0, .int 1, []), (.iload 4, 2, 4, 0, .null, []), (.ishl, 1, 0, 0, .null, []), (.goto 4, 3, 62, 0, .null, [])]
def kb_R_with_61 : List vx_I := [(.iconst 0, 1, 0, 0, .int 0, [])]
def kb_R_with_62 : List vx_I := [(.ior, 1, 0, 0, .null, []), (.istore_n 3, 1, 3, 0, .null, []), (.iinc 4 1, 3, 4, 0, .int 1, []), (.goto (-37), 3, 30, 0, .null, [])]
def kb_R_with_70 : List vx_I := [(.iload_n 3, 1, 3, 0, .null, []), (.ireturn, 1, 0, 0, .null, [])]
def tb_R_with : List (Nat × List vx_I) := [(0, kb_R_with_0), (10, kb_R_with_10), (20, kb_R_with_20), (30, kb_R_with_30), (61, kb_R_with_61), (62, kb_R_with_62), (70, kb_R_with_70)]
theorem bk_R_with_0 : vx_bk tb_R_with 0 = [(.aload_n 0, 1, 0, 0, .null, []), (.iload_n 1, 1, 1, 0, .null, []), (.invokevirtual 145, 3, 116, 1, .null, [(0, 0), (0, 0), (0, 0), (0, 0), (0, 0), (0, 0), (0, 0)]), (.ifCond .ne 5, 3, 10, 0, .null, []), (.iconst (-1), 1, 0, 0, .int (-1), []), (.ireturn, 1, 0, 0, .null, [])] := rfl
theorem bk_R_with_10 : vx_bk tb_R_with 10 = [(.iload_n 2, 1, 2, 0, .null, []), (.invokestatic 201, 3, 128, 1, .null, []), (.ifCond .ne 6, 3, 20, 0, .null, []), (.bipush (-2), 2, 0, 0, .int (-2), []), (.ireturn, 1, 0, 0, .null, [])] := rfl
theorem bk_R_with_20 : vx_bk tb_R_with 20 = [(.aload_n 0, 1, 0, 0, .null, []), (.iload_n 2, 1, 2, 0, .null, []), (.invokevirtual 204, 3, 129, 1, .null, [(0, 0), (0, 0), (0, 0), (0, 0), (0, 0), (0, 0), (0, 0)]), (.iconst 0, 1, 0, 0, .int 0, []), (.istore_n 3, 1, 3, 0, .null, []), (.iconst 0, 1, 0, 0, .int 0, []), (.istore 4, 2, 4, 0, .null, [])] := rfl
theorem bk_R_with_30 : vx_bk tb_R_with 30 = [(.iload 4, 2, 4, 0, .null, []), (.aload_n 0, 1, 0, 0, .null, []), (.getfield 80, 3, 7, 7, .null, []), (.if_icmp .ge 34, 3, 70, 0, .null, []), (.iload_n 3, 1, 3, 0, .null, []), (.aload_n 0, 1, 0, 0, .null, []), (.iload 4, 2, 4, 0, .null, []), (.invokevirtual 170, 3, 136, 1, .null, [(0, 0), (0, 0), (0, 0), (0, 0), (0, 0), (0, 0), (0, 0)]), (.aload_n 0, 1, 0, 0, .null, []), (.iload_n 1, 1, 1, 0, .null, []), (.invokevirtual 170, 3, 136, 1, .null, [(0, 0), (0, 0), (0, 0), (0, 0), (0, 0), (0, 0), (0, 0)]), (.if_icmp .ne 10, 3, 61, 0, .null, []), (.iconst 1, 1, 0, 0, .int 1, []), (.iload 4, 2, 4, 0, .null, []), (.ishl, 1, 0, 0, .null, []), (.goto 4, 3, 62, 0, .null, [])] := rfl
theorem bk_R_with_61 : vx_bk tb_R_with 61 = [(.iconst 0, 1, 0, 0, .int 0, [])] := rfl
theorem bk_R_with_62 : vx_bk tb_R_with 62 = [(.ior, 1, 0, 0, .null, []), (.istore_n 3, 1, 3, 0, .null, []), (.iinc 4 1, 3, 4, 0, .int 1, []), (.goto (-37), 3, 30, 0, .null, [])] := rfl
theorem bk_R_with_70 : vx_bk tb_R_with 70 = [(.iload_n 3, 1, 3, 0, .null, []), (.ireturn, 1, 0, 0, .null, [])] := rfl
abbrev m_R_with : Nat := 142
set_option maxRecDepth 100000 in
theorem ck_R_with : vx_ckM prog_9_method_43_code 7 5 5 false (some .int) tb_R_with = true := by decide +kernel
theorem ok_R_with {As : List Value} {sz : Nat} {h : vx_H} {P : Option Value → vx_H → Prop} (L0 : vx_L) (hlen : (vx_ar As).length ≤ 5) (hL0 : vx_ar As ++ List.replicate (5 - (vx_ar As).length) none = L0)
    (body : ∀ (lim z : vx_Z) X, vx_cl0 none lim tb_R_with (fun r z' h' => z' = z ∧ P r h') X → X 0 L0 [] z h) : vx_Ok m_R_with As sz h P :=
  vx_ok0 (M := (⟨"VoteWallsModel", "with", "(II)I"⟩, prog_9_method_43_code, 5, (some .int), 5, 0, 0, 2, 0)) rfl (ow := 7) rfl ck_R_with rfl hlen hL0 body
def kb_R_meet_0 : List vx_I := [(.aload_n 0, 1, 0, 0, .null, []), (.iload_n 1, 1, 1, 0, .null, []), (.invokevirtual 145, 3, 116, 1, .null, [(0, 0), (0, 0), (0, 0), (0, 0), (0, 0), (0, 0), (0, 0)]), (.ifCond .eq 20, 3, 25, 0, .null, []), (.aload_n 0, 1, 0, 0, .null, []), (.iload_n 2, 1, 2, 0, .null, []), (.invokevirtual 145, 3, 116, 1, .null, [(0, 0), (0, 0), (0, 0), (0, 0), (0, 0), (0, 0), (0, 0)]), (.ifCond .eq 12, 3, 25, 0, .null, []), (.aload_n 0, 1, 0, 0, .null, []), (.iload_n 1, 1, 1, 0, .null, []), (.iload_n 2, 1, 2, 0, .null, []), (.invokevirtual 213, 3, 144, 2, .null, [(0, 0), (0, 0), (0, 0), (0, 0), (0, 0), (0, 0), (0, 0)]), (.goto 4, 3, 26, 0, .null, [])]
def kb_R_meet_25 : List vx_I := [(.iconst (-1), 1, 0, 0, .int (-1), [])]
def kb_R_meet_26 : List vx_I := [(.ireturn, 1, 0, 0, .null, [])]
def tb_R_meet : List (Nat × List vx_I) := [(0, kb_R_meet_0), (25, kb_R_meet_25), (26, kb_R_meet_26)]
theorem bk_R_meet_0 : vx_bk tb_R_meet 0 = [(.aload_n 0, 1, 0, 0, .null, []), (.iload_n 1, 1, 1, 0, .null, []), (.invokevirtual 145, 3, 116, 1, .null, [(0, 0), (0, 0), (0, 0), (0, 0), (0, 0), (0, 0), (0, 0)]), (.ifCond .eq 20, 3, 25, 0, .null, []), (.aload_n 0, 1, 0, 0, .null, []), (.iload_n 2, 1, 2, 0, .null, []), (.invokevirtual 145, 3, 116, 1, .null, [(0, 0), (0, 0), (0, 0), (0, 0), (0, 0), (0, 0), (0, 0)]), (.ifCond .eq 12, 3, 25, 0, .null, []), (.aload_n 0, 1, 0, 0, .null, []), (.iload_n 1, 1, 1, 0, .null, []), (.iload_n 2, 1, 2, 0, .null, []), (.invokevirtual 213, 3, 144, 2, .null, [(0, 0), (0, 0), (0, 0), (0, 0), (0, 0), (0, 0), (0, 0)]), (.goto 4, 3, 26, 0, .null, [])] := rfl
theorem bk_R_meet_25 : vx_bk tb_R_meet 25 = [(.iconst (-1), 1, 0, 0, .int (-1), [])] := rfl
theorem bk_R_meet_26 : vx_bk tb_R_meet 26 = [(.ireturn, 1, 0, 0, .null, [])] := rfl
abbrev m_R_meet : Nat := 143
set_option maxRecDepth 100000 in
theorem ck_R_meet : vx_ckM prog_9_method_45_code 7 3 5 false (some .int) tb_R_meet = true := by decide +kernel
theorem ok_R_meet {As : List Value} {sz : Nat} {h : vx_H} {P : Option Value → vx_H → Prop} (L0 : vx_L) (hlen : (vx_ar As).length ≤ 3) (hL0 : vx_ar As ++ List.replicate (3 - (vx_ar As).length) none = L0)
    (body : ∀ (lim z : vx_Z) X, vx_cl0 none lim tb_R_meet (fun r z' h' => z' = z ∧ P r h') X → X 0 L0 [] z h) : vx_Ok m_R_meet As sz h P :=
  vx_ok0 (M := (⟨"VoteWallsModel", "meet", "(II)I"⟩, prog_9_method_45_code, 3, (some .int), 5, 0, 0, 2, 0)) rfl (ow := 7) rfl ck_R_meet rfl hlen hL0 body
def kb_R_meetIn_0 : List vx_I := [(.aload_n 0, 1, 0, 0, .null, []), (.invokevirtual 194, 3, 130, 0, .null, [(0, 0), (0, 0), (0, 0), (0, 0), (0, 0), (0, 0), (0, 0)]), (.iconst 0, 1, 0, 0, .int 0, []), (.istore_n 3, 1, 3, 0, .null, [])]
def kb_R_meetIn_6 : List vx_I := [(.iload_n 3, 1, 3, 0, .null, []), (.bipush 50, 2, 0, 0, .int 50, []), (.if_icmp .ge 29, 3, 38, 0, .null, []), (.aload_n 0, 1, 0, 0, .null, []), (.iload_n 3, 1, 3, 0, .null, []), (.invokevirtual 197, 3, 131, 1, .null, [(0, 0), (0, 0), (0, 0), (0, 0), (0, 0), (0, 0), (0, 0)]), (.aload_n 0, 1, 0, 0, .null, []), (.iload_n 1, 1, 1, 0, .null, []), (.invokevirtual 170, 3, 136, 1, .null, [(0, 0), (0, 0), (0, 0), (0, 0), (0, 0), (0, 0), (0, 0)]), (.aload_n 0, 1, 0, 0, .null, []), (.iload_n 2, 1, 2, 0, .null, []), (.invokevirtual 170, 3, 136, 1, .null, [(0, 0), (0, 0), (0, 0), (0, 0), (0, 0), (0, 0), (0, 0)]), (.if_icmp .ne 5, 3, 32, 0, .null, []), (.iload_n 3, 1, 3, 0, .null, []), (.ireturn, 1, 0, 0, .null, [])]
def kb_R_meetIn_32 : List vx_I := [(.iinc 3 1, 3, 3, 0, .int 1, []), (.goto (-29), 3, 6, 0, .null, [])]
def kb_R_meetIn_38 : List vx_I := [(.bipush (-9), 2, 0, 0, .int (-9), []), (.ireturn, 1, 0, 0, .null, [])]
def tb_R_meetIn : List (Nat × List vx_I) := [(0, kb_R_meetIn_0), (6, kb_R_meetIn_6), (32, kb_R_meetIn_32), (38, kb_R_meetIn_38)]
theorem bk_R_meetIn_0 : vx_bk tb_R_meetIn 0 = [(.aload_n 0, 1, 0, 0, .null, []), (.invokevirtual 194, 3, 130, 0, .null, [(0, 0), (0, 0), (0, 0), (0, 0), (0, 0), (0, 0), (0, 0)]), (.iconst 0, 1, 0, 0, .int 0, []), (.istore_n 3, 1, 3, 0, .null, [])] := rfl
theorem bk_R_meetIn_6 : vx_bk tb_R_meetIn 6 = [(.iload_n 3, 1, 3, 0, .null, []), (.bipush 50, 2, 0, 0, .int 50, []), (.if_icmp .ge 29, 3, 38, 0, .null, []), (.aload_n 0, 1, 0, 0, .null, []), (.iload_n 3, 1, 3, 0, .null, []), (.invokevirtual 197, 3, 131, 1, .null, [(0, 0), (0, 0), (0, 0), (0, 0), (0, 0), (0, 0), (0, 0)]), (.aload_n 0, 1, 0, 0, .null, []), (.iload_n 1, 1, 1, 0, .null, []), (.invokevirtual 170, 3, 136, 1, .null, [(0, 0), (0, 0), (0, 0), (0, 0), (0, 0), (0, 0), (0, 0)]), (.aload_n 0, 1, 0, 0, .null, []), (.iload_n 2, 1, 2, 0, .null, []), (.invokevirtual 170, 3, 136, 1, .null, [(0, 0), (0, 0), (0, 0), (0, 0), (0, 0), (0, 0), (0, 0)]), (.if_icmp .ne 5, 3, 32, 0, .null, []), (.iload_n 3, 1, 3, 0, .null, []), (.ireturn, 1, 0, 0, .null, [])] := rfl
theorem bk_R_meetIn_32 : vx_bk tb_R_meetIn 32 = [(.iinc 3 1, 3, 3, 0, .int 1, []), (.goto (-29), 3, 6, 0, .null, [])] := rfl
theorem bk_R_meetIn_38 : vx_bk tb_R_meetIn 38 = [(.bipush (-9), 2, 0, 0, .int (-9), []), (.ireturn, 1, 0, 0, .null, [])] := rfl
abbrev m_R_meetIn : Nat := 144
set_option maxRecDepth 100000 in
theorem ck_R_meetIn : vx_ckM prog_9_method_44_code 7 4 4 false (some .int) tb_R_meetIn = true := by decide +kernel
theorem ok_R_meetIn {As : List Value} {sz : Nat} {h : vx_H} {P : Option Value → vx_H → Prop} (L0 : vx_L) (hlen : (vx_ar As).length ≤ 4) (hL0 : vx_ar As ++ List.replicate (4 - (vx_ar As).length) none = L0)
    (body : ∀ (lim z : vx_Z) X, vx_cl0 none lim tb_R_meetIn (fun r z' h' => z' = z ∧ P r h') X → X 0 L0 [] z h) : vx_Ok m_R_meetIn As sz h P :=
  vx_ok0 (M := (⟨"VoteWallsModel", "meetIn", "(II)I"⟩, prog_9_method_44_code, 4, (some .int), 4, 0, 0, 2, 0)) rfl (ow := 7) rfl ck_R_meetIn rfl hlen hL0 body
def kb_R_rests_0 : List vx_I := [(.aload_n 0, 1, 0, 0, .null, []), (.invokevirtual 151, 3, 119, 0, .null, [(0, 0), (0, 0), (0, 0), (0, 0), (0, 0), (0, 0), (0, 0)]), (.ifCond .ne 6, 3, 10, 0, .null, []), (.bipush (-3), 2, 0, 0, .int (-3), []), (.ireturn, 1, 0, 0, .null, [])]
def kb_R_rests_10 : List vx_I := [(.aload_n 0, 1, 0, 0, .null, []), (.invokevirtual 194, 3, 130, 0, .null, [(0, 0), (0, 0), (0, 0), (0, 0), (0, 0), (0, 0), (0, 0)]), (.iconst 0, 1, 0, 0, .int 0, []), (.istore_n 1, 1, 1, 0, .null, []), (.iconst 0, 1, 0, 0, .int 0, []), (.istore_n 2, 1, 2, 0, .null, [])]
def kb_R_rests_18 : List vx_I := [(.iload_n 2, 1, 2, 0, .null, []), (.bipush 50, 2, 0, 0, .int 50, []), (.if_icmp .ge 29, 3, 50, 0, .null, []), (.aload_n 0, 1, 0, 0, .null, []), (.iload_n 2, 1, 2, 0, .null, []), (.invokevirtual 197, 3, 131, 1, .null, [(0, 0), (0, 0), (0, 0), (0, 0), (0, 0), (0, 0), (0, 0)]), (.aload_n 0, 1, 0, 0, .null, []), (.getfield 180, 3, 7, 30, .null, []), (.ifCond .eq 9, 3, 42, 0, .null, []), (.iload_n 2, 1, 2, 0, .null, []), (.iconst 1, 1, 0, 0, .int 1, []), (.iadd, 1, 0, 0, .null, []), (.goto 4, 3, 43, 0, .null, [])]
def kb_R_rests_42 : List vx_I := [(.iload_n 1, 1, 1, 0, .null, [])]
def kb_R_rests_43 : List vx_I := [(.istore_n 1, 1, 1, 0, .null, []), (.iinc 2 1, 3, 2, 0, .int 1, []), (.goto (-29), 3, 18, 0, .null, [])]
def kb_R_rests_50 : List vx_I := [(.iload_n 1, 1, 1, 0, .null, []), (.bipush 50, 2, 0, 0, .int 50, []), (.if_icmp .ne 8, 3, 61, 0, .null, []), (.bipush (-9), 2, 0, 0, .int (-9), []), (.goto 4, 3, 62, 0, .null, [])]
def kb_R_rests_61 : List vx_I := [(.iload_n 1, 1, 1, 0, .null, [])]
def kb_R_rests_62 : List vx_I := [(.ireturn, 1, 0, 0, .null, [])]
def tb_R_rests : List (Nat × List vx_I) := [(0, kb_R_rests_0), (10, kb_R_rests_10), (18, kb_R_rests_18), (42, kb_R_rests_42), (43, kb_R_rests_43), (50, kb_R_rests_50), (61, kb_R_rests_61), (62, kb_R_rests_62)]
theorem bk_R_rests_0 : vx_bk tb_R_rests 0 = [(.aload_n 0, 1, 0, 0, .null, []), (.invokevirtual 151, 3, 119, 0, .null, [(0, 0), (0, 0), (0, 0), (0, 0), (0, 0), (0, 0), (0, 0)]), (.ifCond .ne 6, 3, 10, 0, .null, []), (.bipush (-3), 2, 0, 0, .int (-3), []), (.ireturn, 1, 0, 0, .null, [])] := rfl
theorem bk_R_rests_10 : vx_bk tb_R_rests 10 = [(.aload_n 0, 1, 0, 0, .null, []), (.invokevirtual 194, 3, 130, 0, .null, [(0, 0), (0, 0), (0, 0), (0, 0), (0, 0), (0, 0), (0, 0)]), (.iconst 0, 1, 0, 0, .int 0, []), (.istore_n 1, 1, 1, 0, .null, []), (.iconst 0, 1, 0, 0, .int 0, []), (.istore_n 2, 1, 2, 0, .null, [])] := rfl
theorem bk_R_rests_18 : vx_bk tb_R_rests 18 = [(.iload_n 2, 1, 2, 0, .null, []), (.bipush 50, 2, 0, 0, .int 50, []), (.if_icmp .ge 29, 3, 50, 0, .null, []), (.aload_n 0, 1, 0, 0, .null, []), (.iload_n 2, 1, 2, 0, .null, []), (.invokevirtual 197, 3, 131, 1, .null, [(0, 0), (0, 0), (0, 0), (0, 0), (0, 0), (0, 0), (0, 0)]), (.aload_n 0, 1, 0, 0, .null, []), (.getfield 180, 3, 7, 30, .null, []), (.ifCond .eq 9, 3, 42, 0, .null, []), (.iload_n 2, 1, 2, 0, .null, []), (.iconst 1, 1, 0, 0, .int 1, []), (.iadd, 1, 0, 0, .null, []), (.goto 4, 3, 43, 0, .null, [])] := rfl
theorem bk_R_rests_42 : vx_bk tb_R_rests 42 = [(.iload_n 1, 1, 1, 0, .null, [])] := rfl
theorem bk_R_rests_43 : vx_bk tb_R_rests 43 = [(.istore_n 1, 1, 1, 0, .null, []), (.iinc 2 1, 3, 2, 0, .int 1, []), (.goto (-29), 3, 18, 0, .null, [])] := rfl
theorem bk_R_rests_50 : vx_bk tb_R_rests 50 = [(.iload_n 1, 1, 1, 0, .null, []), (.bipush 50, 2, 0, 0, .int 50, []), (.if_icmp .ne 8, 3, 61, 0, .null, []), (.bipush (-9), 2, 0, 0, .int (-9), []), (.goto 4, 3, 62, 0, .null, [])] := rfl
theorem bk_R_rests_61 : vx_bk tb_R_rests 61 = [(.iload_n 1, 1, 1, 0, .null, [])] := rfl
theorem bk_R_rests_62 : vx_bk tb_R_rests 62 = [(.ireturn, 1, 0, 0, .null, [])] := rfl
abbrev m_R_rests : Nat := 145
set_option maxRecDepth 100000 in
theorem ck_R_rests : vx_ckM prog_9_method_46_code 7 3 4 false (some .int) tb_R_rests = true := by decide +kernel
theorem ok_R_rests {As : List Value} {sz : Nat} {h : vx_H} {P : Option Value → vx_H → Prop} (L0 : vx_L) (hlen : (vx_ar As).length ≤ 3) (hL0 : vx_ar As ++ List.replicate (3 - (vx_ar As).length) none = L0)
    (body : ∀ (lim z : vx_Z) X, vx_cl0 none lim tb_R_rests (fun r z' h' => z' = z ∧ P r h') X → X 0 L0 [] z h) : vx_Ok m_R_rests As sz h P :=
  vx_ok0 (M := (⟨"VoteWallsModel", "rests", "()I"⟩, prog_9_method_46_code, 3, (some .int), 4, 0, 0, 0, 0)) rfl (ow := 7) rfl ck_R_rests rfl hlen hL0 body
def kb_R_apart_0 : List vx_I := [(.aload_n 0, 1, 0, 0, .null, []), (.iload_n 1, 1, 1, 0, .null, []), (.iload_n 2, 1, 2, 0, .null, []), (.invokevirtual 216, 3, 147, 2, .null, [(0, 0), (0, 0), (0, 0), (0, 0), (0, 0), (0, 0), (0, 0)]), (.ifCond .ne 5, 3, 11, 0, .null, []), (.iconst (-1), 1, 0, 0, .int (-1), []), (.ireturn, 1, 0, 0, .null, [])]
def kb_R_apart_11 : List vx_I := [(.bipush (-9), 2, 0, 0, .int (-9), []), (.istore_n 3, 1, 3, 0, .null, []), (.iconst 0, 1, 0, 0, .int 0, []), (.istore 4, 2, 4, 0, .null, [])]
def kb_R_apart_17 : List vx_I := [(.iload 4, 2, 4, 0, .null, []), (.iconst 1, 1, 0, 0, .int 1, []), (.aload_n 0, 1, 0, 0, .null, []), (.getfield 77, 3, 7, 6, .null, []), (.ishl, 1, 0, 0, .null, []), (.if_icmp .ge 51, 3, 76, 0, .null, []), (.iload_n 3, 1, 3, 0, .null, []), (.bipush (-9), 2, 0, 0, .int (-9), []), (.if_icmp .eq 15, 3, 46, 0, .null, []), (.iload 4, 2, 4, 0, .null, []), (.invokestatic 219, 3, 148, 1, .null, []), (.iload_n 3, 1, 3, 0, .null, []), (.invokestatic 219, 3, 148, 1, .null, []), (.if_icmp .ge 27, 3, 70, 0, .null, [])]
def kb_R_apart_46 : List vx_I := [(.aload_n 0, 1, 0, 0, .null, []), (.iload 4, 2, 4, 0, .null, []), (.putfield 164, 3, 7, 27, .int 0, []), (.aload_n 0, 1, 0, 0, .null, []), (.iload_n 1, 1, 1, 0, .null, []), (.iload_n 2, 1, 2, 0, .null, []), (.invokevirtual 213, 3, 144, 2, .null, [(0, 0), (0, 0), (0, 0), (0, 0), (0, 0), (0, 0), (0, 0)]), (.bipush (-9), 2, 0, 0, .int (-9), []), (.if_icmp .ne 8, 3, 68, 0, .null, []), (.iload 4, 2, 4, 0, .null, []), (.goto 4, 3, 69, 0, .null, [])]
def kb_R_apart_68 : List vx_I := [(.iload_n 3, 1, 3, 0, .null, [])]
def kb_R_apart_69 : List vx_I := [(.istore_n 3, 1, 3, 0, .null, [])]
def kb_R_apart_70 : List vx_I := [(.iinc 4 1, 3, 4, 0, .int 1, []), (.goto (-56), 3, 17, 0, .null, [])]
def kb_R_apart_76 : List vx_I := [(.aload_n 0, 1, 0, 0, .null, []), (.iconst 0, 1, 0, 0, .int 0, []), (.putfield 164, 3, 7, 27, .int 0, []), (.iload_n 3, 1, 3, 0, .null, []), (.ireturn, 1, 0, 0, .null, [])]
def tb_R_apart : List (Nat × List vx_I) := [(0, kb_R_apart_0), (11, kb_R_apart_11), (17, kb_R_apart_17), (46, kb_R_apart_46), (68, kb_R_apart_68), (69, kb_R_apart_69), (70, kb_R_apart_70), (76, kb_R_apart_76)]
theorem bk_R_apart_0 : vx_bk tb_R_apart 0 = [(.aload_n 0, 1, 0, 0, .null, []), (.iload_n 1, 1, 1, 0, .null, []), (.iload_n 2, 1, 2, 0, .null, []), (.invokevirtual 216, 3, 147, 2, .null, [(0, 0), (0, 0), (0, 0), (0, 0), (0, 0), (0, 0), (0, 0)]), (.ifCond .ne 5, 3, 11, 0, .null, []), (.iconst (-1), 1, 0, 0, .int (-1), []), (.ireturn, 1, 0, 0, .null, [])] := rfl
theorem bk_R_apart_11 : vx_bk tb_R_apart 11 = [(.bipush (-9), 2, 0, 0, .int (-9), []), (.istore_n 3, 1, 3, 0, .null, []), (.iconst 0, 1, 0, 0, .int 0, []), (.istore 4, 2, 4, 0, .null, [])] := rfl
theorem bk_R_apart_17 : vx_bk tb_R_apart 17 = [(.iload 4, 2, 4, 0, .null, []), (.iconst 1, 1, 0, 0, .int 1, []), (.aload_n 0, 1, 0, 0, .null, []), (.getfield 77, 3, 7, 6, .null, []), (.ishl, 1, 0, 0, .null, []), (.if_icmp .ge 51, 3, 76, 0, .null, []), (.iload_n 3, 1, 3, 0, .null, []), (.bipush (-9), 2, 0, 0, .int (-9), []), (.if_icmp .eq 15, 3, 46, 0, .null, []), (.iload 4, 2, 4, 0, .null, []), (.invokestatic 219, 3, 148, 1, .null, []), (.iload_n 3, 1, 3, 0, .null, []), (.invokestatic 219, 3, 148, 1, .null, []), (.if_icmp .ge 27, 3, 70, 0, .null, [])] := rfl
theorem bk_R_apart_46 : vx_bk tb_R_apart 46 = [(.aload_n 0, 1, 0, 0, .null, []), (.iload 4, 2, 4, 0, .null, []), (.putfield 164, 3, 7, 27, .int 0, []), (.aload_n 0, 1, 0, 0, .null, []), (.iload_n 1, 1, 1, 0, .null, []), (.iload_n 2, 1, 2, 0, .null, []), (.invokevirtual 213, 3, 144, 2, .null, [(0, 0), (0, 0), (0, 0), (0, 0), (0, 0), (0, 0), (0, 0)]), (.bipush (-9), 2, 0, 0, .int (-9), []), (.if_icmp .ne 8, 3, 68, 0, .null, []), (.iload 4, 2, 4, 0, .null, []), (.goto 4, 3, 69, 0, .null, [])] := rfl
theorem bk_R_apart_68 : vx_bk tb_R_apart 68 = [(.iload_n 3, 1, 3, 0, .null, [])] := rfl
theorem bk_R_apart_69 : vx_bk tb_R_apart 69 = [(.istore_n 3, 1, 3, 0, .null, [])] := rfl
theorem bk_R_apart_70 : vx_bk tb_R_apart 70 = [(.iinc 4 1, 3, 4, 0, .int 1, []), (.goto (-56), 3, 17, 0, .null, [])] := rfl
theorem bk_R_apart_76 : vx_bk tb_R_apart 76 = [(.aload_n 0, 1, 0, 0, .null, []), (.iconst 0, 1, 0, 0, .int 0, []), (.putfield 164, 3, 7, 27, .int 0, []), (.iload_n 3, 1, 3, 0, .null, []), (.ireturn, 1, 0, 0, .null, [])] := rfl
abbrev m_R_apart : Nat := 146
set_option maxRecDepth 100000 in
theorem ck_R_apart : vx_ckM prog_9_method_49_code 7 5 5 false (some .int) tb_R_apart = true := by decide +kernel
theorem ok_R_apart {As : List Value} {sz : Nat} {h : vx_H} {P : Option Value → vx_H → Prop} (L0 : vx_L) (hlen : (vx_ar As).length ≤ 5) (hL0 : vx_ar As ++ List.replicate (5 - (vx_ar As).length) none = L0)
    (body : ∀ (lim z : vx_Z) X, vx_cl0 none lim tb_R_apart (fun r z' h' => z' = z ∧ P r h') X → X 0 L0 [] z h) : vx_Ok m_R_apart As sz h P :=
  vx_ok0 (M := (⟨"VoteWallsModel", "apart", "(II)I"⟩, prog_9_method_49_code, 5, (some .int), 5, 0, 0, 2, 0)) rfl (ow := 7) rfl ck_R_apart rfl hlen hL0 body
def kb_R_areTwo_0 : List vx_I := [(.aload_n 0, 1, 0, 0, .null, []), (.iload_n 1, 1, 1, 0, .null, []), (.invokevirtual 145, 3, 116, 1, .null, [(0, 0), (0, 0), (0, 0), (0, 0), (0, 0), (0, 0), (0, 0)]), (.ifCond .eq 20, 3, 25, 0, .null, []), (.aload_n 0, 1, 0, 0, .null, []), (.iload_n 2, 1, 2, 0, .null, []), (.invokevirtual 145, 3, 116, 1, .null, [(0, 0), (0, 0), (0, 0), (0, 0), (0, 0), (0, 0), (0, 0)]), (.ifCond .eq 12, 3, 25, 0, .null, []), (.iload_n 1, 1, 1, 0, .null, []), (.iload_n 2, 1, 2, 0, .null, []), (.if_icmp .eq 7, 3, 25, 0, .null, []), (.iconst 1, 1, 0, 0, .int 1, []), (.goto 4, 3, 26, 0, .null, [])]
def kb_R_areTwo_25 : List vx_I := [(.iconst 0, 1, 0, 0, .int 0, [])]
def kb_R_areTwo_26 : List vx_I := [(.ireturn, 1, 1, 0, .null, [])]
def tb_R_areTwo : List (Nat × List vx_I) := [(0, kb_R_areTwo_0), (25, kb_R_areTwo_25), (26, kb_R_areTwo_26)]
theorem bk_R_areTwo_0 : vx_bk tb_R_areTwo 0 = [(.aload_n 0, 1, 0, 0, .null, []), (.iload_n 1, 1, 1, 0, .null, []), (.invokevirtual 145, 3, 116, 1, .null, [(0, 0), (0, 0), (0, 0), (0, 0), (0, 0), (0, 0), (0, 0)]), (.ifCond .eq 20, 3, 25, 0, .null, []), (.aload_n 0, 1, 0, 0, .null, []), (.iload_n 2, 1, 2, 0, .null, []), (.invokevirtual 145, 3, 116, 1, .null, [(0, 0), (0, 0), (0, 0), (0, 0), (0, 0), (0, 0), (0, 0)]), (.ifCond .eq 12, 3, 25, 0, .null, []), (.iload_n 1, 1, 1, 0, .null, []), (.iload_n 2, 1, 2, 0, .null, []), (.if_icmp .eq 7, 3, 25, 0, .null, []), (.iconst 1, 1, 0, 0, .int 1, []), (.goto 4, 3, 26, 0, .null, [])] := rfl
theorem bk_R_areTwo_25 : vx_bk tb_R_areTwo 25 = [(.iconst 0, 1, 0, 0, .int 0, [])] := rfl
theorem bk_R_areTwo_26 : vx_bk tb_R_areTwo 26 = [(.ireturn, 1, 1, 0, .null, [])] := rfl
abbrev m_R_areTwo : Nat := 147
set_option maxRecDepth 100000 in
theorem ck_R_areTwo : vx_ckM prog_9_method_48_code 7 3 1 false (some .boolean) tb_R_areTwo = true := by decide +kernel
theorem ok_R_areTwo {As : List Value} {sz : Nat} {h : vx_H} {P : Option Value → vx_H → Prop} (L0 : vx_L) (hlen : (vx_ar As).length ≤ 3) (hL0 : vx_ar As ++ List.replicate (3 - (vx_ar As).length) none = L0)
    (body : ∀ (lim z : vx_Z) X, vx_cl0 none lim tb_R_areTwo (fun r z' h' => z' = z ∧ P r h') X → X 0 L0 [] z h) : vx_Ok m_R_areTwo As sz h P :=
  vx_ok0 (M := (⟨"VoteWallsModel", "areTwo", "(II)Z"⟩, prog_9_method_48_code, 3, (some .boolean), 1, 0, 0, 2, 0)) rfl (ow := 7) rfl ck_R_areTwo rfl hlen hL0 body
def kb_R_size_0 : List vx_I := [(.iconst 0, 1, 0, 0, .int 0, []), (.istore_n 1, 1, 1, 0, .null, []), (.iload_n 0, 1, 0, 0, .null, []), (.istore_n 2, 1, 2, 0, .null, [])]
def kb_R_size_4 : List vx_I := [(.iload_n 2, 1, 2, 0, .null, []), (.ifCond .le 16, 3, 21, 0, .null, []), (.iload_n 1, 1, 1, 0, .null, []), (.iload_n 2, 1, 2, 0, .null, []), (.iconst 1, 1, 0, 0, .int 1, []), (.iand, 1, 0, 0, .null, []), (.iadd, 1, 0, 0, .null, []), (.istore_n 1, 1, 1, 0, .null, []), (.iload_n 2, 1, 2, 0, .null, []), (.iconst 1, 1, 0, 0, .int 1, []), (.ishr, 1, 0, 0, .null, []), (.istore_n 2, 1, 2, 0, .null, []), (.goto (-14), 3, 4, 0, .null, [])]
def kb_R_size_21 : List vx_I := [(.iload_n 1, 1, 1, 0, .null, []), (.ireturn, 1, 0, 0, .null, [])]
def tb_R_size : List (Nat × List vx_I) := [(0, kb_R_size_0), (4, kb_R_size_4), (21, kb_R_size_21)]
theorem bk_R_size_0 : vx_bk tb_R_size 0 = [(.iconst 0, 1, 0, 0, .int 0, []), (.istore_n 1, 1, 1, 0, .null, []), (.iload_n 0, 1, 0, 0, .null, []), (.istore_n 2, 1, 2, 0, .null, [])] := rfl
theorem bk_R_size_4 : vx_bk tb_R_size 4 = [(.iload_n 2, 1, 2, 0, .null, []), (.ifCond .le 16, 3, 21, 0, .null, []), (.iload_n 1, 1, 1, 0, .null, []), (.iload_n 2, 1, 2, 0, .null, []), (.iconst 1, 1, 0, 0, .int 1, []), (.iand, 1, 0, 0, .null, []), (.iadd, 1, 0, 0, .null, []), (.istore_n 1, 1, 1, 0, .null, []), (.iload_n 2, 1, 2, 0, .null, []), (.iconst 1, 1, 0, 0, .int 1, []), (.ishr, 1, 0, 0, .null, []), (.istore_n 2, 1, 2, 0, .null, []), (.goto (-14), 3, 4, 0, .null, [])] := rfl
theorem bk_R_size_21 : vx_bk tb_R_size 21 = [(.iload_n 1, 1, 1, 0, .null, []), (.ireturn, 1, 0, 0, .null, [])] := rfl
abbrev m_R_size : Nat := 148
set_option maxRecDepth 100000 in
theorem ck_R_size : vx_ckM prog_9_method_47_code 7 3 0 false (some .int) tb_R_size = true := by decide +kernel
theorem ok_R_size {As : List Value} {sz : Nat} {h : vx_H} {P : Option Value → vx_H → Prop} (L0 : vx_L) (hlen : (vx_ar As).length ≤ 3) (hL0 : vx_ar As ++ List.replicate (3 - (vx_ar As).length) none = L0)
    (body : ∀ (lim z : vx_Z) X, vx_cl0 none lim tb_R_size (fun r z' h' => z' = z ∧ P r h') X → X 0 L0 [] z h) : vx_Ok m_R_size As sz h P :=
  vx_ok0 (M := (⟨"VoteWallsModel", "size", "(I)I"⟩, prog_9_method_47_code, 3, (some .int), 0, 0, 0, 1, 1)) rfl (ow := 7) rfl ck_R_size rfl hlen hL0 body
def kb_R_joined_0 : List vx_I := [(.aload_n 0, 1, 0, 0, .null, []), (.iload_n 1, 1, 1, 0, .null, []), (.iload_n 2, 1, 2, 0, .null, []), (.invokevirtual 216, 3, 147, 2, .null, [(0, 0), (0, 0), (0, 0), (0, 0), (0, 0), (0, 0), (0, 0)]), (.ifCond .ne 5, 3, 11, 0, .null, []), (.iconst (-1), 1, 0, 0, .int (-1), []), (.ireturn, 1, 0, 0, .null, [])]
def kb_R_joined_11 : List vx_I := [(.iconst 0, 1, 0, 0, .int 0, []), (.istore_n 3, 1, 3, 0, .null, []), (.iconst 0, 1, 0, 0, .int 0, []), (.istore 4, 2, 4, 0, .null, [])]
def kb_R_joined_16 : List vx_I := [(.iload 4, 2, 4, 0, .null, []), (.iconst 1, 1, 0, 0, .int 1, []), (.aload_n 0, 1, 0, 0, .null, []), (.getfield 77, 3, 7, 6, .null, []), (.ishl, 1, 0, 0, .null, []), (.if_icmp .ge 36, 3, 60, 0, .null, []), (.iload_n 3, 1, 3, 0, .null, []), (.ifCond .ne 32, 3, 60, 0, .null, []), (.aload_n 0, 1, 0, 0, .null, []), (.iload 4, 2, 4, 0, .null, []), (.putfield 164, 3, 7, 27, .int 0, []), (.aload_n 0, 1, 0, 0, .null, []), (.iload_n 1, 1, 1, 0, .null, []), (.iload_n 2, 1, 2, 0, .null, []), (.invokevirtual 213, 3, 144, 2, .null, [(0, 0), (0, 0), (0, 0), (0, 0), (0, 0), (0, 0), (0, 0)]), (.bipush (-9), 2, 0, 0, .int (-9), []), (.if_icmp .ne 7, 3, 52, 0, .null, []), (.iconst 0, 1, 0, 0, .int 0, []), (.goto 4, 3, 53, 0, .null, [])]
def kb_R_joined_52 : List vx_I := [(.iconst 1, 1, 0, 0, .int 1, [])]
def kb_R_joined_53 : List vx_I := [(.istore_n 3, 1, 3, 0, .null, []), (.iinc 4 1, 3, 4, 0, .int 1, []), (.goto (-41), 3, 16, 0, .null, [])]
def kb_R_joined_60 : List vx_I := [(.aload_n 0, 1, 0, 0, .null, []), (.iconst 0, 1, 0, 0, .int 0, []), (.putfield 164, 3, 7, 27, .int 0, []), (.iload_n 3, 1, 3, 0, .null, []), (.ireturn, 1, 0, 0, .null, [])]
def tb_R_joined : List (Nat × List vx_I) := [(0, kb_R_joined_0), (11, kb_R_joined_11), (16, kb_R_joined_16), (52, kb_R_joined_52), (53, kb_R_joined_53), (60, kb_R_joined_60)]
theorem bk_R_joined_0 : vx_bk tb_R_joined 0 = [(.aload_n 0, 1, 0, 0, .null, []), (.iload_n 1, 1, 1, 0, .null, []), (.iload_n 2, 1, 2, 0, .null, []), (.invokevirtual 216, 3, 147, 2, .null, [(0, 0), (0, 0), (0, 0), (0, 0), (0, 0), (0, 0), (0, 0)]), (.ifCond .ne 5, 3, 11, 0, .null, []), (.iconst (-1), 1, 0, 0, .int (-1), []), (.ireturn, 1, 0, 0, .null, [])] := rfl
theorem bk_R_joined_11 : vx_bk tb_R_joined 11 = [(.iconst 0, 1, 0, 0, .int 0, []), (.istore_n 3, 1, 3, 0, .null, []), (.iconst 0, 1, 0, 0, .int 0, []), (.istore 4, 2, 4, 0, .null, [])] := rfl
theorem bk_R_joined_16 : vx_bk tb_R_joined 16 = [(.iload 4, 2, 4, 0, .null, []), (.iconst 1, 1, 0, 0, .int 1, []), (.aload_n 0, 1, 0, 0, .null, []), (.getfield 77, 3, 7, 6, .null, []), (.ishl, 1, 0, 0, .null, []), (.if_icmp .ge 36, 3, 60, 0, .null, []), (.iload_n 3, 1, 3, 0, .null, []), (.ifCond .ne 32, 3, 60, 0, .null, []), (.aload_n 0, 1, 0, 0, .null, []), (.iload 4, 2, 4, 0, .null, []), (.putfield 164, 3, 7, 27, .int 0, []), (.aload_n 0, 1, 0, 0, .null, []), (.iload_n 1, 1, 1, 0, .null, []), (.iload_n 2, 1, 2, 0, .null, []), (.invokevirtual 213, 3, 144, 2, .null, [(0, 0), (0, 0), (0, 0), (0, 0), (0, 0), (0, 0), (0, 0)]), (.bipush (-9), 2, 0, 0, .int (-9), []), (.if_icmp .ne 7, 3, 52, 0, .null, []), (.iconst 0, 1, 0, 0, .int 0, []), (.goto 4, 3, 53, 0, .null, [])] := rfl
theorem bk_R_joined_52 : vx_bk tb_R_joined 52 = [(.iconst 1, 1, 0, 0, .int 1, [])] := rfl
theorem bk_R_joined_53 : vx_bk tb_R_joined 53 = [(.istore_n 3, 1, 3, 0, .null, []), (.iinc 4 1, 3, 4, 0, .int 1, []), (.goto (-41), 3, 16, 0, .null, [])] := rfl
theorem bk_R_joined_60 : vx_bk tb_R_joined 60 = [(.aload_n 0, 1, 0, 0, .null, []), (.iconst 0, 1, 0, 0, .int 0, []), (.putfield 164, 3, 7, 27, .int 0, []), (.iload_n 3, 1, 3, 0, .null, []), (.ireturn, 1, 0, 0, .null, [])] := rfl
abbrev m_R_joined : Nat := 149
set_option maxRecDepth 100000 in
theorem ck_R_joined : vx_ckM prog_9_method_50_code 7 5 5 false (some .int) tb_R_joined = true := by decide +kernel
theorem ok_R_joined {As : List Value} {sz : Nat} {h : vx_H} {P : Option Value → vx_H → Prop} (L0 : vx_L) (hlen : (vx_ar As).length ≤ 5) (hL0 : vx_ar As ++ List.replicate (5 - (vx_ar As).length) none = L0)
    (body : ∀ (lim z : vx_Z) X, vx_cl0 none lim tb_R_joined (fun r z' h' => z' = z ∧ P r h') X → X 0 L0 [] z h) : vx_Ok m_R_joined As sz h P :=
  vx_ok0 (M := (⟨"VoteWallsModel", "joined", "(II)I"⟩, prog_9_method_50_code, 5, (some .int), 5, 0, 0, 2, 0)) rfl (ow := 7) rfl ck_R_joined rfl hlen hL0 body
def kb_R_pushed_0 : List vx_I := [(.aload_n 0, 1, 0, 0, .null, []), (.iload_n 1, 1, 1, 0, .null, []), (.invokevirtual 158, 3, 121, 1, .null, [(0, 0), (0, 0), (0, 0), (0, 0), (0, 0), (0, 0), (0, 0)]), (.ifCond .ne 5, 3, 10, 0, .null, []), (.iconst (-1), 1, 0, 0, .int (-1), []), (.ireturn, 1, 0, 0, .null, [])]
def kb_R_pushed_10 : List vx_I := [(.iload_n 2, 1, 2, 0, .null, []), (.iconst 1, 1, 0, 0, .int 1, []), (.aload_n 0, 1, 0, 0, .null, []), (.getfield 111, 3, 7, 5, .null, []), (.iconst 1, 1, 0, 0, .int 1, []), (.isub, 1, 0, 0, .null, []), (.invokestatic 73, 3, 105, 3, .null, []), (.ifCond .eq 10, 3, 31, 0, .null, []), (.iload_n 3, 1, 3, 0, .null, []), (.invokestatic 155, 3, 123, 1, .null, []), (.ifCond .ne 6, 3, 34, 0, .null, [])]
def kb_R_pushed_31 : List vx_I := [(.bipush (-2), 2, 0, 0, .int (-2), []), (.ireturn, 1, 0, 0, .null, [])]
def kb_R_pushed_34 : List vx_I := [(.bipush (-9), 2, 0, 0, .int (-9), []), (.istore 4, 2, 4, 0, .null, []), (.iconst 0, 1, 0, 0, .int 0, []), (.istore 5, 2, 5, 0, .null, [])]
def kb_R_pushed_41 : List vx_I := [(.iload 5, 2, 5, 0, .null, []), (.iconst 1, 1, 0, 0, .int 1, []), (.aload_n 0, 1, 0, 0, .null, []), (.getfield 80, 3, 7, 7, .null, []), (.ishl, 1, 0, 0, .null, []), (.if_icmp .ge 59, 3, 108, 0, .null, []), (.iload 4, 2, 4, 0, .null, []), (.bipush (-9), 2, 0, 0, .int (-9), []), (.if_icmp .eq 16, 3, 72, 0, .null, []), (.iload 5, 2, 5, 0, .null, []), (.invokestatic 219, 3, 148, 1, .null, []), (.iload 4, 2, 4, 0, .null, []), (.invokestatic 219, 3, 148, 1, .null, []), (.if_icmp .ge 33, 3, 102, 0, .null, [])]
def kb_R_pushed_72 : List vx_I := [(.aload_n 0, 1, 0, 0, .null, []), (.iload 5, 2, 5, 0, .null, []), (.putfield 167, 3, 7, 28, .int 0, []), (.aload_n 0, 1, 0, 0, .null, []), (.iload_n 3, 1, 3, 0, .null, []), (.invokevirtual 204, 3, 129, 1, .null, [(0, 0), (0, 0), (0, 0), (0, 0), (0, 0), (0, 0), (0, 0)]), (.aload_n 0, 1, 0, 0, .null, []), (.getfield 55, 3, 7, 29, .null, []), (.iload_n 1, 1, 1, 0, .null, []), (.iaload, 1, 0, 0, .null, []), (.iload_n 2, 1, 2, 0, .null, []), (.if_icmp .ne 8, 3, 98, 0, .null, []), (.iload 5, 2, 5, 0, .null, []), (.goto 5, 3, 100, 0, .null, [])]
def kb_R_pushed_98 : List vx_I := [(.iload 4, 2, 4, 0, .null, [])]
def kb_R_pushed_100 : List vx_I := [(.istore 4, 2, 4, 0, .null, [])]
def kb_R_pushed_102 : List vx_I := [(.iinc 5 1, 3, 5, 0, .int 1, []), (.goto (-64), 3, 41, 0, .null, [])]
def kb_R_pushed_108 : List vx_I := [(.aload_n 0, 1, 0, 0, .null, []), (.iconst 0, 1, 0, 0, .int 0, []), (.putfield 167, 3, 7, 28, .int 0, []), (.iload 4, 2, 4, 0, .null, []), (.ireturn, 1, 0, 0, .null, [])]
def tb_R_pushed : List (Nat × List vx_I) := [(0, kb_R_pushed_0), (10, kb_R_pushed_10), (31, kb_R_pushed_31), (34, kb_R_pushed_34), (41, kb_R_pushed_41), (72, kb_R_pushed_72), (98, kb_R_pushed_98), (100, kb_R_pushed_100), (102, kb_R_pushed_102), (108, kb_R_pushed_108)]
theorem bk_R_pushed_0 : vx_bk tb_R_pushed 0 = [(.aload_n 0, 1, 0, 0, .null, []), (.iload_n 1, 1, 1, 0, .null, []), (.invokevirtual 158, 3, 121, 1, .null, [(0, 0), (0, 0), (0, 0), (0, 0), (0, 0), (0, 0), (0, 0)]), (.ifCond .ne 5, 3, 10, 0, .null, []), (.iconst (-1), 1, 0, 0, .int (-1), []), (.ireturn, 1, 0, 0, .null, [])] := rfl
theorem bk_R_pushed_10 : vx_bk tb_R_pushed 10 = [(.iload_n 2, 1, 2, 0, .null, []), (.iconst 1, 1, 0, 0, .int 1, []), (.aload_n 0, 1, 0, 0, .null, []), (.getfield 111, 3, 7, 5, .null, []), (.iconst 1, 1, 0, 0, .int 1, []), (.isub, 1, 0, 0, .null, []), (.invokestatic 73, 3, 105, 3, .null, []), (.ifCond .eq 10, 3, 31, 0, .null, []), (.iload_n 3, 1, 3, 0, .null, []), (.invokestatic 155, 3, 123, 1, .null, []), (.ifCond .ne 6, 3, 34, 0, .null, [])] := rfl
theorem bk_R_pushed_31 : vx_bk tb_R_pushed 31 = [(.bipush (-2), 2, 0, 0, .int (-2), []), (.ireturn, 1, 0, 0, .null, [])] := rfl
theorem bk_R_pushed_34 : vx_bk tb_R_pushed 34 = [(.bipush (-9), 2, 0, 0, .int (-9), []), (.istore 4, 2, 4, 0, .null, []), (.iconst 0, 1, 0, 0, .int 0, []), (.istore 5, 2, 5, 0, .null, [])] := rfl
theorem bk_R_pushed_41 : vx_bk tb_R_pushed 41 = [(.iload 5, 2, 5, 0, .null, []), (.iconst 1, 1, 0, 0, .int 1, []), (.aload_n 0, 1, 0, 0, .null, []), (.getfield 80, 3, 7, 7, .null, []), (.ishl, 1, 0, 0, .null, []), (.if_icmp .ge 59, 3, 108, 0, .null, []), (.iload 4, 2, 4, 0, .null, []), (.bipush (-9), 2, 0, 0, .int (-9), []), (.if_icmp .eq 16, 3, 72, 0, .null, []), (.iload 5, 2, 5, 0, .null, []), (.invokestatic 219, 3, 148, 1, .null, []), (.iload 4, 2, 4, 0, .null, []), (.invokestatic 219, 3, 148, 1, .null, []), (.if_icmp .ge 33, 3, 102, 0, .null, [])] := rfl
theorem bk_R_pushed_72 : vx_bk tb_R_pushed 72 = [(.aload_n 0, 1, 0, 0, .null, []), (.iload 5, 2, 5, 0, .null, []), (.putfield 167, 3, 7, 28, .int 0, []), (.aload_n 0, 1, 0, 0, .null, []), (.iload_n 3, 1, 3, 0, .null, []), (.invokevirtual 204, 3, 129, 1, .null, [(0, 0), (0, 0), (0, 0), (0, 0), (0, 0), (0, 0), (0, 0)]), (.aload_n 0, 1, 0, 0, .null, []), (.getfield 55, 3, 7, 29, .null, []), (.iload_n 1, 1, 1, 0, .null, []), (.iaload, 1, 0, 0, .null, []), (.iload_n 2, 1, 2, 0, .null, []), (.if_icmp .ne 8, 3, 98, 0, .null, []), (.iload 5, 2, 5, 0, .null, []), (.goto 5, 3, 100, 0, .null, [])] := rfl
theorem bk_R_pushed_98 : vx_bk tb_R_pushed 98 = [(.iload 4, 2, 4, 0, .null, [])] := rfl
theorem bk_R_pushed_100 : vx_bk tb_R_pushed 100 = [(.istore 4, 2, 4, 0, .null, [])] := rfl
theorem bk_R_pushed_102 : vx_bk tb_R_pushed 102 = [(.iinc 5 1, 3, 5, 0, .int 1, []), (.goto (-64), 3, 41, 0, .null, [])] := rfl
theorem bk_R_pushed_108 : vx_bk tb_R_pushed 108 = [(.aload_n 0, 1, 0, 0, .null, []), (.iconst 0, 1, 0, 0, .int 0, []), (.putfield 167, 3, 7, 28, .int 0, []), (.iload 4, 2, 4, 0, .null, []), (.ireturn, 1, 0, 0, .null, [])] := rfl
abbrev m_R_pushed : Nat := 150
set_option maxRecDepth 100000 in
theorem ck_R_pushed : vx_ckM prog_9_method_51_code 7 6 5 false (some .int) tb_R_pushed = true := by decide +kernel
theorem ok_R_pushed {As : List Value} {sz : Nat} {h : vx_H} {P : Option Value → vx_H → Prop} (L0 : vx_L) (hlen : (vx_ar As).length ≤ 6) (hL0 : vx_ar As ++ List.replicate (6 - (vx_ar As).length) none = L0)
    (body : ∀ (lim z : vx_Z) X, vx_cl0 none lim tb_R_pushed (fun r z' h' => z' = z ∧ P r h') X → X 0 L0 [] z h) : vx_Ok m_R_pushed As sz h P :=
  vx_ok0 (M := (⟨"VoteWallsModel", "pushed", "(III)I"⟩, prog_9_method_51_code, 6, (some .int), 5, 0, 0, 3, 0)) rfl (ow := 7) rfl ck_R_pushed rfl hlen hL0 body
def kb_R_game_0 : List vx_I := [(.iload_n 1, 1, 1, 0, .null, []), (.iconst 0, 1, 0, 0, .int 0, []), (.iconst 1, 1, 0, 0, .int 1, []), (.invokestatic 73, 3, 105, 3, .null, []), (.ifCond .ne 6, 3, 12, 0, .null, []), (.bipush (-2), 2, 0, 0, .int (-2), []), (.ireturn, 1, 0, 0, .null, [])]
def kb_R_game_12 : List vx_I := [(.aload_n 0, 1, 0, 0, .null, []), (.invokevirtual 151, 3, 119, 0, .null, [(0, 0), (0, 0), (0, 0), (0, 0), (0, 0), (0, 0), (0, 0)]), (.ifCond .ne 6, 3, 22, 0, .null, []), (.bipush (-3), 2, 0, 0, .int (-3), []), (.ireturn, 1, 0, 0, .null, [])]
def kb_R_game_22 : List vx_I := [(.bipush (-9), 2, 0, 0, .int (-9), []), (.istore_n 2, 1, 2, 0, .null, []), (.iconst 0, 1, 0, 0, .int 0, []), (.istore_n 3, 1, 3, 0, .null, []), (.iconst 0, 1, 0, 0, .int 0, []), (.istore 4, 2, 4, 0, .null, [])]
def kb_R_game_30 : List vx_I := [(.iload 4, 2, 4, 0, .null, []), (.aload_n 0, 1, 0, 0, .null, []), (.getfield 77, 3, 7, 6, .null, []), (.if_icmp .ge 41, 3, 77, 0, .null, []), (.aload_n 0, 1, 0, 0, .null, []), (.iconst 1, 1, 0, 0, .int 1, []), (.iload 4, 2, 4, 0, .null, []), (.ishl, 1, 0, 0, .null, []), (.putfield 164, 3, 7, 27, .int 0, []), (.aload_n 0, 1, 0, 0, .null, []), (.invokevirtual 222, 3, 152, 0, .null, [(0, 0), (0, 0), (0, 0), (0, 0), (0, 0), (0, 0), (0, 0)]), (.istore 5, 2, 5, 0, .null, []), (.iload_n 2, 1, 2, 0, .null, []), (.bipush (-9), 2, 0, 0, .int (-9), []), (.if_icmp .eq 9, 3, 65, 0, .null, []), (.iload 5, 2, 5, 0, .null, []), (.iload_n 3, 1, 3, 0, .null, []), (.if_icmp .ge 9, 3, 71, 0, .null, [])]
def kb_R_game_65 : List vx_I := [(.iload 4, 2, 4, 0, .null, []), (.istore_n 2, 1, 2, 0, .null, []), (.iload 5, 2, 5, 0, .null, []), (.istore_n 3, 1, 3, 0, .null, [])]
def kb_R_game_71 : List vx_I := [(.iinc 4 1, 3, 4, 0, .int 1, []), (.goto (-44), 3, 30, 0, .null, [])]
def kb_R_game_77 : List vx_I := [(.aload_n 0, 1, 0, 0, .null, []), (.iconst 0, 1, 0, 0, .int 0, []), (.putfield 164, 3, 7, 27, .int 0, []), (.iload_n 1, 1, 1, 0, .null, []), (.ifCond .ne 7, 3, 90, 0, .null, []), (.iload_n 3, 1, 3, 0, .null, []), (.goto 4, 3, 91, 0, .null, [])]
def kb_R_game_90 : List vx_I := [(.iload_n 2, 1, 2, 0, .null, [])]
def kb_R_game_91 : List vx_I := [(.ireturn, 1, 0, 0, .null, [])]
def tb_R_game : List (Nat × List vx_I) := [(0, kb_R_game_0), (12, kb_R_game_12), (22, kb_R_game_22), (30, kb_R_game_30), (65, kb_R_game_65), (71, kb_R_game_71), (77, kb_R_game_77), (90, kb_R_game_90), (91, kb_R_game_91)]
theorem bk_R_game_0 : vx_bk tb_R_game 0 = [(.iload_n 1, 1, 1, 0, .null, []), (.iconst 0, 1, 0, 0, .int 0, []), (.iconst 1, 1, 0, 0, .int 1, []), (.invokestatic 73, 3, 105, 3, .null, []), (.ifCond .ne 6, 3, 12, 0, .null, []), (.bipush (-2), 2, 0, 0, .int (-2), []), (.ireturn, 1, 0, 0, .null, [])] := rfl
theorem bk_R_game_12 : vx_bk tb_R_game 12 = [(.aload_n 0, 1, 0, 0, .null, []), (.invokevirtual 151, 3, 119, 0, .null, [(0, 0), (0, 0), (0, 0), (0, 0), (0, 0), (0, 0), (0, 0)]), (.ifCond .ne 6, 3, 22, 0, .null, []), (.bipush (-3), 2, 0, 0, .int (-3), []), (.ireturn, 1, 0, 0, .null, [])] := rfl
theorem bk_R_game_22 : vx_bk tb_R_game 22 = [(.bipush (-9), 2, 0, 0, .int (-9), []), (.istore_n 2, 1, 2, 0, .null, []), (.iconst 0, 1, 0, 0, .int 0, []), (.istore_n 3, 1, 3, 0, .null, []), (.iconst 0, 1, 0, 0, .int 0, []), (.istore 4, 2, 4, 0, .null, [])] := rfl
theorem bk_R_game_30 : vx_bk tb_R_game 30 = [(.iload 4, 2, 4, 0, .null, []), (.aload_n 0, 1, 0, 0, .null, []), (.getfield 77, 3, 7, 6, .null, []), (.if_icmp .ge 41, 3, 77, 0, .null, []), (.aload_n 0, 1, 0, 0, .null, []), (.iconst 1, 1, 0, 0, .int 1, []), (.iload 4, 2, 4, 0, .null, []), (.ishl, 1, 0, 0, .null, []), (.putfield 164, 3, 7, 27, .int 0, []), (.aload_n 0, 1, 0, 0, .null, []), (.invokevirtual 222, 3, 152, 0, .null, [(0, 0), (0, 0), (0, 0), (0, 0), (0, 0), (0, 0), (0, 0)]), (.istore 5, 2, 5, 0, .null, []), (.iload_n 2, 1, 2, 0, .null, []), (.bipush (-9), 2, 0, 0, .int (-9), []), (.if_icmp .eq 9, 3, 65, 0, .null, []), (.iload 5, 2, 5, 0, .null, []), (.iload_n 3, 1, 3, 0, .null, []), (.if_icmp .ge 9, 3, 71, 0, .null, [])] := rfl
theorem bk_R_game_65 : vx_bk tb_R_game 65 = [(.iload 4, 2, 4, 0, .null, []), (.istore_n 2, 1, 2, 0, .null, []), (.iload 5, 2, 5, 0, .null, []), (.istore_n 3, 1, 3, 0, .null, [])] := rfl
theorem bk_R_game_71 : vx_bk tb_R_game 71 = [(.iinc 4 1, 3, 4, 0, .int 1, []), (.goto (-44), 3, 30, 0, .null, [])] := rfl
theorem bk_R_game_77 : vx_bk tb_R_game 77 = [(.aload_n 0, 1, 0, 0, .null, []), (.iconst 0, 1, 0, 0, .int 0, []), (.putfield 164, 3, 7, 27, .int 0, []), (.iload_n 1, 1, 1, 0, .null, []), (.ifCond .ne 7, 3, 90, 0, .null, []), (.iload_n 3, 1, 3, 0, .null, []), (.goto 4, 3, 91, 0, .null, [])] := rfl
theorem bk_R_game_90 : vx_bk tb_R_game 90 = [(.iload_n 2, 1, 2, 0, .null, [])] := rfl
theorem bk_R_game_91 : vx_bk tb_R_game 91 = [(.ireturn, 1, 0, 0, .null, [])] := rfl
abbrev m_R_game : Nat := 151
set_option maxRecDepth 100000 in
theorem ck_R_game : vx_ckM prog_9_method_53_code 7 6 6 false (some .int) tb_R_game = true := by decide +kernel
theorem ok_R_game {As : List Value} {sz : Nat} {h : vx_H} {P : Option Value → vx_H → Prop} (L0 : vx_L) (hlen : (vx_ar As).length ≤ 6) (hL0 : vx_ar As ++ List.replicate (6 - (vx_ar As).length) none = L0)
    (body : ∀ (lim z : vx_Z) X, vx_cl0 none lim tb_R_game (fun r z' h' => z' = z ∧ P r h') X → X 0 L0 [] z h) : vx_Ok m_R_game As sz h P :=
  vx_ok0 (M := (⟨"VoteWallsModel", "game", "(I)I"⟩, prog_9_method_53_code, 6, (some .int), 6, 0, 0, 1, 0)) rfl (ow := 7) rfl ck_R_game rfl hlen hL0 body
def kb_R_mostWide_0 : List vx_I := [(.iconst 0, 1, 0, 0, .int 0, []), (.istore_n 1, 1, 1, 0, .null, []), (.iconst 0, 1, 0, 0, .int 0, []), (.istore_n 2, 1, 2, 0, .null, [])]
def kb_R_mostWide_4 : List vx_I := [(.iload_n 2, 1, 2, 0, .null, []), (.aload_n 0, 1, 0, 0, .null, []), (.getfield 80, 3, 7, 7, .null, []), (.if_icmp .ge 43, 3, 52, 0, .null, []), (.aload_n 0, 1, 0, 0, .null, []), (.iconst 1, 1, 0, 0, .int 1, []), (.iload_n 2, 1, 2, 0, .null, []), (.ishl, 1, 0, 0, .null, []), (.putfield 167, 3, 7, 28, .int 0, []), (.aload_n 0, 1, 0, 0, .null, []), (.bipush 49, 2, 0, 0, .int 49, []), (.invokevirtual 204, 3, 129, 1, .null, [(0, 0), (0, 0), (0, 0), (0, 0), (0, 0), (0, 0), (0, 0)]), (.aload_n 0, 1, 0, 0, .null, []), (.getfield 55, 3, 7, 29, .null, []), (.iconst 0, 1, 0, 0, .int 0, []), (.iaload, 1, 0, 0, .null, []), (.iload_n 1, 1, 1, 0, .null, []), (.if_icmp .le 12, 3, 44, 0, .null, []), (.aload_n 0, 1, 0, 0, .null, []), (.getfield 55, 3, 7, 29, .null, []), (.iconst 0, 1, 0, 0, .int 0, []), (.iaload, 1, 0, 0, .null, []), (.goto 4, 3, 45, 0, .null, [])]
def kb_R_mostWide_44 : List vx_I := [(.iload_n 1, 1, 1, 0, .null, [])]
def kb_R_mostWide_45 : List vx_I := [(.istore_n 1, 1, 1, 0, .null, []), (.iinc 2 1, 3, 2, 0, .int 1, []), (.goto (-45), 3, 4, 0, .null, [])]
def kb_R_mostWide_52 : List vx_I := [(.aload_n 0, 1, 0, 0, .null, []), (.iconst 0, 1, 0, 0, .int 0, []), (.putfield 167, 3, 7, 28, .int 0, []), (.iload_n 1, 1, 1, 0, .null, []), (.ireturn, 1, 0, 0, .null, [])]
def tb_R_mostWide : List (Nat × List vx_I) := [(0, kb_R_mostWide_0), (4, kb_R_mostWide_4), (44, kb_R_mostWide_44), (45, kb_R_mostWide_45), (52, kb_R_mostWide_52)]
theorem bk_R_mostWide_0 : vx_bk tb_R_mostWide 0 = [(.iconst 0, 1, 0, 0, .int 0, []), (.istore_n 1, 1, 1, 0, .null, []), (.iconst 0, 1, 0, 0, .int 0, []), (.istore_n 2, 1, 2, 0, .null, [])] := rfl
theorem bk_R_mostWide_4 : vx_bk tb_R_mostWide 4 = [(.iload_n 2, 1, 2, 0, .null, []), (.aload_n 0, 1, 0, 0, .null, []), (.getfield 80, 3, 7, 7, .null, []), (.if_icmp .ge 43, 3, 52, 0, .null, []), (.aload_n 0, 1, 0, 0, .null, []), (.iconst 1, 1, 0, 0, .int 1, []), (.iload_n 2, 1, 2, 0, .null, []), (.ishl, 1, 0, 0, .null, []), (.putfield 167, 3, 7, 28, .int 0, []), (.aload_n 0, 1, 0, 0, .null, []), (.bipush 49, 2, 0, 0, .int 49, []), (.invokevirtual 204, 3, 129, 1, .null, [(0, 0), (0, 0), (0, 0), (0, 0), (0, 0), (0, 0), (0, 0)]), (.aload_n 0, 1, 0, 0, .null, []), (.getfield 55, 3, 7, 29, .null, []), (.iconst 0, 1, 0, 0, .int 0, []), (.iaload, 1, 0, 0, .null, []), (.iload_n 1, 1, 1, 0, .null, []), (.if_icmp .le 12, 3, 44, 0, .null, []), (.aload_n 0, 1, 0, 0, .null, []), (.getfield 55, 3, 7, 29, .null, []), (.iconst 0, 1, 0, 0, .int 0, []), (.iaload, 1, 0, 0, .null, []), (.goto 4, 3, 45, 0, .null, [])] := rfl
theorem bk_R_mostWide_44 : vx_bk tb_R_mostWide 44 = [(.iload_n 1, 1, 1, 0, .null, [])] := rfl
theorem bk_R_mostWide_45 : vx_bk tb_R_mostWide 45 = [(.istore_n 1, 1, 1, 0, .null, []), (.iinc 2 1, 3, 2, 0, .int 1, []), (.goto (-45), 3, 4, 0, .null, [])] := rfl
theorem bk_R_mostWide_52 : vx_bk tb_R_mostWide 52 = [(.aload_n 0, 1, 0, 0, .null, []), (.iconst 0, 1, 0, 0, .int 0, []), (.putfield 167, 3, 7, 28, .int 0, []), (.iload_n 1, 1, 1, 0, .null, []), (.ireturn, 1, 0, 0, .null, [])] := rfl
abbrev m_R_mostWide : Nat := 152
set_option maxRecDepth 100000 in
theorem ck_R_mostWide : vx_ckM prog_9_method_52_code 7 3 5 false (some .int) tb_R_mostWide = true := by decide +kernel
theorem ok_R_mostWide {As : List Value} {sz : Nat} {h : vx_H} {P : Option Value → vx_H → Prop} (L0 : vx_L) (hlen : (vx_ar As).length ≤ 3) (hL0 : vx_ar As ++ List.replicate (3 - (vx_ar As).length) none = L0)
    (body : ∀ (lim z : vx_Z) X, vx_cl0 none lim tb_R_mostWide (fun r z' h' => z' = z ∧ P r h') X → X 0 L0 [] z h) : vx_Ok m_R_mostWide As sz h P :=
  vx_ok0 (M := (⟨"VoteWallsModel", "mostWide", "()I"⟩, prog_9_method_52_code, 3, (some .int), 5, 0, 0, 0, 0)) rfl (ow := 7) rfl ck_R_mostWide rfl hlen hL0 body
def kb_R_knocks_0 : List vx_I := [(.aload_n 0, 1, 0, 0, .null, []), (.iload_n 1, 1, 1, 0, .null, []), (.invokevirtual 145, 3, 116, 1, .null, [(0, 0), (0, 0), (0, 0), (0, 0), (0, 0), (0, 0), (0, 0)]), (.ifCond .eq 11, 3, 16, 0, .null, []), (.aload_n 0, 1, 0, 0, .null, []), (.iload_n 3, 1, 3, 0, .null, []), (.invokevirtual 145, 3, 116, 1, .null, [(0, 0), (0, 0), (0, 0), (0, 0), (0, 0), (0, 0), (0, 0)]), (.ifCond .ne 5, 3, 18, 0, .null, [])]
def kb_R_knocks_16 : List vx_I := [(.iconst (-1), 1, 0, 0, .int (-1), []), (.ireturn, 1, 0, 0, .null, [])]
def kb_R_knocks_18 : List vx_I := [(.iload_n 2, 1, 2, 0, .null, []), (.invokestatic 155, 3, 123, 1, .null, []), (.ifCond .ne 6, 3, 28, 0, .null, []), (.bipush (-2), 2, 0, 0, .int (-2), []), (.ireturn, 1, 0, 0, .null, [])]
def kb_R_knocks_28 : List vx_I := [(.aload_n 0, 1, 0, 0, .null, []), (.invokevirtual 194, 3, 130, 0, .null, [(0, 0), (0, 0), (0, 0), (0, 0), (0, 0), (0, 0), (0, 0)]), (.iconst 1, 1, 0, 0, .int 1, []), (.iload_n 1, 1, 1, 0, .null, []), (.ishl, 1, 0, 0, .null, []), (.istore 4, 2, 4, 0, .null, []), (.iconst 0, 1, 0, 0, .int 0, []), (.istore 5, 2, 5, 0, .null, [])]
def kb_R_knocks_40 : List vx_I := [(.iload 5, 2, 5, 0, .null, []), (.bipush 50, 2, 0, 0, .int 50, []), (.if_icmp .ge 53, 3, 97, 0, .null, []), (.aload_n 0, 1, 0, 0, .null, []), (.iload 5, 2, 5, 0, .null, []), (.invokevirtual 197, 3, 131, 1, .null, [(0, 0), (0, 0), (0, 0), (0, 0), (0, 0), (0, 0), (0, 0)]), (.iload 5, 2, 5, 0, .null, []), (.iload_n 2, 1, 2, 0, .null, []), (.if_icmp .ge 8, 3, 64, 0, .null, []), (.iload 4, 2, 4, 0, .null, []), (.goto 9, 3, 70, 0, .null, [])]
def kb_R_knocks_64 : List vx_I := [(.aload_n 0, 1, 0, 0, .null, []), (.iload 4, 2, 4, 0, .null, []), (.invokevirtual 226, 3, 154, 1, .null, [(0, 0), (0, 0), (0, 0), (0, 0), (0, 0), (0, 0), (0, 0)])]
def kb_R_knocks_70 : List vx_I := [(.istore 4, 2, 4, 0, .null, []), (.iload 5, 2, 5, 0, .null, []), (.iload_n 2, 1, 2, 0, .null, []), (.if_icmp .lt 16, 3, 91, 0, .null, []), (.iload 4, 2, 4, 0, .null, []), (.iload_n 3, 1, 3, 0, .null, []), (.ishr, 1, 0, 0, .null, []), (.iconst 1, 1, 0, 0, .int 1, []), (.iand, 1, 0, 0, .null, []), (.iconst 1, 1, 0, 0, .int 1, []), (.if_icmp .ne 6, 3, 91, 0, .null, []), (.iload 5, 2, 5, 0, .null, []), (.ireturn, 1, 0, 0, .null, [])]
def kb_R_knocks_91 : List vx_I := [(.iinc 5 1, 3, 5, 0, .int 1, []), (.goto (-54), 3, 40, 0, .null, [])]
def kb_R_knocks_97 : List vx_I := [(.bipush (-9), 2, 0, 0, .int (-9), []), (.ireturn, 1, 0, 0, .null, [])]
def tb_R_knocks : List (Nat × List vx_I) := [(0, kb_R_knocks_0), (16, kb_R_knocks_16), (18, kb_R_knocks_18), (28, kb_R_knocks_28), (40, kb_R_knocks_40), (64, kb_R_knocks_64), (70, kb_R_knocks_70), (91, kb_R_knocks_91), (97, kb_R_knocks_97)]
theorem bk_R_knocks_0 : vx_bk tb_R_knocks 0 = [(.aload_n 0, 1, 0, 0, .null, []), (.iload_n 1, 1, 1, 0, .null, []), (.invokevirtual 145, 3, 116, 1, .null, [(0, 0), (0, 0), (0, 0), (0, 0), (0, 0), (0, 0), (0, 0)]), (.ifCond .eq 11, 3, 16, 0, .null, []), (.aload_n 0, 1, 0, 0, .null, []), (.iload_n 3, 1, 3, 0, .null, []), (.invokevirtual 145, 3, 116, 1, .null, [(0, 0), (0, 0), (0, 0), (0, 0), (0, 0), (0, 0), (0, 0)]), (.ifCond .ne 5, 3, 18, 0, .null, [])] := rfl
theorem bk_R_knocks_16 : vx_bk tb_R_knocks 16 = [(.iconst (-1), 1, 0, 0, .int (-1), []), (.ireturn, 1, 0, 0, .null, [])] := rfl
theorem bk_R_knocks_18 : vx_bk tb_R_knocks 18 = [(.iload_n 2, 1, 2, 0, .null, []), (.invokestatic 155, 3, 123, 1, .null, []), (.ifCond .ne 6, 3, 28, 0, .null, []), (.bipush (-2), 2, 0, 0, .int (-2), []), (.ireturn, 1, 0, 0, .null, [])] := rfl
theorem bk_R_knocks_28 : vx_bk tb_R_knocks 28 = [(.aload_n 0, 1, 0, 0, .null, []), (.invokevirtual 194, 3, 130, 0, .null, [(0, 0), (0, 0), (0, 0), (0, 0), (0, 0), (0, 0), (0, 0)]), (.iconst 1, 1, 0, 0, .int 1, []), (.iload_n 1, 1, 1, 0, .null, []), (.ishl, 1, 0, 0, .null, []), (.istore 4, 2, 4, 0, .null, []), (.iconst 0, 1, 0, 0, .int 0, []), (.istore 5, 2, 5, 0, .null, [])] := rfl
theorem bk_R_knocks_40 : vx_bk tb_R_knocks 40 = [(.iload 5, 2, 5, 0, .null, []), (.bipush 50, 2, 0, 0, .int 50, []), (.if_icmp .ge 53, 3, 97, 0, .null, []), (.aload_n 0, 1, 0, 0, .null, []), (.iload 5, 2, 5, 0, .null, []), (.invokevirtual 197, 3, 131, 1, .null, [(0, 0), (0, 0), (0, 0), (0, 0), (0, 0), (0, 0), (0, 0)]), (.iload 5, 2, 5, 0, .null, []), (.iload_n 2, 1, 2, 0, .null, []), (.if_icmp .ge 8, 3, 64, 0, .null, []), (.iload 4, 2, 4, 0, .null, []), (.goto 9, 3, 70, 0, .null, [])] := rfl
theorem bk_R_knocks_64 : vx_bk tb_R_knocks 64 = [(.aload_n 0, 1, 0, 0, .null, []), (.iload 4, 2, 4, 0, .null, []), (.invokevirtual 226, 3, 154, 1, .null, [(0, 0), (0, 0), (0, 0), (0, 0), (0, 0), (0, 0), (0, 0)])] := rfl
theorem bk_R_knocks_70 : vx_bk tb_R_knocks 70 = [(.istore 4, 2, 4, 0, .null, []), (.iload 5, 2, 5, 0, .null, []), (.iload_n 2, 1, 2, 0, .null, []), (.if_icmp .lt 16, 3, 91, 0, .null, []), (.iload 4, 2, 4, 0, .null, []), (.iload_n 3, 1, 3, 0, .null, []), (.ishr, 1, 0, 0, .null, []), (.iconst 1, 1, 0, 0, .int 1, []), (.iand, 1, 0, 0, .null, []), (.iconst 1, 1, 0, 0, .int 1, []), (.if_icmp .ne 6, 3, 91, 0, .null, []), (.iload 5, 2, 5, 0, .null, []), (.ireturn, 1, 0, 0, .null, [])] := rfl
theorem bk_R_knocks_91 : vx_bk tb_R_knocks 91 = [(.iinc 5 1, 3, 5, 0, .int 1, []), (.goto (-54), 3, 40, 0, .null, [])] := rfl
theorem bk_R_knocks_97 : vx_bk tb_R_knocks 97 = [(.bipush (-9), 2, 0, 0, .int (-9), []), (.ireturn, 1, 0, 0, .null, [])] := rfl
abbrev m_R_knocks : Nat := 153
set_option maxRecDepth 100000 in
theorem ck_R_knocks : vx_ckM prog_9_method_55_code 7 6 4 false (some .int) tb_R_knocks = true := by decide +kernel
theorem ok_R_knocks {As : List Value} {sz : Nat} {h : vx_H} {P : Option Value → vx_H → Prop} (L0 : vx_L) (hlen : (vx_ar As).length ≤ 6) (hL0 : vx_ar As ++ List.replicate (6 - (vx_ar As).length) none = L0)
    (body : ∀ (lim z : vx_Z) X, vx_cl0 none lim tb_R_knocks (fun r z' h' => z' = z ∧ P r h') X → X 0 L0 [] z h) : vx_Ok m_R_knocks As sz h P :=
  vx_ok0 (M := (⟨"VoteWallsModel", "knocks", "(III)I"⟩, prog_9_method_55_code, 6, (some .int), 4, 0, 0, 3, 0)) rfl (ow := 7) rfl ck_R_knocks rfl hlen hL0 body
def kb_R_spread_0 : List vx_I := [(.iload_n 1, 1, 1, 0, .null, []), (.istore_n 2, 1, 2, 0, .null, []), (.iconst 0, 1, 0, 0, .int 0, []), (.istore_n 3, 1, 3, 0, .null, [])]
def kb_R_spread_4 : List vx_I := [(.iload_n 3, 1, 3, 0, .null, []), (.aload_n 0, 1, 0, 0, .null, []), (.getfield 80, 3, 7, 7, .null, []), (.if_icmp .ge 63, 3, 72, 0, .null, []), (.iconst 0, 1, 0, 0, .int 0, []), (.istore 4, 2, 4, 0, .null, [])]
def kb_R_spread_15 : List vx_I := [(.iload 4, 2, 4, 0, .null, []), (.aload_n 0, 1, 0, 0, .null, []), (.getfield 80, 3, 7, 7, .null, []), (.if_icmp .ge 45, 3, 66, 0, .null, []), (.iload_n 1, 1, 1, 0, .null, []), (.iload 4, 2, 4, 0, .null, []), (.ishr, 1, 0, 0, .null, []), (.iconst 1, 1, 0, 0, .int 1, []), (.iand, 1, 0, 0, .null, []), (.iconst 1, 1, 0, 0, .int 1, []), (.if_icmp .ne 29, 3, 60, 0, .null, []), (.aload_n 0, 1, 0, 0, .null, []), (.iload_n 3, 1, 3, 0, .null, []), (.invokevirtual 170, 3, 136, 1, .null, [(0, 0), (0, 0), (0, 0), (0, 0), (0, 0), (0, 0), (0, 0)]), (.aload_n 0, 1, 0, 0, .null, []), (.iload 4, 2, 4, 0, .null, []), (.invokevirtual 170, 3, 136, 1, .null, [(0, 0), (0, 0), (0, 0), (0, 0), (0, 0), (0, 0), (0, 0)]), (.isub, 1, 0, 0, .null, []), (.iconst (-1), 1, 0, 0, .int (-1), []), (.iconst 1, 1, 0, 0, .int 1, []), (.invokestatic 73, 3, 105, 3, .null, []), (.ifCond .eq 9, 3, 60, 0, .null, []), (.iload_n 2, 1, 2, 0, .null, []), (.iconst 1, 1, 0, 0, .int 1, []), (.iload_n 3, 1, 3, 0, .null, []), (.ishl, 1, 0, 0, .null, []), (.ior, 1, 0, 0, .null, []), (.istore_n 2, 1, 2, 0, .null, [])]
def kb_R_spread_60 : List vx_I := [(.iinc 4 1, 3, 4, 0, .int 1, []), (.goto (-48), 3, 15, 0, .null, [])]
def kb_R_spread_66 : List vx_I := [(.iinc 3 1, 3, 3, 0, .int 1, []), (.goto (-65), 3, 4, 0, .null, [])]
def kb_R_spread_72 : List vx_I := [(.iload_n 2, 1, 2, 0, .null, []), (.ireturn, 1, 0, 0, .null, [])]
def tb_R_spread : List (Nat × List vx_I) := [(0, kb_R_spread_0), (4, kb_R_spread_4), (15, kb_R_spread_15), (60, kb_R_spread_60), (66, kb_R_spread_66), (72, kb_R_spread_72)]
theorem bk_R_spread_0 : vx_bk tb_R_spread 0 = [(.iload_n 1, 1, 1, 0, .null, []), (.istore_n 2, 1, 2, 0, .null, []), (.iconst 0, 1, 0, 0, .int 0, []), (.istore_n 3, 1, 3, 0, .null, [])] := rfl
theorem bk_R_spread_4 : vx_bk tb_R_spread 4 = [(.iload_n 3, 1, 3, 0, .null, []), (.aload_n 0, 1, 0, 0, .null, []), (.getfield 80, 3, 7, 7, .null, []), (.if_icmp .ge 63, 3, 72, 0, .null, []), (.iconst 0, 1, 0, 0, .int 0, []), (.istore 4, 2, 4, 0, .null, [])] := rfl
theorem bk_R_spread_15 : vx_bk tb_R_spread 15 = [(.iload 4, 2, 4, 0, .null, []), (.aload_n 0, 1, 0, 0, .null, []), (.getfield 80, 3, 7, 7, .null, []), (.if_icmp .ge 45, 3, 66, 0, .null, []), (.iload_n 1, 1, 1, 0, .null, []), (.iload 4, 2, 4, 0, .null, []), (.ishr, 1, 0, 0, .null, []), (.iconst 1, 1, 0, 0, .int 1, []), (.iand, 1, 0, 0, .null, []), (.iconst 1, 1, 0, 0, .int 1, []), (.if_icmp .ne 29, 3, 60, 0, .null, []), (.aload_n 0, 1, 0, 0, .null, []), (.iload_n 3, 1, 3, 0, .null, []), (.invokevirtual 170, 3, 136, 1, .null, [(0, 0), (0, 0), (0, 0), (0, 0), (0, 0), (0, 0), (0, 0)]), (.aload_n 0, 1, 0, 0, .null, []), (.iload 4, 2, 4, 0, .null, []), (.invokevirtual 170, 3, 136, 1, .null, [(0, 0), (0, 0), (0, 0), (0, 0), (0, 0), (0, 0), (0, 0)]), (.isub, 1, 0, 0, .null, []), (.iconst (-1), 1, 0, 0, .int (-1), []), (.iconst 1, 1, 0, 0, .int 1, []), (.invokestatic 73, 3, 105, 3, .null, []), (.ifCond .eq 9, 3, 60, 0, .null, []), (.iload_n 2, 1, 2, 0, .null, []), (.iconst 1, 1, 0, 0, .int 1, []), (.iload_n 3, 1, 3, 0, .null, []), (.ishl, 1, 0, 0, .null, []), (.ior, 1, 0, 0, .null, []), (.istore_n 2, 1, 2, 0, .null, [])] := rfl
theorem bk_R_spread_60 : vx_bk tb_R_spread 60 = [(.iinc 4 1, 3, 4, 0, .int 1, []), (.goto (-48), 3, 15, 0, .null, [])] := rfl
theorem bk_R_spread_66 : vx_bk tb_R_spread 66 = [(.iinc 3 1, 3, 3, 0, .int 1, []), (.goto (-65), 3, 4, 0, .null, [])] := rfl
theorem bk_R_spread_72 : vx_bk tb_R_spread 72 = [(.iload_n 2, 1, 2, 0, .null, []), (.ireturn, 1, 0, 0, .null, [])] := rfl
abbrev m_R_spread : Nat := 154
set_option maxRecDepth 100000 in
theorem ck_R_spread : vx_ckM prog_9_method_54_code 7 5 1 false (some .int) tb_R_spread = true := by decide +kernel
theorem ok_R_spread {As : List Value} {sz : Nat} {h : vx_H} {P : Option Value → vx_H → Prop} (L0 : vx_L) (hlen : (vx_ar As).length ≤ 5) (hL0 : vx_ar As ++ List.replicate (5 - (vx_ar As).length) none = L0)
    (body : ∀ (lim z : vx_Z) X, vx_cl0 none lim tb_R_spread (fun r z' h' => z' = z ∧ P r h') X → X 0 L0 [] z h) : vx_Ok m_R_spread As sz h P :=
  vx_ok0 (M := (⟨"VoteWallsModel", "spread", "(I)I"⟩, prog_9_method_54_code, 5, (some .int), 1, 0, 0, 1, 0)) rfl (ow := 7) rfl ck_R_spread rfl hlen hL0 body
def kb_R_walk_0 : List vx_I := [(.aload_n 0, 1, 0, 0, .null, []), (.iconst 0, 1, 0, 0, .int 0, []), (.putfield 67, 3, 7, 0, .int 0, []), (.iload_n 1, 1, 1, 0, .null, []), (.invokestatic 90, 3, 104, 1, .null, []), (.ifCond .ne 5, 3, 14, 0, .null, []), (.iconst (-1), 1, 0, 0, .int (-1), []), (.ireturn, 1, 0, 0, .null, [])]
def kb_R_walk_14 : List vx_I := [(.iload_n 2, 1, 2, 0, .null, []), (.invokestatic 94, 3, 106, 1, .null, []), (.ifCond .ne 6, 3, 24, 0, .null, []), (.bipush (-2), 2, 0, 0, .int (-2), []), (.ireturn, 1, 0, 0, .null, [])]
def kb_R_walk_24 : List vx_I := [(.aload_n 0, 1, 0, 0, .null, []), (.iload_n 1, 1, 1, 0, .null, []), (.iload_n 2, 1, 2, 0, .null, []), (.iload_n 3, 1, 3, 0, .null, []), (.iload 4, 2, 4, 0, .null, []), (.invokevirtual 97, 3, 107, 4, .null, [(0, 0), (0, 0), (0, 0), (0, 0), (0, 0), (0, 0), (0, 0)]), (.istore 5, 2, 5, 0, .null, []), (.iload 5, 2, 5, 0, .null, []), (.ifCond .eq 10, 3, 47, 0, .null, []), (.aload_n 0, 1, 0, 0, .null, []), (.iload 5, 2, 5, 0, .null, []), (.invokevirtual 101, 3, 108, 1, .null, [(0, 0), (0, 0), (0, 0), (0, 0), (0, 0), (0, 0), (0, 0)]), (.ireturn, 1, 0, 0, .null, [])]
def kb_R_walk_47 : List vx_I := [(.aload_n 0, 1, 0, 0, .null, []), (.invokevirtual 151, 3, 119, 0, .null, [(0, 0), (0, 0), (0, 0), (0, 0), (0, 0), (0, 0), (0, 0)]), (.ifCond .ne 6, 3, 57, 0, .null, []), (.bipush (-3), 2, 0, 0, .int (-3), []), (.ireturn, 1, 0, 0, .null, [])]
def kb_R_walk_57 : List vx_I := [(.iload 4, 2, 4, 0, .null, []), (.bipush 50, 2, 0, 0, .int 50, []), (.if_icmp .le 6, 3, 67, 0, .null, []), (.bipush (-2), 2, 0, 0, .int (-2), []), (.ireturn, 1, 0, 0, .null, [])]
def kb_R_walk_67 : List vx_I := [(.bipush 60, 2, 0, 0, .int 60, []), (.iload_n 1, 1, 1, 0, .null, []), (.imul, 1, 0, 0, .null, []), (.iload_n 3, 1, 3, 0, .null, []), (.iadd, 1, 0, 0, .null, []), (.istore 6, 2, 6, 0, .null, []), (.iconst 0, 1, 0, 0, .int 0, []), (.istore 7, 2, 7, 0, .null, [])]
def kb_R_walk_78 : List vx_I := [(.iload 7, 2, 7, 0, .null, []), (.iload 4, 2, 4, 0, .null, []), (.if_icmp .ge 28, 3, 110, 0, .null, []), (.aload_n 0, 1, 0, 0, .null, []), (.aload_n 0, 1, 0, 0, .null, []), (.getfield 16, 3, 7, 4, .null, []), (.iload 6, 2, 6, 0, .null, []), (.iload 7, 2, 7, 0, .null, []), (.iadd, 1, 0, 0, .null, []), (.iaload, 1, 0, 0, .null, []), (.invokevirtual 207, 3, 140, 1, .null, [(0, 0), (0, 0), (0, 0), (0, 0), (0, 0), (0, 0), (0, 0)]), (.ifCond .ne 5, 3, 104, 0, .null, []), (.iconst (-1), 1, 0, 0, .int (-1), []), (.ireturn, 1, 0, 0, .null, [])]
def kb_R_walk_104 : List vx_I := [(.iinc 7 1, 3, 7, 0, .int 1, []), (.goto (-29), 3, 78, 0, .null, [])]
def kb_R_walk_110 : List vx_I := [(.aload_n 0, 1, 0, 0, .null, []), (.iload 6, 2, 6, 0, .null, []), (.iload 4, 2, 4, 0, .null, []), (.invokevirtual 229, 3, 156, 2, .null, [(0, 0), (0, 0), (0, 0), (0, 0), (0, 0), (0, 0), (0, 0)]), (.ireturn, 1, 0, 0, .null, [])]
def tb_R_walk : List (Nat × List vx_I) := [(0, kb_R_walk_0), (14, kb_R_walk_14), (24, kb_R_walk_24), (47, kb_R_walk_47), (57, kb_R_walk_57), (67, kb_R_walk_67), (78, kb_R_walk_78), (104, kb_R_walk_104), (110, kb_R_walk_110)]
theorem bk_R_walk_0 : vx_bk tb_R_walk 0 = [(.aload_n 0, 1, 0, 0, .null, []), (.iconst 0, 1, 0, 0, .int 0, []), (.putfield 67, 3, 7, 0, .int 0, []), (.iload_n 1, 1, 1, 0, .null, []), (.invokestatic 90, 3, 104, 1, .null, []), (.ifCond .ne 5, 3, 14, 0, .null, []), (.iconst (-1), 1, 0, 0, .int (-1), []), (.ireturn, 1, 0, 0, .null, [])] := rfl
theorem bk_R_walk_14 : vx_bk tb_R_walk 14 = [(.iload_n 2, 1, 2, 0, .null, []), (.invokestatic 94, 3, 106, 1, .null, []), (.ifCond .ne 6, 3, 24, 0, .null, []), (.bipush (-2), 2, 0, 0, .int (-2), []), (.ireturn, 1, 0, 0, .null, [])] := rfl
theorem bk_R_walk_24 : vx_bk tb_R_walk 24 = [(.aload_n 0, 1, 0, 0, .null, []), (.iload_n 1, 1, 1, 0, .null, []), (.iload_n 2, 1, 2, 0, .null, []), (.iload_n 3, 1, 3, 0, .null, []), (.iload 4, 2, 4, 0, .null, []), (.invokevirtual 97, 3, 107, 4, .null, [(0, 0), (0, 0), (0, 0), (0, 0), (0, 0), (0, 0), (0, 0)]), (.istore 5, 2, 5, 0, .null, []), (.iload 5, 2, 5, 0, .null, []), (.ifCond .eq 10, 3, 47, 0, .null, []), (.aload_n 0, 1, 0, 0, .null, []), (.iload 5, 2, 5, 0, .null, []), (.invokevirtual 101, 3, 108, 1, .null, [(0, 0), (0, 0), (0, 0), (0, 0), (0, 0), (0, 0), (0, 0)]), (.ireturn, 1, 0, 0, .null, [])] := rfl
theorem bk_R_walk_47 : vx_bk tb_R_walk 47 = [(.aload_n 0, 1, 0, 0, .null, []), (.invokevirtual 151, 3, 119, 0, .null, [(0, 0), (0, 0), (0, 0), (0, 0), (0, 0), (0, 0), (0, 0)]), (.ifCond .ne 6, 3, 57, 0, .null, []), (.bipush (-3), 2, 0, 0, .int (-3), []), (.ireturn, 1, 0, 0, .null, [])] := rfl
theorem bk_R_walk_57 : vx_bk tb_R_walk 57 = [(.iload 4, 2, 4, 0, .null, []), (.bipush 50, 2, 0, 0, .int 50, []), (.if_icmp .le 6, 3, 67, 0, .null, []), (.bipush (-2), 2, 0, 0, .int (-2), []), (.ireturn, 1, 0, 0, .null, [])] := rfl
theorem bk_R_walk_67 : vx_bk tb_R_walk 67 = [(.bipush 60, 2, 0, 0, .int 60, []), (.iload_n 1, 1, 1, 0, .null, []), (.imul, 1, 0, 0, .null, []), (.iload_n 3, 1, 3, 0, .null, []), (.iadd, 1, 0, 0, .null, []), (.istore 6, 2, 6, 0, .null, []), (.iconst 0, 1, 0, 0, .int 0, []), (.istore 7, 2, 7, 0, .null, [])] := rfl
theorem bk_R_walk_78 : vx_bk tb_R_walk 78 = [(.iload 7, 2, 7, 0, .null, []), (.iload 4, 2, 4, 0, .null, []), (.if_icmp .ge 28, 3, 110, 0, .null, []), (.aload_n 0, 1, 0, 0, .null, []), (.aload_n 0, 1, 0, 0, .null, []), (.getfield 16, 3, 7, 4, .null, []), (.iload 6, 2, 6, 0, .null, []), (.iload 7, 2, 7, 0, .null, []), (.iadd, 1, 0, 0, .null, []), (.iaload, 1, 0, 0, .null, []), (.invokevirtual 207, 3, 140, 1, .null, [(0, 0), (0, 0), (0, 0), (0, 0), (0, 0), (0, 0), (0, 0)]), (.ifCond .ne 5, 3, 104, 0, .null, []), (.iconst (-1), 1, 0, 0, .int (-1), []), (.ireturn, 1, 0, 0, .null, [])] := rfl
theorem bk_R_walk_104 : vx_bk tb_R_walk 104 = [(.iinc 7 1, 3, 7, 0, .int 1, []), (.goto (-29), 3, 78, 0, .null, [])] := rfl
theorem bk_R_walk_110 : vx_bk tb_R_walk 110 = [(.aload_n 0, 1, 0, 0, .null, []), (.iload 6, 2, 6, 0, .null, []), (.iload 4, 2, 4, 0, .null, []), (.invokevirtual 229, 3, 156, 2, .null, [(0, 0), (0, 0), (0, 0), (0, 0), (0, 0), (0, 0), (0, 0)]), (.ireturn, 1, 0, 0, .null, [])] := rfl
abbrev m_R_walk : Nat := 155
set_option maxRecDepth 100000 in
theorem ck_R_walk : vx_ckM prog_9_method_56_code 7 8 5 false (some .int) tb_R_walk = true := by decide +kernel
theorem ok_R_walk {As : List Value} {sz : Nat} {h : vx_H} {P : Option Value → vx_H → Prop} (L0 : vx_L) (hlen : (vx_ar As).length ≤ 8) (hL0 : vx_ar As ++ List.replicate (8 - (vx_ar As).length) none = L0)
    (body : ∀ (lim z : vx_Z) X, vx_cl0 none lim tb_R_walk (fun r z' h' => z' = z ∧ P r h') X → X 0 L0 [] z h) : vx_Ok m_R_walk As sz h P :=
  vx_ok0 (M := (⟨"VoteWallsModel", "walk", "(IIII)I"⟩, prog_9_method_56_code, 8, (some .int), 5, 0, 0, 4, 0)) rfl (ow := 7) rfl ck_R_walk rfl hlen hL0 body
def kb_R_walked_0 : List vx_I := [(.aload_n 0, 1, 0, 0, .null, []), (.invokevirtual 194, 3, 130, 0, .null, [(0, 0), (0, 0), (0, 0), (0, 0), (0, 0), (0, 0), (0, 0)]), (.iconst 0, 1, 0, 0, .int 0, []), (.istore_n 3, 1, 3, 0, .null, [])]
def kb_R_walked_6 : List vx_I := [(.iload_n 3, 1, 3, 0, .null, []), (.iload_n 2, 1, 2, 0, .null, []), (.if_icmp .ge 78, 3, 86, 0, .null, []), (.aload_n 0, 1, 0, 0, .null, []), (.iload_n 3, 1, 3, 0, .null, []), (.invokevirtual 197, 3, 131, 1, .null, [(0, 0), (0, 0), (0, 0), (0, 0), (0, 0), (0, 0), (0, 0)]), (.aload_n 0, 1, 0, 0, .null, []), (.getfield 16, 3, 7, 4, .null, []), (.iload_n 1, 1, 1, 0, .null, []), (.iload_n 3, 1, 3, 0, .null, []), (.iadd, 1, 0, 0, .null, []), (.iaload, 1, 0, 0, .null, []), (.istore 4, 2, 4, 0, .null, []), (.iload_n 3, 1, 3, 0, .null, []), (.ifCond .ne 16, 3, 43, 0, .null, []), (.iload 4, 2, 4, 0, .null, []), (.ifCond .ne 7, 3, 39, 0, .null, []), (.iconst 1, 1, 0, 0, .int 1, []), (.goto 25, 3, 61, 0, .null, [])]
def kb_R_walked_39 : List vx_I := [(.iconst 0, 1, 0, 0, .int 0, []), (.goto 21, 3, 61, 0, .null, [])]
def kb_R_walked_43 : List vx_I := [(.iload 4, 2, 4, 0, .null, []), (.aload_n 0, 1, 0, 0, .null, []), (.getfield 16, 3, 7, 4, .null, []), (.iload_n 1, 1, 1, 0, .null, []), (.iload_n 3, 1, 3, 0, .null, []), (.iadd, 1, 0, 0, .null, []), (.iconst 1, 1, 0, 0, .int 1, []), (.isub, 1, 0, 0, .null, []), (.iaload, 1, 0, 0, .null, []), (.isub, 1, 0, 0, .null, []), (.iconst (-1), 1, 0, 0, .int (-1), []), (.iconst 1, 1, 0, 0, .int 1, []), (.invokestatic 73, 3, 105, 3, .null, [])]
def kb_R_walked_61 : List vx_I := [(.istore 5, 2, 5, 0, .null, []), (.iload 5, 2, 5, 0, .null, []), (.ifCond .eq 13, 3, 78, 0, .null, []), (.aload_n 0, 1, 0, 0, .null, []), (.iload 4, 2, 4, 0, .null, []), (.invokevirtual 210, 3, 141, 1, .null, [(0, 0), (0, 0), (0, 0), (0, 0), (0, 0), (0, 0), (0, 0)]), (.iconst 2, 1, 0, 0, .int 2, []), (.if_icmp .ge 5, 3, 80, 0, .null, [])]
def kb_R_walked_78 : List vx_I := [(.iload_n 3, 1, 3, 0, .null, []), (.ireturn, 1, 0, 0, .null, [])]
def kb_R_walked_80 : List vx_I := [(.iinc 3 1, 3, 3, 0, .int 1, []), (.goto (-77), 3, 6, 0, .null, [])]
def kb_R_walked_86 : List vx_I := [(.iload_n 2, 1, 2, 0, .null, []), (.ireturn, 1, 0, 0, .null, [])]
def tb_R_walked : List (Nat × List vx_I) := [(0, kb_R_walked_0), (6, kb_R_walked_6), (39, kb_R_walked_39), (43, kb_R_walked_43), (61, kb_R_walked_61), (78, kb_R_walked_78), (80, kb_R_walked_80), (86, kb_R_walked_86)]
theorem bk_R_walked_0 : vx_bk tb_R_walked 0 = [(.aload_n 0, 1, 0, 0, .null, []), (.invokevirtual 194, 3, 130, 0, .null, [(0, 0), (0, 0), (0, 0), (0, 0), (0, 0), (0, 0), (0, 0)]), (.iconst 0, 1, 0, 0, .int 0, []), (.istore_n 3, 1, 3, 0, .null, [])] := rfl
theorem bk_R_walked_6 : vx_bk tb_R_walked 6 = [(.iload_n 3, 1, 3, 0, .null, []), (.iload_n 2, 1, 2, 0, .null, []), (.if_icmp .ge 78, 3, 86, 0, .null, []), (.aload_n 0, 1, 0, 0, .null, []), (.iload_n 3, 1, 3, 0, .null, []), (.invokevirtual 197, 3, 131, 1, .null, [(0, 0), (0, 0), (0, 0), (0, 0), (0, 0), (0, 0), (0, 0)]), (.aload_n 0, 1, 0, 0, .null, []), (.getfield 16, 3, 7, 4, .null, []), (.iload_n 1, 1, 1, 0, .null, []), (.iload_n 3, 1, 3, 0, .null, []), (.iadd, 1, 0, 0, .null, []), (.iaload, 1, 0, 0, .null, []), (.istore 4, 2, 4, 0, .null, []), (.iload_n 3, 1, 3, 0, .null, []), (.ifCond .ne 16, 3, 43, 0, .null, []), (.iload 4, 2, 4, 0, .null, []), (.ifCond .ne 7, 3, 39, 0, .null, []), (.iconst 1, 1, 0, 0, .int 1, []), (.goto 25, 3, 61, 0, .null, [])] := rfl
theorem bk_R_walked_39 : vx_bk tb_R_walked 39 = [(.iconst 0, 1, 0, 0, .int 0, []), (.goto 21, 3, 61, 0, .null, [])] := rfl
theorem bk_R_walked_43 : vx_bk tb_R_walked 43 = [(.iload 4, 2, 4, 0, .null, []), (.aload_n 0, 1, 0, 0, .null, []), (.getfield 16, 3, 7, 4, .null, []), (.iload_n 1, 1, 1, 0, .null, []), (.iload_n 3, 1, 3, 0, .null, []), (.iadd, 1, 0, 0, .null, []), (.iconst 1, 1, 0, 0, .int 1, []), (.isub, 1, 0, 0, .null, []), (.iaload, 1, 0, 0, .null, []), (.isub, 1, 0, 0, .null, []), (.iconst (-1), 1, 0, 0, .int (-1), []), (.iconst 1, 1, 0, 0, .int 1, []), (.invokestatic 73, 3, 105, 3, .null, [])] := rfl
theorem bk_R_walked_61 : vx_bk tb_R_walked 61 = [(.istore 5, 2, 5, 0, .null, []), (.iload 5, 2, 5, 0, .null, []), (.ifCond .eq 13, 3, 78, 0, .null, []), (.aload_n 0, 1, 0, 0, .null, []), (.iload 4, 2, 4, 0, .null, []), (.invokevirtual 210, 3, 141, 1, .null, [(0, 0), (0, 0), (0, 0), (0, 0), (0, 0), (0, 0), (0, 0)]), (.iconst 2, 1, 0, 0, .int 2, []), (.if_icmp .ge 5, 3, 80, 0, .null, [])] := rfl
theorem bk_R_walked_78 : vx_bk tb_R_walked 78 = [(.iload_n 3, 1, 3, 0, .null, []), (.ireturn, 1, 0, 0, .null, [])] := rfl
theorem bk_R_walked_80 : vx_bk tb_R_walked 80 = [(.iinc 3 1, 3, 3, 0, .int 1, []), (.goto (-77), 3, 6, 0, .null, [])] := rfl
theorem bk_R_walked_86 : vx_bk tb_R_walked 86 = [(.iload_n 2, 1, 2, 0, .null, []), (.ireturn, 1, 0, 0, .null, [])] := rfl
abbrev m_R_walked : Nat := 156
set_option maxRecDepth 100000 in
theorem ck_R_walked : vx_ckM prog_9_method_57_code 7 6 4 false (some .int) tb_R_walked = true := by decide +kernel
theorem ok_R_walked {As : List Value} {sz : Nat} {h : vx_H} {P : Option Value → vx_H → Prop} (L0 : vx_L) (hlen : (vx_ar As).length ≤ 6) (hL0 : vx_ar As ++ List.replicate (6 - (vx_ar As).length) none = L0)
    (body : ∀ (lim z : vx_Z) X, vx_cl0 none lim tb_R_walked (fun r z' h' => z' = z ∧ P r h') X → X 0 L0 [] z h) : vx_Ok m_R_walked As sz h P :=
  vx_ok0 (M := (⟨"VoteWallsModel", "walked", "(II)I"⟩, prog_9_method_57_code, 6, (some .int), 4, 0, 0, 2, 0)) rfl (ow := 7) rfl ck_R_walked rfl hlen hL0 body
def kb_R_reading_0 : List vx_I := [(.aload_n 0, 1, 0, 0, .null, []), (.iload_n 1, 1, 1, 0, .null, []), (.invokevirtual 158, 3, 121, 1, .null, [(0, 0), (0, 0), (0, 0), (0, 0), (0, 0), (0, 0), (0, 0)]), (.ifCond .ne 5, 3, 10, 0, .null, []), (.iconst (-1), 1, 0, 0, .int (-1), []), (.ireturn, 1, 0, 0, .null, [])]
def kb_R_reading_10 : List vx_I := [(.iload_n 2, 1, 2, 0, .null, []), (.invokestatic 155, 3, 123, 1, .null, []), (.ifCond .eq 13, 3, 27, 0, .null, []), (.iload_n 3, 1, 3, 0, .null, []), (.iconst 0, 1, 0, 0, .int 0, []), (.bipush 30, 2, 0, 0, .int 30, []), (.invokestatic 73, 3, 105, 3, .null, []), (.ifCond .ne 6, 3, 30, 0, .null, [])]
def kb_R_reading_27 : List vx_I := [(.bipush (-2), 2, 0, 0, .int (-2), []), (.ireturn, 1, 0, 0, .null, [])]
def kb_R_reading_30 : List vx_I := [(.aload_n 0, 1, 0, 0, .null, []), (.getfield 129, 3, 7, 31, .null, []), (.bipush 8, 2, 0, 0, .int 8, []), (.if_icmp .ne 6, 3, 42, 0, .null, []), (.bipush (-4), 2, 0, 0, .int (-4), []), (.ireturn, 1, 0, 0, .null, [])]
def kb_R_reading_42 : List vx_I := [(.aload_n 0, 1, 0, 0, .null, []), (.getfield 58, 3, 7, 32, .null, []), (.aload_n 0, 1, 0, 0, .null, []), (.getfield 129, 3, 7, 31, .null, []), (.iload_n 1, 1, 1, 0, .null, []), (.iastore, 1, 0, 0, .null, []), (.aload_n 0, 1, 0, 0, .null, []), (.getfield 61, 3, 7, 33, .null, []), (.aload_n 0, 1, 0, 0, .null, []), (.getfield 129, 3, 7, 31, .null, []), (.iload_n 2, 1, 2, 0, .null, []), (.iastore, 1, 0, 0, .null, []), (.aload_n 0, 1, 0, 0, .null, []), (.getfield 64, 3, 7, 34, .null, []), (.aload_n 0, 1, 0, 0, .null, []), (.getfield 129, 3, 7, 31, .null, []), (.iload_n 3, 1, 3, 0, .null, []), (.iastore, 1, 0, 0, .null, []), (.aload_n 0, 1, 0, 0, .null, []), (.dup, 1, 0, 0, .null, []), (.getfield 129, 3, 7, 31, .null, []), (.iconst 1, 1, 0, 0, .int 1, []), (.iadd, 1, 0, 0, .null, []), (.putfield 129, 3, 7, 31, .int 0, []), (.aload_n 0, 1, 0, 0, .null, []), (.getfield 129, 3, 7, 31, .null, []), (.iconst 1, 1, 0, 0, .int 1, []), (.isub, 1, 0, 0, .null, []), (.ireturn, 1, 0, 0, .null, [])]
def tb_R_reading : List (Nat × List vx_I) := [(0, kb_R_reading_0), (10, kb_R_reading_10), (27, kb_R_reading_27), (30, kb_R_reading_30), (42, kb_R_reading_42)]
theorem bk_R_reading_0 : vx_bk tb_R_reading 0 = [(.aload_n 0, 1, 0, 0, .null, []), (.iload_n 1, 1, 1, 0, .null, []), (.invokevirtual 158, 3, 121, 1, .null, [(0, 0), (0, 0), (0, 0), (0, 0), (0, 0), (0, 0), (0, 0)]), (.ifCond .ne 5, 3, 10, 0, .null, []), (.iconst (-1), 1, 0, 0, .int (-1), []), (.ireturn, 1, 0, 0, .null, [])] := rfl
theorem bk_R_reading_10 : vx_bk tb_R_reading 10 = [(.iload_n 2, 1, 2, 0, .null, []), (.invokestatic 155, 3, 123, 1, .null, []), (.ifCond .eq 13, 3, 27, 0, .null, []), (.iload_n 3, 1, 3, 0, .null, []), (.iconst 0, 1, 0, 0, .int 0, []), (.bipush 30, 2, 0, 0, .int 30, []), (.invokestatic 73, 3, 105, 3, .null, []), (.ifCond .ne 6, 3, 30, 0, .null, [])] := rfl
theorem bk_R_reading_27 : vx_bk tb_R_reading 27 = [(.bipush (-2), 2, 0, 0, .int (-2), []), (.ireturn, 1, 0, 0, .null, [])] := rfl
theorem bk_R_reading_30 : vx_bk tb_R_reading 30 = [(.aload_n 0, 1, 0, 0, .null, []), (.getfield 129, 3, 7, 31, .null, []), (.bipush 8, 2, 0, 0, .int 8, []), (.if_icmp .ne 6, 3, 42, 0, .null, []), (.bipush (-4), 2, 0, 0, .int (-4), []), (.ireturn, 1, 0, 0, .null, [])] := rfl
theorem bk_R_reading_42 : vx_bk tb_R_reading 42 = [(.aload_n 0, 1, 0, 0, .null, []), (.getfield 58, 3, 7, 32, .null, []), (.aload_n 0, 1, 0, 0, .null, []), (.getfield 129, 3, 7, 31, .null, []), (.iload_n 1, 1, 1, 0, .null, []), (.iastore, 1, 0, 0, .null, []), (.aload_n 0, 1, 0, 0, .null, []), (.getfield 61, 3, 7, 33, .null, []), (.aload_n 0, 1, 0, 0, .null, []), (.getfield 129, 3, 7, 31, .null, []), (.iload_n 2, 1, 2, 0, .null, []), (.iastore, 1, 0, 0, .null, []), (.aload_n 0, 1, 0, 0, .null, []), (.getfield 64, 3, 7, 34, .null, []), (.aload_n 0, 1, 0, 0, .null, []), (.getfield 129, 3, 7, 31, .null, []), (.iload_n 3, 1, 3, 0, .null, []), (.iastore, 1, 0, 0, .null, []), (.aload_n 0, 1, 0, 0, .null, []), (.dup, 1, 0, 0, .null, []), (.getfield 129, 3, 7, 31, .null, []), (.iconst 1, 1, 0, 0, .int 1, []), (.iadd, 1, 0, 0, .null, []), (.putfield 129, 3, 7, 31, .int 0, []), (.aload_n 0, 1, 0, 0, .null, []), (.getfield 129, 3, 7, 31, .null, []), (.iconst 1, 1, 0, 0, .int 1, []), (.isub, 1, 0, 0, .null, []), (.ireturn, 1, 0, 0, .null, [])] := rfl
abbrev m_R_reading : Nat := 157
set_option maxRecDepth 100000 in
theorem ck_R_reading : vx_ckM prog_9_method_58_code 7 4 2 false (some .int) tb_R_reading = true := by decide +kernel
theorem ok_R_reading {As : List Value} {sz : Nat} {h : vx_H} {P : Option Value → vx_H → Prop} (L0 : vx_L) (hlen : (vx_ar As).length ≤ 4) (hL0 : vx_ar As ++ List.replicate (4 - (vx_ar As).length) none = L0)
    (body : ∀ (lim z : vx_Z) X, vx_cl0 none lim tb_R_reading (fun r z' h' => z' = z ∧ P r h') X → X 0 L0 [] z h) : vx_Ok m_R_reading As sz h P :=
  vx_ok0 (M := (⟨"VoteWallsModel", "reading", "(III)I"⟩, prog_9_method_58_code, 4, (some .int), 2, 0, 0, 3, 0)) rfl (ow := 7) rfl ck_R_reading rfl hlen hL0 body
def kb_R_back_0 : List vx_I := [(.iload_n 1, 1, 1, 0, .null, []), (.iconst 0, 1, 0, 0, .int 0, []), (.aload_n 0, 1, 0, 0, .null, []), (.getfield 129, 3, 7, 31, .null, []), (.invokestatic 73, 3, 105, 3, .null, []), (.ifCond .ne 6, 3, 15, 0, .null, []), (.bipush (-2), 2, 0, 0, .int (-2), []), (.ireturn, 1, 0, 0, .null, [])]
def kb_R_back_15 : List vx_I := [(.aload_n 0, 1, 0, 0, .null, []), (.dup, 1, 0, 0, .null, []), (.getfield 129, 3, 7, 31, .null, []), (.iload_n 1, 1, 1, 0, .null, []), (.isub, 1, 0, 0, .null, []), (.putfield 129, 3, 7, 31, .int 0, []), (.aload_n 0, 1, 0, 0, .null, []), (.getfield 129, 3, 7, 31, .null, []), (.ireturn, 1, 0, 0, .null, [])]
def tb_R_back : List (Nat × List vx_I) := [(0, kb_R_back_0), (15, kb_R_back_15)]
theorem bk_R_back_0 : vx_bk tb_R_back 0 = [(.iload_n 1, 1, 1, 0, .null, []), (.iconst 0, 1, 0, 0, .int 0, []), (.aload_n 0, 1, 0, 0, .null, []), (.getfield 129, 3, 7, 31, .null, []), (.invokestatic 73, 3, 105, 3, .null, []), (.ifCond .ne 6, 3, 15, 0, .null, []), (.bipush (-2), 2, 0, 0, .int (-2), []), (.ireturn, 1, 0, 0, .null, [])] := rfl
theorem bk_R_back_15 : vx_bk tb_R_back 15 = [(.aload_n 0, 1, 0, 0, .null, []), (.dup, 1, 0, 0, .null, []), (.getfield 129, 3, 7, 31, .null, []), (.iload_n 1, 1, 1, 0, .null, []), (.isub, 1, 0, 0, .null, []), (.putfield 129, 3, 7, 31, .int 0, []), (.aload_n 0, 1, 0, 0, .null, []), (.getfield 129, 3, 7, 31, .null, []), (.ireturn, 1, 0, 0, .null, [])] := rfl
abbrev m_R_back : Nat := 158
set_option maxRecDepth 100000 in
theorem ck_R_back : vx_ckM prog_9_method_59_code 7 2 1 false (some .int) tb_R_back = true := by decide +kernel
theorem ok_R_back {As : List Value} {sz : Nat} {h : vx_H} {P : Option Value → vx_H → Prop} (L0 : vx_L) (hlen : (vx_ar As).length ≤ 2) (hL0 : vx_ar As ++ List.replicate (2 - (vx_ar As).length) none = L0)
    (body : ∀ (lim z : vx_Z) X, vx_cl0 none lim tb_R_back (fun r z' h' => z' = z ∧ P r h') X → X 0 L0 [] z h) : vx_Ok m_R_back As sz h P :=
  vx_ok0 (M := (⟨"VoteWallsModel", "back", "(I)I"⟩, prog_9_method_59_code, 2, (some .int), 1, 0, 0, 1, 0)) rfl (ow := 7) rfl ck_R_back rfl hlen hL0 body
def kb_R_struck_0 : List vx_I := [(.aload_n 0, 1, 0, 0, .null, []), (.invokevirtual 151, 3, 119, 0, .null, [(0, 0), (0, 0), (0, 0), (0, 0), (0, 0), (0, 0), (0, 0)]), (.ifCond .ne 6, 3, 10, 0, .null, []), (.bipush (-3), 2, 0, 0, .int (-3), []), (.ireturn, 1, 0, 0, .null, [])]
def kb_R_struck_10 : List vx_I := [(.iconst 0, 1, 0, 0, .int 0, []), (.istore_n 1, 1, 1, 0, .null, []), (.iconst 0, 1, 0, 0, .int 0, []), (.istore_n 2, 1, 2, 0, .null, [])]
def kb_R_struck_14 : List vx_I := [(.iload_n 2, 1, 2, 0, .null, []), (.aload_n 0, 1, 0, 0, .null, []), (.getfield 80, 3, 7, 7, .null, []), (.if_icmp .ge 33, 3, 52, 0, .null, []), (.aload_n 0, 1, 0, 0, .null, []), (.iconst 1, 1, 0, 0, .int 1, []), (.iload_n 2, 1, 2, 0, .null, []), (.ishl, 1, 0, 0, .null, []), (.putfield 167, 3, 7, 28, .int 0, []), (.iload_n 1, 1, 1, 0, .null, []), (.aload_n 0, 1, 0, 0, .null, []), (.invokevirtual 232, 3, 160, 0, .null, [(0, 0), (0, 0), (0, 0), (0, 0), (0, 0), (0, 0), (0, 0)]), (.ifCond .eq 9, 3, 43, 0, .null, []), (.iconst 1, 1, 0, 0, .int 1, []), (.iload_n 2, 1, 2, 0, .null, []), (.ishl, 1, 0, 0, .null, []), (.goto 4, 3, 44, 0, .null, [])]
def kb_R_struck_43 : List vx_I := [(.iconst 0, 1, 0, 0, .int 0, [])]
def kb_R_struck_44 : List vx_I := [(.ior, 1, 0, 0, .null, []), (.istore_n 1, 1, 1, 0, .null, []), (.iinc 2 1, 3, 2, 0, .int 1, []), (.goto (-35), 3, 14, 0, .null, [])]
def kb_R_struck_52 : List vx_I := [(.aload_n 0, 1, 0, 0, .null, []), (.iconst 0, 1, 0, 0, .int 0, []), (.putfield 167, 3, 7, 28, .int 0, []), (.iload_n 1, 1, 1, 0, .null, []), (.ireturn, 1, 0, 0, .null, [])]
def tb_R_struck : List (Nat × List vx_I) := [(0, kb_R_struck_0), (10, kb_R_struck_10), (14, kb_R_struck_14), (43, kb_R_struck_43), (44, kb_R_struck_44), (52, kb_R_struck_52)]
theorem bk_R_struck_0 : vx_bk tb_R_struck 0 = [(.aload_n 0, 1, 0, 0, .null, []), (.invokevirtual 151, 3, 119, 0, .null, [(0, 0), (0, 0), (0, 0), (0, 0), (0, 0), (0, 0), (0, 0)]), (.ifCond .ne 6, 3, 10, 0, .null, []), (.bipush (-3), 2, 0, 0, .int (-3), []), (.ireturn, 1, 0, 0, .null, [])] := rfl
theorem bk_R_struck_10 : vx_bk tb_R_struck 10 = [(.iconst 0, 1, 0, 0, .int 0, []), (.istore_n 1, 1, 1, 0, .null, []), (.iconst 0, 1, 0, 0, .int 0, []), (.istore_n 2, 1, 2, 0, .null, [])] := rfl
theorem bk_R_struck_14 : vx_bk tb_R_struck 14 = [(.iload_n 2, 1, 2, 0, .null, []), (.aload_n 0, 1, 0, 0, .null, []), (.getfield 80, 3, 7, 7, .null, []), (.if_icmp .ge 33, 3, 52, 0, .null, []), (.aload_n 0, 1, 0, 0, .null, []), (.iconst 1, 1, 0, 0, .int 1, []), (.iload_n 2, 1, 2, 0, .null, []), (.ishl, 1, 0, 0, .null, []), (.putfield 167, 3, 7, 28, .int 0, []), (.iload_n 1, 1, 1, 0, .null, []), (.aload_n 0, 1, 0, 0, .null, []), (.invokevirtual 232, 3, 160, 0, .null, [(0, 0), (0, 0), (0, 0), (0, 0), (0, 0), (0, 0), (0, 0)]), (.ifCond .eq 9, 3, 43, 0, .null, []), (.iconst 1, 1, 0, 0, .int 1, []), (.iload_n 2, 1, 2, 0, .null, []), (.ishl, 1, 0, 0, .null, []), (.goto 4, 3, 44, 0, .null, [])] := rfl
theorem bk_R_struck_43 : vx_bk tb_R_struck 43 = [(.iconst 0, 1, 0, 0, .int 0, [])] := rfl
theorem bk_R_struck_44 : vx_bk tb_R_struck 44 = [(.ior, 1, 0, 0, .null, []), (.istore_n 1, 1, 1, 0, .null, []), (.iinc 2 1, 3, 2, 0, .int 1, []), (.goto (-35), 3, 14, 0, .null, [])] := rfl
theorem bk_R_struck_52 : vx_bk tb_R_struck 52 = [(.aload_n 0, 1, 0, 0, .null, []), (.iconst 0, 1, 0, 0, .int 0, []), (.putfield 167, 3, 7, 28, .int 0, []), (.iload_n 1, 1, 1, 0, .null, []), (.ireturn, 1, 0, 0, .null, [])] := rfl
abbrev m_R_struck : Nat := 159
set_option maxRecDepth 100000 in
theorem ck_R_struck : vx_ckM prog_9_method_61_code 7 3 6 false (some .int) tb_R_struck = true := by decide +kernel
theorem ok_R_struck {As : List Value} {sz : Nat} {h : vx_H} {P : Option Value → vx_H → Prop} (L0 : vx_L) (hlen : (vx_ar As).length ≤ 3) (hL0 : vx_ar As ++ List.replicate (3 - (vx_ar As).length) none = L0)
    (body : ∀ (lim z : vx_Z) X, vx_cl0 none lim tb_R_struck (fun r z' h' => z' = z ∧ P r h') X → X 0 L0 [] z h) : vx_Ok m_R_struck As sz h P :=
  vx_ok0 (M := (⟨"VoteWallsModel", "struck", "()I"⟩, prog_9_method_61_code, 3, (some .int), 6, 0, 0, 0, 0)) rfl (ow := 7) rfl ck_R_struck rfl hlen hL0 body
def kb_R_areSo_0 : List vx_I := [(.iconst 0, 1, 0, 0, .int 0, []), (.istore_n 1, 1, 1, 0, .null, [])]
def kb_R_areSo_2 : List vx_I := [(.iload_n 1, 1, 1, 0, .null, []), (.aload_n 0, 1, 0, 0, .null, []), (.getfield 129, 3, 7, 31, .null, []), (.if_icmp .ge 41, 3, 48, 0, .null, []), (.aload_n 0, 1, 0, 0, .null, []), (.aload_n 0, 1, 0, 0, .null, []), (.getfield 61, 3, 7, 33, .null, []), (.iload_n 1, 1, 1, 0, .null, []), (.iaload, 1, 0, 0, .null, []), (.invokevirtual 204, 3, 129, 1, .null, [(0, 0), (0, 0), (0, 0), (0, 0), (0, 0), (0, 0), (0, 0)]), (.aload_n 0, 1, 0, 0, .null, []), (.getfield 55, 3, 7, 29, .null, []), (.aload_n 0, 1, 0, 0, .null, []), (.getfield 58, 3, 7, 32, .null, []), (.iload_n 1, 1, 1, 0, .null, []), (.iaload, 1, 0, 0, .null, []), (.iaload, 1, 0, 0, .null, []), (.aload_n 0, 1, 0, 0, .null, []), (.getfield 64, 3, 7, 34, .null, []), (.iload_n 1, 1, 1, 0, .null, []), (.iaload, 1, 0, 0, .null, []), (.if_icmp .eq 5, 3, 42, 0, .null, []), (.iconst 0, 1, 0, 0, .int 0, []), (.ireturn, 1, 1, 0, .null, [])]
def kb_R_areSo_42 : List vx_I := [(.iinc 1 1, 3, 1, 0, .int 1, []), (.goto (-43), 3, 2, 0, .null, [])]
def kb_R_areSo_48 : List vx_I := [(.iconst 1, 1, 0, 0, .int 1, []), (.ireturn, 1, 1, 0, .null, [])]
def tb_R_areSo : List (Nat × List vx_I) := [(0, kb_R_areSo_0), (2, kb_R_areSo_2), (42, kb_R_areSo_42), (48, kb_R_areSo_48)]
theorem bk_R_areSo_0 : vx_bk tb_R_areSo 0 = [(.iconst 0, 1, 0, 0, .int 0, []), (.istore_n 1, 1, 1, 0, .null, [])] := rfl
theorem bk_R_areSo_2 : vx_bk tb_R_areSo 2 = [(.iload_n 1, 1, 1, 0, .null, []), (.aload_n 0, 1, 0, 0, .null, []), (.getfield 129, 3, 7, 31, .null, []), (.if_icmp .ge 41, 3, 48, 0, .null, []), (.aload_n 0, 1, 0, 0, .null, []), (.aload_n 0, 1, 0, 0, .null, []), (.getfield 61, 3, 7, 33, .null, []), (.iload_n 1, 1, 1, 0, .null, []), (.iaload, 1, 0, 0, .null, []), (.invokevirtual 204, 3, 129, 1, .null, [(0, 0), (0, 0), (0, 0), (0, 0), (0, 0), (0, 0), (0, 0)]), (.aload_n 0, 1, 0, 0, .null, []), (.getfield 55, 3, 7, 29, .null, []), (.aload_n 0, 1, 0, 0, .null, []), (.getfield 58, 3, 7, 32, .null, []), (.iload_n 1, 1, 1, 0, .null, []), (.iaload, 1, 0, 0, .null, []), (.iaload, 1, 0, 0, .null, []), (.aload_n 0, 1, 0, 0, .null, []), (.getfield 64, 3, 7, 34, .null, []), (.iload_n 1, 1, 1, 0, .null, []), (.iaload, 1, 0, 0, .null, []), (.if_icmp .eq 5, 3, 42, 0, .null, []), (.iconst 0, 1, 0, 0, .int 0, []), (.ireturn, 1, 1, 0, .null, [])] := rfl
theorem bk_R_areSo_42 : vx_bk tb_R_areSo 42 = [(.iinc 1 1, 3, 1, 0, .int 1, []), (.goto (-43), 3, 2, 0, .null, [])] := rfl
theorem bk_R_areSo_48 : vx_bk tb_R_areSo 48 = [(.iconst 1, 1, 0, 0, .int 1, []), (.ireturn, 1, 1, 0, .null, [])] := rfl
abbrev m_R_areSo : Nat := 160
set_option maxRecDepth 100000 in
theorem ck_R_areSo : vx_ckM prog_9_method_60_code 7 2 5 false (some .boolean) tb_R_areSo = true := by decide +kernel
theorem ok_R_areSo {As : List Value} {sz : Nat} {h : vx_H} {P : Option Value → vx_H → Prop} (L0 : vx_L) (hlen : (vx_ar As).length ≤ 2) (hL0 : vx_ar As ++ List.replicate (2 - (vx_ar As).length) none = L0)
    (body : ∀ (lim z : vx_Z) X, vx_cl0 none lim tb_R_areSo (fun r z' h' => z' = z ∧ P r h') X → X 0 L0 [] z h) : vx_Ok m_R_areSo As sz h P :=
  vx_ok0 (M := (⟨"VoteWallsModel", "areSo", "()Z"⟩, prog_9_method_60_code, 2, (some .boolean), 5, 0, 0, 0, 0)) rfl (ow := 7) rfl ck_R_areSo rfl hlen hL0 body
def kb_R_laws_0 : List vx_I := [(.aload_n 0, 1, 0, 0, .null, []), (.invokevirtual 151, 3, 119, 0, .null, [(0, 0), (0, 0), (0, 0), (0, 0), (0, 0), (0, 0), (0, 0)]), (.ifCond .ne 6, 3, 10, 0, .null, []), (.bipush (-3), 2, 0, 0, .int (-3), []), (.ireturn, 1, 0, 0, .null, [])]
def kb_R_laws_10 : List vx_I := [(.aload_n 0, 1, 0, 0, .null, []), (.getfield 120, 3, 7, 11, .null, []), (.istore_n 1, 1, 1, 0, .null, []), (.iconst 0, 1, 0, 0, .int 0, []), (.istore_n 2, 1, 2, 0, .null, []), (.iconst 0, 1, 0, 0, .int 0, []), (.istore_n 3, 1, 3, 0, .null, [])]
def kb_R_laws_19 : List vx_I := [(.iload_n 3, 1, 3, 0, .null, []), (.iconst 2, 1, 0, 0, .int 2, []), (.if_icmp .ge 31, 3, 52, 0, .null, []), (.aload_n 0, 1, 0, 0, .null, []), (.iload_n 3, 1, 3, 0, .null, []), (.putfield 120, 3, 7, 11, .int 0, []), (.iload_n 2, 1, 2, 0, .null, []), (.aload_n 0, 1, 0, 0, .null, []), (.invokevirtual 232, 3, 160, 0, .null, [(0, 0), (0, 0), (0, 0), (0, 0), (0, 0), (0, 0), (0, 0)]), (.ifCond .eq 9, 3, 43, 0, .null, []), (.iconst 1, 1, 0, 0, .int 1, []), (.iload_n 3, 1, 3, 0, .null, []), (.ishl, 1, 0, 0, .null, []), (.goto 4, 3, 44, 0, .null, [])]
def kb_R_laws_43 : List vx_I := [(.iconst 0, 1, 0, 0, .int 0, [])]
def kb_R_laws_44 : List vx_I := [(.ior, 1, 0, 0, .null, []), (.istore_n 2, 1, 2, 0, .null, []), (.iinc 3 1, 3, 3, 0, .int 1, []), (.goto (-30), 3, 19, 0, .null, [])]
def kb_R_laws_52 : List vx_I := [(.aload_n 0, 1, 0, 0, .null, []), (.iload_n 1, 1, 1, 0, .null, []), (.putfield 120, 3, 7, 11, .int 0, []), (.iload_n 2, 1, 2, 0, .null, []), (.ireturn, 1, 0, 0, .null, [])]
def tb_R_laws : List (Nat × List vx_I) := [(0, kb_R_laws_0), (10, kb_R_laws_10), (19, kb_R_laws_19), (43, kb_R_laws_43), (44, kb_R_laws_44), (52, kb_R_laws_52)]
theorem bk_R_laws_0 : vx_bk tb_R_laws 0 = [(.aload_n 0, 1, 0, 0, .null, []), (.invokevirtual 151, 3, 119, 0, .null, [(0, 0), (0, 0), (0, 0), (0, 0), (0, 0), (0, 0), (0, 0)]), (.ifCond .ne 6, 3, 10, 0, .null, []), (.bipush (-3), 2, 0, 0, .int (-3), []), (.ireturn, 1, 0, 0, .null, [])] := rfl
theorem bk_R_laws_10 : vx_bk tb_R_laws 10 = [(.aload_n 0, 1, 0, 0, .null, []), (.getfield 120, 3, 7, 11, .null, []), (.istore_n 1, 1, 1, 0, .null, []), (.iconst 0, 1, 0, 0, .int 0, []), (.istore_n 2, 1, 2, 0, .null, []), (.iconst 0, 1, 0, 0, .int 0, []), (.istore_n 3, 1, 3, 0, .null, [])] := rfl
theorem bk_R_laws_19 : vx_bk tb_R_laws 19 = [(.iload_n 3, 1, 3, 0, .null, []), (.iconst 2, 1, 0, 0, .int 2, []), (.if_icmp .ge 31, 3, 52, 0, .null, []), (.aload_n 0, 1, 0, 0, .null, []), (.iload_n 3, 1, 3, 0, .null, []), (.putfield 120, 3, 7, 11, .int 0, []), (.iload_n 2, 1, 2, 0, .null, []), (.aload_n 0, 1, 0, 0, .null, []), (.invokevirtual 232, 3, 160, 0, .null, [(0, 0), (0, 0), (0, 0), (0, 0), (0, 0), (0, 0), (0, 0)]), (.ifCond .eq 9, 3, 43, 0, .null, []), (.iconst 1, 1, 0, 0, .int 1, []), (.iload_n 3, 1, 3, 0, .null, []), (.ishl, 1, 0, 0, .null, []), (.goto 4, 3, 44, 0, .null, [])] := rfl
theorem bk_R_laws_43 : vx_bk tb_R_laws 43 = [(.iconst 0, 1, 0, 0, .int 0, [])] := rfl
theorem bk_R_laws_44 : vx_bk tb_R_laws 44 = [(.ior, 1, 0, 0, .null, []), (.istore_n 2, 1, 2, 0, .null, []), (.iinc 3 1, 3, 3, 0, .int 1, []), (.goto (-30), 3, 19, 0, .null, [])] := rfl
theorem bk_R_laws_52 : vx_bk tb_R_laws 52 = [(.aload_n 0, 1, 0, 0, .null, []), (.iload_n 1, 1, 1, 0, .null, []), (.putfield 120, 3, 7, 11, .int 0, []), (.iload_n 2, 1, 2, 0, .null, []), (.ireturn, 1, 0, 0, .null, [])] := rfl
abbrev m_R_laws : Nat := 161
set_option maxRecDepth 100000 in
theorem ck_R_laws : vx_ckM prog_9_method_62_code 7 4 6 false (some .int) tb_R_laws = true := by decide +kernel
theorem ok_R_laws {As : List Value} {sz : Nat} {h : vx_H} {P : Option Value → vx_H → Prop} (L0 : vx_L) (hlen : (vx_ar As).length ≤ 4) (hL0 : vx_ar As ++ List.replicate (4 - (vx_ar As).length) none = L0)
    (body : ∀ (lim z : vx_Z) X, vx_cl0 none lim tb_R_laws (fun r z' h' => z' = z ∧ P r h') X → X 0 L0 [] z h) : vx_Ok m_R_laws As sz h P :=
  vx_ok0 (M := (⟨"VoteWallsModel", "laws", "()I"⟩, prog_9_method_62_code, 4, (some .int), 6, 0, 0, 0, 0)) rfl (ow := 7) rfl ck_R_laws rfl hlen hL0 body
def kb_R_stood_0 : List vx_I := [(.aload_n 0, 1, 0, 0, .null, []), (.iload_n 1, 1, 1, 0, .null, []), (.invokevirtual 145, 3, 116, 1, .null, [(0, 0), (0, 0), (0, 0), (0, 0), (0, 0), (0, 0), (0, 0)]), (.ifCond .ne 5, 3, 10, 0, .null, []), (.iconst (-1), 1, 0, 0, .int (-1), []), (.ireturn, 1, 0, 0, .null, [])]
def kb_R_stood_10 : List vx_I := [(.aload_n 0, 1, 0, 0, .null, []), (.getfield 25, 3, 7, 10, .null, []), (.iload_n 1, 1, 1, 0, .null, []), (.iaload, 1, 0, 0, .null, []), (.istore_n 2, 1, 2, 0, .null, []), (.iconst 0, 1, 0, 0, .int 0, []), (.istore_n 3, 1, 3, 0, .null, []), (.iconst 0, 1, 0, 0, .int 0, []), (.istore 4, 2, 4, 0, .null, [])]
def kb_R_stood_22 : List vx_I := [(.iload 4, 2, 4, 0, .null, []), (.aload_n 0, 1, 0, 0, .null, []), (.getfield 111, 3, 7, 5, .null, []), (.if_icmp .ge 35, 3, 63, 0, .null, []), (.aload_n 0, 1, 0, 0, .null, []), (.getfield 25, 3, 7, 10, .null, []), (.iload_n 1, 1, 1, 0, .null, []), (.iload 4, 2, 4, 0, .null, []), (.iastore, 1, 0, 0, .null, []), (.iload_n 3, 1, 3, 0, .null, []), (.aload_n 0, 1, 0, 0, .null, []), (.invokevirtual 232, 3, 160, 0, .null, [(0, 0), (0, 0), (0, 0), (0, 0), (0, 0), (0, 0), (0, 0)]), (.ifCond .eq 10, 3, 54, 0, .null, []), (.iconst 1, 1, 0, 0, .int 1, []), (.iload 4, 2, 4, 0, .null, []), (.ishl, 1, 0, 0, .null, []), (.goto 4, 3, 55, 0, .null, [])]
def kb_R_stood_54 : List vx_I := [(.iconst 0, 1, 0, 0, .int 0, [])]
def kb_R_stood_55 : List vx_I := [(.ior, 1, 0, 0, .null, []), (.istore_n 3, 1, 3, 0, .null, []), (.iinc 4 1, 3, 4, 0, .int 1, []), (.goto (-38), 3, 22, 0, .null, [])]
def kb_R_stood_63 : List vx_I := [(.aload_n 0, 1, 0, 0, .null, []), (.getfield 25, 3, 7, 10, .null, []), (.iload_n 1, 1, 1, 0, .null, []), (.iload_n 2, 1, 2, 0, .null, []), (.iastore, 1, 0, 0, .null, []), (.iload_n 3, 1, 3, 0, .null, []), (.ireturn, 1, 0, 0, .null, [])]
def tb_R_stood : List (Nat × List vx_I) := [(0, kb_R_stood_0), (10, kb_R_stood_10), (22, kb_R_stood_22), (54, kb_R_stood_54), (55, kb_R_stood_55), (63, kb_R_stood_63)]
theorem bk_R_stood_0 : vx_bk tb_R_stood 0 = [(.aload_n 0, 1, 0, 0, .null, []), (.iload_n 1, 1, 1, 0, .null, []), (.invokevirtual 145, 3, 116, 1, .null, [(0, 0), (0, 0), (0, 0), (0, 0), (0, 0), (0, 0), (0, 0)]), (.ifCond .ne 5, 3, 10, 0, .null, []), (.iconst (-1), 1, 0, 0, .int (-1), []), (.ireturn, 1, 0, 0, .null, [])] := rfl
theorem bk_R_stood_10 : vx_bk tb_R_stood 10 = [(.aload_n 0, 1, 0, 0, .null, []), (.getfield 25, 3, 7, 10, .null, []), (.iload_n 1, 1, 1, 0, .null, []), (.iaload, 1, 0, 0, .null, []), (.istore_n 2, 1, 2, 0, .null, []), (.iconst 0, 1, 0, 0, .int 0, []), (.istore_n 3, 1, 3, 0, .null, []), (.iconst 0, 1, 0, 0, .int 0, []), (.istore 4, 2, 4, 0, .null, [])] := rfl
theorem bk_R_stood_22 : vx_bk tb_R_stood 22 = [(.iload 4, 2, 4, 0, .null, []), (.aload_n 0, 1, 0, 0, .null, []), (.getfield 111, 3, 7, 5, .null, []), (.if_icmp .ge 35, 3, 63, 0, .null, []), (.aload_n 0, 1, 0, 0, .null, []), (.getfield 25, 3, 7, 10, .null, []), (.iload_n 1, 1, 1, 0, .null, []), (.iload 4, 2, 4, 0, .null, []), (.iastore, 1, 0, 0, .null, []), (.iload_n 3, 1, 3, 0, .null, []), (.aload_n 0, 1, 0, 0, .null, []), (.invokevirtual 232, 3, 160, 0, .null, [(0, 0), (0, 0), (0, 0), (0, 0), (0, 0), (0, 0), (0, 0)]), (.ifCond .eq 10, 3, 54, 0, .null, []), (.iconst 1, 1, 0, 0, .int 1, []), (.iload 4, 2, 4, 0, .null, []), (.ishl, 1, 0, 0, .null, []), (.goto 4, 3, 55, 0, .null, [])] := rfl
theorem bk_R_stood_54 : vx_bk tb_R_stood 54 = [(.iconst 0, 1, 0, 0, .int 0, [])] := rfl
theorem bk_R_stood_55 : vx_bk tb_R_stood 55 = [(.ior, 1, 0, 0, .null, []), (.istore_n 3, 1, 3, 0, .null, []), (.iinc 4 1, 3, 4, 0, .int 1, []), (.goto (-38), 3, 22, 0, .null, [])] := rfl
theorem bk_R_stood_63 : vx_bk tb_R_stood 63 = [(.aload_n 0, 1, 0, 0, .null, []), (.getfield 25, 3, 7, 10, .null, []), (.iload_n 1, 1, 1, 0, .null, []), (.iload_n 2, 1, 2, 0, .null, []), (.iastore, 1, 0, 0, .null, []), (.iload_n 3, 1, 3, 0, .null, []), (.ireturn, 1, 0, 0, .null, [])] := rfl
abbrev m_R_stood : Nat := 162
set_option maxRecDepth 100000 in
theorem ck_R_stood : vx_ckM prog_9_method_63_code 7 5 6 false (some .int) tb_R_stood = true := by decide +kernel
theorem ok_R_stood {As : List Value} {sz : Nat} {h : vx_H} {P : Option Value → vx_H → Prop} (L0 : vx_L) (hlen : (vx_ar As).length ≤ 5) (hL0 : vx_ar As ++ List.replicate (5 - (vx_ar As).length) none = L0)
    (body : ∀ (lim z : vx_Z) X, vx_cl0 none lim tb_R_stood (fun r z' h' => z' = z ∧ P r h') X → X 0 L0 [] z h) : vx_Ok m_R_stood As sz h P :=
  vx_ok0 (M := (⟨"VoteWallsModel", "stood", "(I)I"⟩, prog_9_method_63_code, 5, (some .int), 6, 0, 0, 1, 0)) rfl (ow := 7) rfl ck_R_stood rfl hlen hL0 body
def kb_R_odds_0 : List vx_I := [(.aload_n 0, 1, 0, 0, .null, []), (.iload_n 1, 1, 1, 0, .null, []), (.invokevirtual 145, 3, 116, 1, .null, [(0, 0), (0, 0), (0, 0), (0, 0), (0, 0), (0, 0), (0, 0)]), (.ifCond .eq 28, 3, 33, 0, .null, []), (.aload_n 0, 1, 0, 0, .null, []), (.iload_n 2, 1, 2, 0, .null, []), (.invokevirtual 145, 3, 116, 1, .null, [(0, 0), (0, 0), (0, 0), (0, 0), (0, 0), (0, 0), (0, 0)]), (.ifCond .eq 20, 3, 33, 0, .null, []), (.iload_n 3, 1, 3, 0, .null, []), (.invokestatic 155, 3, 123, 1, .null, []), (.ifCond .eq 13, 3, 33, 0, .null, []), (.iload 4, 2, 4, 0, .null, []), (.iconst 0, 1, 0, 0, .int 0, []), (.iconst 1, 1, 0, 0, .int 1, []), (.invokestatic 73, 3, 105, 3, .null, []), (.ifCond .ne 7, 3, 37, 0, .null, [])]
def kb_R_odds_33 : List vx_I := [(.ldc2_w 71, 3, 0, 0, .long (-9223372036854775808), []), (.lreturn, 1, 0, 0, .null, [])]
def kb_R_odds_37 : List vx_I := [(.iconst 0, 1, 0, 0, .int 0, []), (.istore 5, 2, 5, 0, .null, []), (.iconst 0, 1, 0, 0, .int 0, []), (.istore 6, 2, 6, 0, .null, [])]
def kb_R_odds_43 : List vx_I := [(.iload 6, 2, 6, 0, .null, []), (.iconst 1, 1, 0, 0, .int 1, []), (.aload_n 0, 1, 0, 0, .null, []), (.getfield 80, 3, 7, 7, .null, []), (.ishl, 1, 0, 0, .null, []), (.if_icmp .ge 43, 3, 94, 0, .null, []), (.aload_n 0, 1, 0, 0, .null, []), (.iload 6, 2, 6, 0, .null, []), (.putfield 167, 3, 7, 28, .int 0, []), (.aload_n 0, 1, 0, 0, .null, []), (.iload_n 3, 1, 3, 0, .null, []), (.invokevirtual 204, 3, 129, 1, .null, [(0, 0), (0, 0), (0, 0), (0, 0), (0, 0), (0, 0), (0, 0)]), (.iload 5, 2, 5, 0, .null, []), (.aload_n 0, 1, 0, 0, .null, []), (.iload_n 1, 1, 1, 0, .null, []), (.invokevirtual 170, 3, 136, 1, .null, [(0, 0), (0, 0), (0, 0), (0, 0), (0, 0), (0, 0), (0, 0)]), (.aload_n 0, 1, 0, 0, .null, []), (.iload_n 2, 1, 2, 0, .null, []), (.invokevirtual 170, 3, 136, 1, .null, [(0, 0), (0, 0), (0, 0), (0, 0), (0, 0), (0, 0), (0, 0)]), (.if_icmp .ne 7, 3, 84, 0, .null, []), (.iconst 1, 1, 0, 0, .int 1, []), (.goto 4, 3, 85, 0, .null, [])]
def kb_R_odds_84 : List vx_I := [(.iconst 0, 1, 0, 0, .int 0, [])]
def kb_R_odds_85 : List vx_I := [(.iadd, 1, 0, 0, .null, []), (.istore 5, 2, 5, 0, .null, []), (.iinc 6 1, 3, 6, 0, .int 1, []), (.goto (-48), 3, 43, 0, .null, [])]
def kb_R_odds_94 : List vx_I := [(.aload_n 0, 1, 0, 0, .null, []), (.iconst 0, 1, 0, 0, .int 0, []), (.putfield 167, 3, 7, 28, .int 0, []), (.iload 5, 2, 5, 0, .null, []), (.i2l, 1, 0, 0, .null, []), (.lconst 1, 1, 0, 0, .long 1, []), (.aload_n 0, 1, 0, 0, .null, []), (.getfield 80, 3, 7, 7, .null, []), (.lshl, 1, 0, 0, .null, []), (.iload 4, 2, 4, 0, .null, []), (.invokestatic 235, 3, 164, 3, .null, []), (.lreturn, 1, 0, 0, .null, [])]
def tb_R_odds : List (Nat × List vx_I) := [(0, kb_R_odds_0), (33, kb_R_odds_33), (37, kb_R_odds_37), (43, kb_R_odds_43), (84, kb_R_odds_84), (85, kb_R_odds_85), (94, kb_R_odds_94)]
theorem bk_R_odds_0 : vx_bk tb_R_odds 0 = [(.aload_n 0, 1, 0, 0, .null, []), (.iload_n 1, 1, 1, 0, .null, []), (.invokevirtual 145, 3, 116, 1, .null, [(0, 0), (0, 0), (0, 0), (0, 0), (0, 0), (0, 0), (0, 0)]), (.ifCond .eq 28, 3, 33, 0, .null, []), (.aload_n 0, 1, 0, 0, .null, []), (.iload_n 2, 1, 2, 0, .null, []), (.invokevirtual 145, 3, 116, 1, .null, [(0, 0), (0, 0), (0, 0), (0, 0), (0, 0), (0, 0), (0, 0)]), (.ifCond .eq 20, 3, 33, 0, .null, []), (.iload_n 3, 1, 3, 0, .null, []), (.invokestatic 155, 3, 123, 1, .null, []), (.ifCond .eq 13, 3, 33, 0, .null, []), (.iload 4, 2, 4, 0, .null, []), (.iconst 0, 1, 0, 0, .int 0, []), (.iconst 1, 1, 0, 0, .int 1, []), (.invokestatic 73, 3, 105, 3, .null, []), (.ifCond .ne 7, 3, 37, 0, .null, [])] := rfl
theorem bk_R_odds_33 : vx_bk tb_R_odds 33 = [(.ldc2_w 71, 3, 0, 0, .long (-9223372036854775808), []), (.lreturn, 1, 0, 0, .null, [])] := rfl
theorem bk_R_odds_37 : vx_bk tb_R_odds 37 = [(.iconst 0, 1, 0, 0, .int 0, []), (.istore 5, 2, 5, 0, .null, []), (.iconst 0, 1, 0, 0, .int 0, []), (.istore 6, 2, 6, 0, .null, [])] := rfl
theorem bk_R_odds_43 : vx_bk tb_R_odds 43 = [(.iload 6, 2, 6, 0, .null, []), (.iconst 1, 1, 0, 0, .int 1, []), (.aload_n 0, 1, 0, 0, .null, []), (.getfield 80, 3, 7, 7, .null, []), (.ishl, 1, 0, 0, .null, []), (.if_icmp .ge 43, 3, 94, 0, .null, []), (.aload_n 0, 1, 0, 0, .null, []), (.iload 6, 2, 6, 0, .null, []), (.putfield 167, 3, 7, 28, .int 0, []), (.aload_n 0, 1, 0, 0, .null, []), (.iload_n 3, 1, 3, 0, .null, []), (.invokevirtual 204, 3, 129, 1, .null, [(0, 0), (0, 0), (0, 0), (0, 0), (0, 0), (0, 0), (0, 0)]), (.iload 5, 2, 5, 0, .null, []), (.aload_n 0, 1, 0, 0, .null, []), (.iload_n 1, 1, 1, 0, .null, []), (.invokevirtual 170, 3, 136, 1, .null, [(0, 0), (0, 0), (0, 0), (0, 0), (0, 0), (0, 0), (0, 0)]), (.aload_n 0, 1, 0, 0, .null, []), (.iload_n 2, 1, 2, 0, .null, []), (.invokevirtual 170, 3, 136, 1, .null, [(0, 0), (0, 0), (0, 0), (0, 0), (0, 0), (0, 0), (0, 0)]), (.if_icmp .ne 7, 3, 84, 0, .null, []), (.iconst 1, 1, 0, 0, .int 1, []), (.goto 4, 3, 85, 0, .null, [])] := rfl
theorem bk_R_odds_84 : vx_bk tb_R_odds 84 = [(.iconst 0, 1, 0, 0, .int 0, [])] := rfl
theorem bk_R_odds_85 : vx_bk tb_R_odds 85 = [(.iadd, 1, 0, 0, .null, []), (.istore 5, 2, 5, 0, .null, []), (.iinc 6 1, 3, 6, 0, .int 1, []), (.goto (-48), 3, 43, 0, .null, [])] := rfl
theorem bk_R_odds_94 : vx_bk tb_R_odds 94 = [(.aload_n 0, 1, 0, 0, .null, []), (.iconst 0, 1, 0, 0, .int 0, []), (.putfield 167, 3, 7, 28, .int 0, []), (.iload 5, 2, 5, 0, .null, []), (.i2l, 1, 0, 0, .null, []), (.lconst 1, 1, 0, 0, .long 1, []), (.aload_n 0, 1, 0, 0, .null, []), (.getfield 80, 3, 7, 7, .null, []), (.lshl, 1, 0, 0, .null, []), (.iload 4, 2, 4, 0, .null, []), (.invokestatic 235, 3, 164, 3, .null, []), (.lreturn, 1, 0, 0, .null, [])] := rfl
abbrev m_R_odds : Nat := 163
set_option maxRecDepth 100000 in
theorem ck_R_odds : vx_ckM prog_9_method_65_code 7 7 5 false (some .long) tb_R_odds = true := by decide +kernel
theorem ok_R_odds {As : List Value} {sz : Nat} {h : vx_H} {P : Option Value → vx_H → Prop} (L0 : vx_L) (hlen : (vx_ar As).length ≤ 7) (hL0 : vx_ar As ++ List.replicate (7 - (vx_ar As).length) none = L0)
    (body : ∀ (lim z : vx_Z) X, vx_cl0 none lim tb_R_odds (fun r z' h' => z' = z ∧ P r h') X → X 0 L0 [] z h) : vx_Ok m_R_odds As sz h P :=
  vx_ok0 (M := (⟨"VoteWallsModel", "odds", "(IIII)J"⟩, prog_9_method_65_code, 7, (some .long), 5, 0, 0, 4, 0)) rfl (ow := 7) rfl ck_R_odds rfl hlen hL0 body
def kb_R_inLeastTerms_0 : List vx_I := [(.lload_n 0, 1, 0, 0, .null, []), (.lstore 5, 2, 5, 0, .null, []), (.lload_n 2, 1, 2, 0, .null, []), (.lstore 7, 2, 7, 0, .null, [])]
def kb_R_inLeastTerms_6 : List vx_I := [(.lload 7, 2, 7, 0, .null, []), (.lconst 0, 1, 0, 0, .long 0, []), (.lcmp, 1, 0, 0, .null, []), (.ifCond .eq 21, 3, 31, 0, .null, []), (.lload 5, 2, 5, 0, .null, []), (.lload 7, 2, 7, 0, .null, []), (.lrem, 1, 0, 0, .null, []), (.lstore 9, 2, 9, 0, .null, []), (.lload 7, 2, 7, 0, .null, []), (.lstore 5, 2, 5, 0, .null, []), (.lload 9, 2, 9, 0, .null, []), (.lstore 7, 2, 7, 0, .null, []), (.goto (-22), 3, 6, 0, .null, [])]
def kb_R_inLeastTerms_31 : List vx_I := [(.iload 4, 2, 4, 0, .null, []), (.ifCond .ne 10, 3, 43, 0, .null, []), (.lload_n 0, 1, 0, 0, .null, []), (.lload 5, 2, 5, 0, .null, []), (.ldiv, 1, 0, 0, .null, []), (.goto 7, 3, 47, 0, .null, [])]
def kb_R_inLeastTerms_43 : List vx_I := [(.lload_n 2, 1, 2, 0, .null, []), (.lload 5, 2, 5, 0, .null, []), (.ldiv, 1, 0, 0, .null, [])]
def kb_R_inLeastTerms_47 : List vx_I := [(.lreturn, 1, 0, 0, .null, [])]
def tb_R_inLeastTerms : List (Nat × List vx_I) := [(0, kb_R_inLeastTerms_0), (6, kb_R_inLeastTerms_6), (31, kb_R_inLeastTerms_31), (43, kb_R_inLeastTerms_43), (47, kb_R_inLeastTerms_47)]
theorem bk_R_inLeastTerms_0 : vx_bk tb_R_inLeastTerms 0 = [(.lload_n 0, 1, 0, 0, .null, []), (.lstore 5, 2, 5, 0, .null, []), (.lload_n 2, 1, 2, 0, .null, []), (.lstore 7, 2, 7, 0, .null, [])] := rfl
theorem bk_R_inLeastTerms_6 : vx_bk tb_R_inLeastTerms 6 = [(.lload 7, 2, 7, 0, .null, []), (.lconst 0, 1, 0, 0, .long 0, []), (.lcmp, 1, 0, 0, .null, []), (.ifCond .eq 21, 3, 31, 0, .null, []), (.lload 5, 2, 5, 0, .null, []), (.lload 7, 2, 7, 0, .null, []), (.lrem, 1, 0, 0, .null, []), (.lstore 9, 2, 9, 0, .null, []), (.lload 7, 2, 7, 0, .null, []), (.lstore 5, 2, 5, 0, .null, []), (.lload 9, 2, 9, 0, .null, []), (.lstore 7, 2, 7, 0, .null, []), (.goto (-22), 3, 6, 0, .null, [])] := rfl
theorem bk_R_inLeastTerms_31 : vx_bk tb_R_inLeastTerms 31 = [(.iload 4, 2, 4, 0, .null, []), (.ifCond .ne 10, 3, 43, 0, .null, []), (.lload_n 0, 1, 0, 0, .null, []), (.lload 5, 2, 5, 0, .null, []), (.ldiv, 1, 0, 0, .null, []), (.goto 7, 3, 47, 0, .null, [])] := rfl
theorem bk_R_inLeastTerms_43 : vx_bk tb_R_inLeastTerms 43 = [(.lload_n 2, 1, 2, 0, .null, []), (.lload 5, 2, 5, 0, .null, []), (.ldiv, 1, 0, 0, .null, [])] := rfl
theorem bk_R_inLeastTerms_47 : vx_bk tb_R_inLeastTerms 47 = [(.lreturn, 1, 0, 0, .null, [])] := rfl
abbrev m_R_inLeastTerms : Nat := 164
set_option maxRecDepth 100000 in
theorem ck_R_inLeastTerms : vx_ckM prog_9_method_64_code 7 11 0 false (some .long) tb_R_inLeastTerms = true := by decide +kernel
theorem ok_R_inLeastTerms {As : List Value} {sz : Nat} {h : vx_H} {P : Option Value → vx_H → Prop} (L0 : vx_L) (hlen : (vx_ar As).length ≤ 11) (hL0 : vx_ar As ++ List.replicate (11 - (vx_ar As).length) none = L0)
    (body : ∀ (lim z : vx_Z) X, vx_cl0 none lim tb_R_inLeastTerms (fun r z' h' => z' = z ∧ P r h') X → X 0 L0 [] z h) : vx_Ok m_R_inLeastTerms As sz h P :=
  vx_ok0 (M := (⟨"VoteWallsModel", "inLeastTerms", "(JJI)J"⟩, prog_9_method_64_code, 11, (some .long), 0, 0, 0, 3, 1)) rfl (ow := 7) rfl ck_R_inLeastTerms rfl hlen hL0 body
def kb_R_sheet_0 : List vx_I := [(.aload_n 0, 1, 0, 0, .null, []), (.iconst 0, 1, 0, 0, .int 0, []), (.putfield 67, 3, 7, 0, .int 0, []), (.iload_n 1, 1, 1, 0, .null, []), (.invokestatic 90, 3, 104, 1, .null, []), (.ifCond .ne 5, 3, 14, 0, .null, []), (.iconst (-1), 1, 0, 0, .int (-1), []), (.ireturn, 1, 0, 0, .null, [])]
def kb_R_sheet_14 : List vx_I := [(.iload_n 2, 1, 2, 0, .null, []), (.invokestatic 94, 3, 106, 1, .null, []), (.ifCond .eq 9, 3, 27, 0, .null, []), (.iload_n 3, 1, 3, 0, .null, []), (.bipush 60, 2, 0, 0, .int 60, []), (.if_icmp .le 6, 3, 30, 0, .null, [])]
def kb_R_sheet_27 : List vx_I := [(.bipush (-2), 2, 0, 0, .int (-2), []), (.ireturn, 1, 0, 0, .null, [])]
def kb_R_sheet_30 : List vx_I := [(.iload_n 3, 1, 3, 0, .null, []), (.ifCond .ge 9, 3, 40, 0, .null, []), (.aload_n 0, 1, 0, 0, .null, []), (.iconst 4, 1, 0, 0, .int 4, []), (.invokevirtual 101, 3, 108, 1, .null, [(0, 0), (0, 0), (0, 0), (0, 0), (0, 0), (0, 0), (0, 0)]), (.ireturn, 1, 0, 0, .null, [])]
def kb_R_sheet_40 : List vx_I := [(.aload_n 0, 1, 0, 0, .null, []), (.getfield 9, 3, 7, 2, .null, []), (.iload_n 1, 1, 1, 0, .null, []), (.iload_n 2, 1, 2, 0, .null, []), (.iastore, 1, 0, 0, .null, []), (.aload_n 0, 1, 0, 0, .null, []), (.getfield 13, 3, 7, 3, .null, []), (.iload_n 1, 1, 1, 0, .null, []), (.iload_n 3, 1, 3, 0, .null, []), (.iastore, 1, 0, 0, .null, []), (.iconst 0, 1, 0, 0, .int 0, []), (.istore 4, 2, 4, 0, .null, [])]
def kb_R_sheet_57 : List vx_I := [(.iload 4, 2, 4, 0, .null, []), (.bipush 60, 2, 0, 0, .int 60, []), (.if_icmp .ge 22, 3, 83, 0, .null, []), (.aload_n 0, 1, 0, 0, .null, []), (.getfield 16, 3, 7, 4, .null, []), (.bipush 60, 2, 0, 0, .int 60, []), (.iload_n 1, 1, 1, 0, .null, []), (.imul, 1, 0, 0, .null, []), (.iload 4, 2, 4, 0, .null, []), (.iadd, 1, 0, 0, .null, []), (.iconst 0, 1, 0, 0, .int 0, []), (.iastore, 1, 0, 0, .null, []), (.iinc 4 1, 3, 4, 0, .int 1, []), (.goto (-23), 3, 57, 0, .null, [])]
def kb_R_sheet_83 : List vx_I := [(.iconst 1, 1, 0, 0, .int 1, []), (.ireturn, 1, 0, 0, .null, [])]
def tb_R_sheet : List (Nat × List vx_I) := [(0, kb_R_sheet_0), (14, kb_R_sheet_14), (27, kb_R_sheet_27), (30, kb_R_sheet_30), (40, kb_R_sheet_40), (57, kb_R_sheet_57), (83, kb_R_sheet_83)]
theorem bk_R_sheet_0 : vx_bk tb_R_sheet 0 = [(.aload_n 0, 1, 0, 0, .null, []), (.iconst 0, 1, 0, 0, .int 0, []), (.putfield 67, 3, 7, 0, .int 0, []), (.iload_n 1, 1, 1, 0, .null, []), (.invokestatic 90, 3, 104, 1, .null, []), (.ifCond .ne 5, 3, 14, 0, .null, []), (.iconst (-1), 1, 0, 0, .int (-1), []), (.ireturn, 1, 0, 0, .null, [])] := rfl
theorem bk_R_sheet_14 : vx_bk tb_R_sheet 14 = [(.iload_n 2, 1, 2, 0, .null, []), (.invokestatic 94, 3, 106, 1, .null, []), (.ifCond .eq 9, 3, 27, 0, .null, []), (.iload_n 3, 1, 3, 0, .null, []), (.bipush 60, 2, 0, 0, .int 60, []), (.if_icmp .le 6, 3, 30, 0, .null, [])] := rfl
theorem bk_R_sheet_27 : vx_bk tb_R_sheet 27 = [(.bipush (-2), 2, 0, 0, .int (-2), []), (.ireturn, 1, 0, 0, .null, [])] := rfl
theorem bk_R_sheet_30 : vx_bk tb_R_sheet 30 = [(.iload_n 3, 1, 3, 0, .null, []), (.ifCond .ge 9, 3, 40, 0, .null, []), (.aload_n 0, 1, 0, 0, .null, []), (.iconst 4, 1, 0, 0, .int 4, []), (.invokevirtual 101, 3, 108, 1, .null, [(0, 0), (0, 0), (0, 0), (0, 0), (0, 0), (0, 0), (0, 0)]), (.ireturn, 1, 0, 0, .null, [])] := rfl
theorem bk_R_sheet_40 : vx_bk tb_R_sheet 40 = [(.aload_n 0, 1, 0, 0, .null, []), (.getfield 9, 3, 7, 2, .null, []), (.iload_n 1, 1, 1, 0, .null, []), (.iload_n 2, 1, 2, 0, .null, []), (.iastore, 1, 0, 0, .null, []), (.aload_n 0, 1, 0, 0, .null, []), (.getfield 13, 3, 7, 3, .null, []), (.iload_n 1, 1, 1, 0, .null, []), (.iload_n 3, 1, 3, 0, .null, []), (.iastore, 1, 0, 0, .null, []), (.iconst 0, 1, 0, 0, .int 0, []), (.istore 4, 2, 4, 0, .null, [])] := rfl
theorem bk_R_sheet_57 : vx_bk tb_R_sheet 57 = [(.iload 4, 2, 4, 0, .null, []), (.bipush 60, 2, 0, 0, .int 60, []), (.if_icmp .ge 22, 3, 83, 0, .null, []), (.aload_n 0, 1, 0, 0, .null, []), (.getfield 16, 3, 7, 4, .null, []), (.bipush 60, 2, 0, 0, .int 60, []), (.iload_n 1, 1, 1, 0, .null, []), (.imul, 1, 0, 0, .null, []), (.iload 4, 2, 4, 0, .null, []), (.iadd, 1, 0, 0, .null, []), (.iconst 0, 1, 0, 0, .int 0, []), (.iastore, 1, 0, 0, .null, []), (.iinc 4 1, 3, 4, 0, .int 1, []), (.goto (-23), 3, 57, 0, .null, [])] := rfl
theorem bk_R_sheet_83 : vx_bk tb_R_sheet 83 = [(.iconst 1, 1, 0, 0, .int 1, []), (.ireturn, 1, 0, 0, .null, [])] := rfl
abbrev m_R_sheet : Nat := 165
set_option maxRecDepth 100000 in
theorem ck_R_sheet : vx_ckM prog_9_method_66_code 7 5 2 false (some .int) tb_R_sheet = true := by decide +kernel
theorem ok_R_sheet {As : List Value} {sz : Nat} {h : vx_H} {P : Option Value → vx_H → Prop} (L0 : vx_L) (hlen : (vx_ar As).length ≤ 5) (hL0 : vx_ar As ++ List.replicate (5 - (vx_ar As).length) none = L0)
    (body : ∀ (lim z : vx_Z) X, vx_cl0 none lim tb_R_sheet (fun r z' h' => z' = z ∧ P r h') X → X 0 L0 [] z h) : vx_Ok m_R_sheet As sz h P :=
  vx_ok0 (M := (⟨"VoteWallsModel", "sheet", "(III)I"⟩, prog_9_method_66_code, 5, (some .int), 2, 0, 0, 3, 0)) rfl (ow := 7) rfl ck_R_sheet rfl hlen hL0 body
def kb_R_lose_0 : List vx_I := [(.iload_n 1, 1, 1, 0, .null, []), (.invokestatic 90, 3, 104, 1, .null, []), (.ifCond .ne 5, 3, 9, 0, .null, []), (.iconst (-1), 1, 0, 0, .int (-1), []), (.ireturn, 1, 0, 0, .null, [])]
def kb_R_lose_9 : List vx_I := [(.aload_n 0, 1, 0, 0, .null, []), (.getfield 9, 3, 7, 2, .null, []), (.iload_n 1, 1, 1, 0, .null, []), (.iaload, 1, 0, 0, .null, []), (.bipush (-9), 2, 0, 0, .int (-9), []), (.if_icmp .ne 7, 3, 24, 0, .null, []), (.iconst 0, 1, 0, 0, .int 0, []), (.goto 4, 3, 25, 0, .null, [])]
def kb_R_lose_24 : List vx_I := [(.iconst 1, 1, 0, 0, .int 1, [])]
def kb_R_lose_25 : List vx_I := [(.istore_n 2, 1, 2, 0, .null, []), (.aload_n 0, 1, 0, 0, .null, []), (.getfield 9, 3, 7, 2, .null, []), (.iload_n 1, 1, 1, 0, .null, []), (.bipush (-9), 2, 0, 0, .int (-9), []), (.iastore, 1, 0, 0, .null, []), (.iload_n 2, 1, 2, 0, .null, []), (.ireturn, 1, 0, 0, .null, [])]
def tb_R_lose : List (Nat × List vx_I) := [(0, kb_R_lose_0), (9, kb_R_lose_9), (24, kb_R_lose_24), (25, kb_R_lose_25)]
theorem bk_R_lose_0 : vx_bk tb_R_lose 0 = [(.iload_n 1, 1, 1, 0, .null, []), (.invokestatic 90, 3, 104, 1, .null, []), (.ifCond .ne 5, 3, 9, 0, .null, []), (.iconst (-1), 1, 0, 0, .int (-1), []), (.ireturn, 1, 0, 0, .null, [])] := rfl
theorem bk_R_lose_9 : vx_bk tb_R_lose 9 = [(.aload_n 0, 1, 0, 0, .null, []), (.getfield 9, 3, 7, 2, .null, []), (.iload_n 1, 1, 1, 0, .null, []), (.iaload, 1, 0, 0, .null, []), (.bipush (-9), 2, 0, 0, .int (-9), []), (.if_icmp .ne 7, 3, 24, 0, .null, []), (.iconst 0, 1, 0, 0, .int 0, []), (.goto 4, 3, 25, 0, .null, [])] := rfl
theorem bk_R_lose_24 : vx_bk tb_R_lose 24 = [(.iconst 1, 1, 0, 0, .int 1, [])] := rfl
theorem bk_R_lose_25 : vx_bk tb_R_lose 25 = [(.istore_n 2, 1, 2, 0, .null, []), (.aload_n 0, 1, 0, 0, .null, []), (.getfield 9, 3, 7, 2, .null, []), (.iload_n 1, 1, 1, 0, .null, []), (.bipush (-9), 2, 0, 0, .int (-9), []), (.iastore, 1, 0, 0, .null, []), (.iload_n 2, 1, 2, 0, .null, []), (.ireturn, 1, 0, 0, .null, [])] := rfl
abbrev m_R_lose : Nat := 166
set_option maxRecDepth 100000 in
theorem ck_R_lose : vx_ckM prog_9_method_67_code 7 3 2 false (some .int) tb_R_lose = true := by decide +kernel
theorem ok_R_lose {As : List Value} {sz : Nat} {h : vx_H} {P : Option Value → vx_H → Prop} (L0 : vx_L) (hlen : (vx_ar As).length ≤ 3) (hL0 : vx_ar As ++ List.replicate (3 - (vx_ar As).length) none = L0)
    (body : ∀ (lim z : vx_Z) X, vx_cl0 none lim tb_R_lose (fun r z' h' => z' = z ∧ P r h') X → X 0 L0 [] z h) : vx_Ok m_R_lose As sz h P :=
  vx_ok0 (M := (⟨"VoteWallsModel", "lose", "(I)I"⟩, prog_9_method_67_code, 3, (some .int), 2, 0, 0, 1, 0)) rfl (ow := 7) rfl ck_R_lose rfl hlen hL0 body
def kb_R_put_0 : List vx_I := [(.aload_n 0, 1, 0, 0, .null, []), (.iconst 0, 1, 0, 0, .int 0, []), (.putfield 67, 3, 7, 0, .int 0, []), (.iload_n 1, 1, 1, 0, .null, []), (.invokestatic 90, 3, 104, 1, .null, []), (.ifCond .ne 5, 3, 14, 0, .null, []), (.iconst (-1), 1, 0, 0, .int (-1), []), (.ireturn, 1, 0, 0, .null, [])]
def kb_R_put_14 : List vx_I := [(.aload_n 0, 1, 0, 0, .null, []), (.getfield 9, 3, 7, 2, .null, []), (.iload_n 1, 1, 1, 0, .null, []), (.iaload, 1, 0, 0, .null, []), (.bipush (-9), 2, 0, 0, .int (-9), []), (.if_icmp .ne 9, 3, 31, 0, .null, []), (.aload_n 0, 1, 0, 0, .null, []), (.iconst 1, 1, 0, 0, .int 1, []), (.invokevirtual 101, 3, 108, 1, .null, [(0, 0), (0, 0), (0, 0), (0, 0), (0, 0), (0, 0), (0, 0)]), (.ireturn, 1, 0, 0, .null, [])]
def kb_R_put_31 : List vx_I := [(.iload_n 2, 1, 2, 0, .null, []), (.iconst 0, 1, 0, 0, .int 0, []), (.aload_n 0, 1, 0, 0, .null, []), (.getfield 13, 3, 7, 3, .null, []), (.iload_n 1, 1, 1, 0, .null, []), (.iaload, 1, 0, 0, .null, []), (.iconst 1, 1, 0, 0, .int 1, []), (.isub, 1, 0, 0, .null, []), (.invokestatic 73, 3, 105, 3, .null, []), (.ifCond .ne 9, 3, 53, 0, .null, []), (.aload_n 0, 1, 0, 0, .null, []), (.iconst 3, 1, 0, 0, .int 3, []), (.invokevirtual 101, 3, 108, 1, .null, [(0, 0), (0, 0), (0, 0), (0, 0), (0, 0), (0, 0), (0, 0)]), (.ireturn, 1, 0, 0, .null, [])]
def kb_R_put_53 : List vx_I := [(.aload_n 0, 1, 0, 0, .null, []), (.getfield 16, 3, 7, 4, .null, []), (.bipush 60, 2, 0, 0, .int 60, []), (.iload_n 1, 1, 1, 0, .null, []), (.imul, 1, 0, 0, .null, []), (.iload_n 2, 1, 2, 0, .null, []), (.iadd, 1, 0, 0, .null, []), (.aload_n 0, 1, 0, 0, .null, []), (.getfield 9, 3, 7, 2, .null, []), (.iload_n 1, 1, 1, 0, .null, []), (.iaload, 1, 0, 0, .null, []), (.ifCond .ne 8, 3, 77, 0, .null, []), (.iload_n 3, 1, 3, 0, .null, []), (.i2b, 1, 0, 0, .null, []), (.goto 19, 3, 93, 0, .null, [])]
def kb_R_put_77 : List vx_I := [(.aload_n 0, 1, 0, 0, .null, []), (.getfield 9, 3, 7, 2, .null, []), (.iload_n 1, 1, 1, 0, .null, []), (.iaload, 1, 0, 0, .null, []), (.iconst 1, 1, 0, 0, .int 1, []), (.if_icmp .ne 8, 3, 92, 0, .null, []), (.iload_n 3, 1, 3, 0, .null, []), (.i2s, 1, 0, 0, .null, []), (.goto 4, 3, 93, 0, .null, [])]
def kb_R_put_92 : List vx_I := [(.iload_n 3, 1, 3, 0, .null, [])]
def kb_R_put_93 : List vx_I := [(.iastore, 1, 0, 0, .null, []), (.iconst 1, 1, 0, 0, .int 1, []), (.ireturn, 1, 0, 0, .null, [])]
def tb_R_put : List (Nat × List vx_I) := [(0, kb_R_put_0), (14, kb_R_put_14), (31, kb_R_put_31), (53, kb_R_put_53), (77, kb_R_put_77), (92, kb_R_put_92), (93, kb_R_put_93)]
theorem bk_R_put_0 : vx_bk tb_R_put 0 = [(.aload_n 0, 1, 0, 0, .null, []), (.iconst 0, 1, 0, 0, .int 0, []), (.putfield 67, 3, 7, 0, .int 0, []), (.iload_n 1, 1, 1, 0, .null, []), (.invokestatic 90, 3, 104, 1, .null, []), (.ifCond .ne 5, 3, 14, 0, .null, []), (.iconst (-1), 1, 0, 0, .int (-1), []), (.ireturn, 1, 0, 0, .null, [])] := rfl
theorem bk_R_put_14 : vx_bk tb_R_put 14 = [(.aload_n 0, 1, 0, 0, .null, []), (.getfield 9, 3, 7, 2, .null, []), (.iload_n 1, 1, 1, 0, .null, []), (.iaload, 1, 0, 0, .null, []), (.bipush (-9), 2, 0, 0, .int (-9), []), (.if_icmp .ne 9, 3, 31, 0, .null, []), (.aload_n 0, 1, 0, 0, .null, []), (.iconst 1, 1, 0, 0, .int 1, []), (.invokevirtual 101, 3, 108, 1, .null, [(0, 0), (0, 0), (0, 0), (0, 0), (0, 0), (0, 0), (0, 0)]), (.ireturn, 1, 0, 0, .null, [])] := rfl
theorem bk_R_put_31 : vx_bk tb_R_put 31 = [(.iload_n 2, 1, 2, 0, .null, []), (.iconst 0, 1, 0, 0, .int 0, []), (.aload_n 0, 1, 0, 0, .null, []), (.getfield 13, 3, 7, 3, .null, []), (.iload_n 1, 1, 1, 0, .null, []), (.iaload, 1, 0, 0, .null, []), (.iconst 1, 1, 0, 0, .int 1, []), (.isub, 1, 0, 0, .null, []), (.invokestatic 73, 3, 105, 3, .null, []), (.ifCond .ne 9, 3, 53, 0, .null, []), (.aload_n 0, 1, 0, 0, .null, []), (.iconst 3, 1, 0, 0, .int 3, []), (.invokevirtual 101, 3, 108, 1, .null, [(0, 0), (0, 0), (0, 0), (0, 0), (0, 0), (0, 0), (0, 0)]), (.ireturn, 1, 0, 0, .null, [])] := rfl
theorem bk_R_put_53 : vx_bk tb_R_put 53 = [(.aload_n 0, 1, 0, 0, .null, []), (.getfield 16, 3, 7, 4, .null, []), (.bipush 60, 2, 0, 0, .int 60, []), (.iload_n 1, 1, 1, 0, .null, []), (.imul, 1, 0, 0, .null, []), (.iload_n 2, 1, 2, 0, .null, []), (.iadd, 1, 0, 0, .null, []), (.aload_n 0, 1, 0, 0, .null, []), (.getfield 9, 3, 7, 2, .null, []), (.iload_n 1, 1, 1, 0, .null, []), (.iaload, 1, 0, 0, .null, []), (.ifCond .ne 8, 3, 77, 0, .null, []), (.iload_n 3, 1, 3, 0, .null, []), (.i2b, 1, 0, 0, .null, []), (.goto 19, 3, 93, 0, .null, [])] := rfl
theorem bk_R_put_77 : vx_bk tb_R_put 77 = [(.aload_n 0, 1, 0, 0, .null, []), (.getfield 9, 3, 7, 2, .null, []), (.iload_n 1, 1, 1, 0, .null, []), (.iaload, 1, 0, 0, .null, []), (.iconst 1, 1, 0, 0, .int 1, []), (.if_icmp .ne 8, 3, 92, 0, .null, []), (.iload_n 3, 1, 3, 0, .null, []), (.i2s, 1, 0, 0, .null, []), (.goto 4, 3, 93, 0, .null, [])] := rfl
theorem bk_R_put_92 : vx_bk tb_R_put 92 = [(.iload_n 3, 1, 3, 0, .null, [])] := rfl
theorem bk_R_put_93 : vx_bk tb_R_put 93 = [(.iastore, 1, 0, 0, .null, []), (.iconst 1, 1, 0, 0, .int 1, []), (.ireturn, 1, 0, 0, .null, [])] := rfl
abbrev m_R_put : Nat := 167
set_option maxRecDepth 100000 in
theorem ck_R_put : vx_ckM prog_9_method_68_code 7 4 2 false (some .int) tb_R_put = true := by decide +kernel
theorem ok_R_put {As : List Value} {sz : Nat} {h : vx_H} {P : Option Value → vx_H → Prop} (L0 : vx_L) (hlen : (vx_ar As).length ≤ 4) (hL0 : vx_ar As ++ List.replicate (4 - (vx_ar As).length) none = L0)
    (body : ∀ (lim z : vx_Z) X, vx_cl0 none lim tb_R_put (fun r z' h' => z' = z ∧ P r h') X → X 0 L0 [] z h) : vx_Ok m_R_put As sz h P :=
  vx_ok0 (M := (⟨"VoteWallsModel", "put", "(III)I"⟩, prog_9_method_68_code, 4, (some .int), 2, 0, 0, 3, 0)) rfl (ow := 7) rfl ck_R_put rfl hlen hL0 body
def kb_R_cell_0 : List vx_I := [(.aload_n 0, 1, 0, 0, .null, []), (.iconst 0, 1, 0, 0, .int 0, []), (.putfield 67, 3, 7, 0, .int 0, []), (.iload_n 1, 1, 1, 0, .null, []), (.invokestatic 90, 3, 104, 1, .null, []), (.ifCond .eq 10, 3, 19, 0, .null, []), (.iload_n 3, 1, 3, 0, .null, []), (.invokestatic 94, 3, 106, 1, .null, []), (.ifCond .ne 7, 3, 23, 0, .null, [])]
def kb_R_cell_19 : List vx_I := [(.ldc2_w 71, 3, 0, 0, .long (-9223372036854775808), []), (.lreturn, 1, 0, 0, .null, [])]
def kb_R_cell_23 : List vx_I := [(.aload_n 0, 1, 0, 0, .null, []), (.getfield 9, 3, 7, 2, .null, []), (.iload_n 1, 1, 1, 0, .null, []), (.iaload, 1, 0, 0, .null, []), (.bipush (-9), 2, 0, 0, .int (-9), []), (.if_icmp .eq 19, 3, 50, 0, .null, []), (.aload_n 0, 1, 0, 0, .null, []), (.getfield 9, 3, 7, 2, .null, []), (.iload_n 1, 1, 1, 0, .null, []), (.iaload, 1, 0, 0, .null, []), (.iload_n 3, 1, 3, 0, .null, []), (.if_icmp .eq 9, 3, 50, 0, .null, []), (.aload_n 0, 1, 0, 0, .null, []), (.iconst 2, 1, 0, 0, .int 2, []), (.invokevirtual 239, 3, 169, 1, .null, [(0, 0), (0, 0), (0, 0), (0, 0), (0, 0), (0, 0), (0, 0)]), (.lreturn, 1, 0, 0, .null, [])]
def kb_R_cell_50 : List vx_I := [(.aload_n 0, 1, 0, 0, .null, []), (.getfield 9, 3, 7, 2, .null, []), (.iload_n 1, 1, 1, 0, .null, []), (.iaload, 1, 0, 0, .null, []), (.bipush (-9), 2, 0, 0, .int (-9), []), (.if_icmp .ne 9, 3, 67, 0, .null, []), (.aload_n 0, 1, 0, 0, .null, []), (.iconst 1, 1, 0, 0, .int 1, []), (.invokevirtual 239, 3, 169, 1, .null, [(0, 0), (0, 0), (0, 0), (0, 0), (0, 0), (0, 0), (0, 0)]), (.lreturn, 1, 0, 0, .null, [])]
def kb_R_cell_67 : List vx_I := [(.iload_n 2, 1, 2, 0, .null, []), (.iconst 0, 1, 0, 0, .int 0, []), (.aload_n 0, 1, 0, 0, .null, []), (.getfield 13, 3, 7, 3, .null, []), (.iload_n 1, 1, 1, 0, .null, []), (.iaload, 1, 0, 0, .null, []), (.iconst 1, 1, 0, 0, .int 1, []), (.isub, 1, 0, 0, .null, []), (.invokestatic 73, 3, 105, 3, .null, []), (.ifCond .ne 9, 3, 89, 0, .null, []), (.aload_n 0, 1, 0, 0, .null, []), (.iconst 3, 1, 0, 0, .int 3, []), (.invokevirtual 239, 3, 169, 1, .null, [(0, 0), (0, 0), (0, 0), (0, 0), (0, 0), (0, 0), (0, 0)]), (.lreturn, 1, 0, 0, .null, [])]
def kb_R_cell_89 : List vx_I := [(.aload_n 0, 1, 0, 0, .null, []), (.getfield 16, 3, 7, 4, .null, []), (.bipush 60, 2, 0, 0, .int 60, []), (.iload_n 1, 1, 1, 0, .null, []), (.imul, 1, 0, 0, .null, []), (.iload_n 2, 1, 2, 0, .null, []), (.iadd, 1, 0, 0, .null, []), (.iaload, 1, 0, 0, .null, []), (.i2l, 1, 0, 0, .null, []), (.lreturn, 1, 0, 0, .null, [])]
def tb_R_cell : List (Nat × List vx_I) := [(0, kb_R_cell_0), (19, kb_R_cell_19), (23, kb_R_cell_23), (50, kb_R_cell_50), (67, kb_R_cell_67), (89, kb_R_cell_89)]
theorem bk_R_cell_0 : vx_bk tb_R_cell 0 = [(.aload_n 0, 1, 0, 0, .null, []), (.iconst 0, 1, 0, 0, .int 0, []), (.putfield 67, 3, 7, 0, .int 0, []), (.iload_n 1, 1, 1, 0, .null, []), (.invokestatic 90, 3, 104, 1, .null, []), (.ifCond .eq 10, 3, 19, 0, .null, []), (.iload_n 3, 1, 3, 0, .null, []), (.invokestatic 94, 3, 106, 1, .null, []), (.ifCond .ne 7, 3, 23, 0, .null, [])] := rfl
theorem bk_R_cell_19 : vx_bk tb_R_cell 19 = [(.ldc2_w 71, 3, 0, 0, .long (-9223372036854775808), []), (.lreturn, 1, 0, 0, .null, [])] := rfl
theorem bk_R_cell_23 : vx_bk tb_R_cell 23 = [(.aload_n 0, 1, 0, 0, .null, []), (.getfield 9, 3, 7, 2, .null, []), (.iload_n 1, 1, 1, 0, .null, []), (.iaload, 1, 0, 0, .null, []), (.bipush (-9), 2, 0, 0, .int (-9), []), (.if_icmp .eq 19, 3, 50, 0, .null, []), (.aload_n 0, 1, 0, 0, .null, []), (.getfield 9, 3, 7, 2, .null, []), (.iload_n 1, 1, 1, 0, .null, []), (.iaload, 1, 0, 0, .null, []), (.iload_n 3, 1, 3, 0, .null, []), (.if_icmp .eq 9, 3, 50, 0, .null, []), (.aload_n 0, 1, 0, 0, .null, []), (.iconst 2, 1, 0, 0, .int 2, []), (.invokevirtual 239, 3, 169, 1, .null, [(0, 0), (0, 0), (0, 0), (0, 0), (0, 0), (0, 0), (0, 0)]), (.lreturn, 1, 0, 0, .null, [])] := rfl
theorem bk_R_cell_50 : vx_bk tb_R_cell 50 = [(.aload_n 0, 1, 0, 0, .null, []), (.getfield 9, 3, 7, 2, .null, []), (.iload_n 1, 1, 1, 0, .null, []), (.iaload, 1, 0, 0, .null, []), (.bipush (-9), 2, 0, 0, .int (-9), []), (.if_icmp .ne 9, 3, 67, 0, .null, []), (.aload_n 0, 1, 0, 0, .null, []), (.iconst 1, 1, 0, 0, .int 1, []), (.invokevirtual 239, 3, 169, 1, .null, [(0, 0), (0, 0), (0, 0), (0, 0), (0, 0), (0, 0), (0, 0)]), (.lreturn, 1, 0, 0, .null, [])] := rfl
theorem bk_R_cell_67 : vx_bk tb_R_cell 67 = [(.iload_n 2, 1, 2, 0, .null, []), (.iconst 0, 1, 0, 0, .int 0, []), (.aload_n 0, 1, 0, 0, .null, []), (.getfield 13, 3, 7, 3, .null, []), (.iload_n 1, 1, 1, 0, .null, []), (.iaload, 1, 0, 0, .null, []), (.iconst 1, 1, 0, 0, .int 1, []), (.isub, 1, 0, 0, .null, []), (.invokestatic 73, 3, 105, 3, .null, []), (.ifCond .ne 9, 3, 89, 0, .null, []), (.aload_n 0, 1, 0, 0, .null, []), (.iconst 3, 1, 0, 0, .int 3, []), (.invokevirtual 239, 3, 169, 1, .null, [(0, 0), (0, 0), (0, 0), (0, 0), (0, 0), (0, 0), (0, 0)]), (.lreturn, 1, 0, 0, .null, [])] := rfl
theorem bk_R_cell_89 : vx_bk tb_R_cell 89 = [(.aload_n 0, 1, 0, 0, .null, []), (.getfield 16, 3, 7, 4, .null, []), (.bipush 60, 2, 0, 0, .int 60, []), (.iload_n 1, 1, 1, 0, .null, []), (.imul, 1, 0, 0, .null, []), (.iload_n 2, 1, 2, 0, .null, []), (.iadd, 1, 0, 0, .null, []), (.iaload, 1, 0, 0, .null, []), (.i2l, 1, 0, 0, .null, []), (.lreturn, 1, 0, 0, .null, [])] := rfl
abbrev m_R_cell : Nat := 168
set_option maxRecDepth 100000 in
theorem ck_R_cell : vx_ckM prog_9_method_69_code 7 4 2 false (some .long) tb_R_cell = true := by decide +kernel
theorem ok_R_cell {As : List Value} {sz : Nat} {h : vx_H} {P : Option Value → vx_H → Prop} (L0 : vx_L) (hlen : (vx_ar As).length ≤ 4) (hL0 : vx_ar As ++ List.replicate (4 - (vx_ar As).length) none = L0)
    (body : ∀ (lim z : vx_Z) X, vx_cl0 none lim tb_R_cell (fun r z' h' => z' = z ∧ P r h') X → X 0 L0 [] z h) : vx_Ok m_R_cell As sz h P :=
  vx_ok0 (M := (⟨"VoteWallsModel", "cell", "(III)J"⟩, prog_9_method_69_code, 4, (some .long), 2, 0, 0, 3, 0)) rfl (ow := 7) rfl ck_R_cell rfl hlen hL0 body
def kb_R_lost_0 : List vx_I := [(.aload_n 0, 1, 0, 0, .null, []), (.iload_n 1, 1, 1, 0, .null, []), (.putfield 67, 3, 7, 0, .int 0, []), (.ldc2_w 71, 3, 0, 0, .long (-9223372036854775808), []), (.lreturn, 1, 0, 0, .null, [])]
def tb_R_lost : List (Nat × List vx_I) := [(0, kb_R_lost_0)]
theorem bk_R_lost_0 : vx_bk tb_R_lost 0 = [(.aload_n 0, 1, 0, 0, .null, []), (.iload_n 1, 1, 1, 0, .null, []), (.putfield 67, 3, 7, 0, .int 0, []), (.ldc2_w 71, 3, 0, 0, .long (-9223372036854775808), []), (.lreturn, 1, 0, 0, .null, [])] := rfl
abbrev m_R_lost : Nat := 169
set_option maxRecDepth 100000 in
theorem ck_R_lost : vx_ckM prog_9_method_4_code 7 2 0 false (some .long) tb_R_lost = true := by decide +kernel
theorem ok_R_lost {As : List Value} {sz : Nat} {h : vx_H} {P : Option Value → vx_H → Prop} (L0 : vx_L) (hlen : (vx_ar As).length ≤ 2) (hL0 : vx_ar As ++ List.replicate (2 - (vx_ar As).length) none = L0)
    (body : ∀ (lim z : vx_Z) X, vx_cl0 none lim tb_R_lost (fun r z' h' => z' = z ∧ P r h') X → X 0 L0 [] z h) : vx_Ok m_R_lost As sz h P :=
  vx_ok0 (M := (⟨"VoteWallsModel", "lost", "(I)J"⟩, prog_9_method_4_code, 2, (some .long), 0, 0, 0, 1, 0)) rfl (ow := 7) rfl ck_R_lost rfl hlen hL0 body
def kb_R_copy_0 : List vx_I := [(.aload_n 0, 1, 0, 0, .null, []), (.iconst 0, 1, 0, 0, .int 0, []), (.putfield 67, 3, 7, 0, .int 0, []), (.iload_n 1, 1, 1, 0, .null, []), (.invokestatic 90, 3, 104, 1, .null, []), (.ifCond .eq 10, 3, 19, 0, .null, []), (.iload_n 3, 1, 3, 0, .null, []), (.invokestatic 90, 3, 104, 1, .null, []), (.ifCond .ne 5, 3, 21, 0, .null, [])]
def kb_R_copy_19 : List vx_I := [(.iconst (-1), 1, 0, 0, .int (-1), []), (.ireturn, 1, 0, 0, .null, [])]
def kb_R_copy_21 : List vx_I := [(.aload_n 0, 1, 0, 0, .null, []), (.getfield 9, 3, 7, 2, .null, []), (.iload_n 1, 1, 1, 0, .null, []), (.iaload, 1, 0, 0, .null, []), (.bipush (-9), 2, 0, 0, .int (-9), []), (.if_icmp .eq 14, 3, 43, 0, .null, []), (.aload_n 0, 1, 0, 0, .null, []), (.getfield 9, 3, 7, 2, .null, []), (.iload_n 3, 1, 3, 0, .null, []), (.iaload, 1, 0, 0, .null, []), (.bipush (-9), 2, 0, 0, .int (-9), []), (.if_icmp .ne 9, 3, 49, 0, .null, [])]
def kb_R_copy_43 : List vx_I := [(.aload_n 0, 1, 0, 0, .null, []), (.iconst 1, 1, 0, 0, .int 1, []), (.invokevirtual 101, 3, 108, 1, .null, [(0, 0), (0, 0), (0, 0), (0, 0), (0, 0), (0, 0), (0, 0)]), (.ireturn, 1, 0, 0, .null, [])]
def kb_R_copy_49 : List vx_I := [(.aload_n 0, 1, 0, 0, .null, []), (.getfield 9, 3, 7, 2, .null, []), (.iload_n 1, 1, 1, 0, .null, []), (.iaload, 1, 0, 0, .null, []), (.aload_n 0, 1, 0, 0, .null, []), (.getfield 9, 3, 7, 2, .null, []), (.iload_n 3, 1, 3, 0, .null, []), (.iaload, 1, 0, 0, .null, []), (.if_icmp .eq 9, 3, 70, 0, .null, []), (.aload_n 0, 1, 0, 0, .null, []), (.iconst 2, 1, 0, 0, .int 2, []), (.invokevirtual 101, 3, 108, 1, .null, [(0, 0), (0, 0), (0, 0), (0, 0), (0, 0), (0, 0), (0, 0)]), (.ireturn, 1, 0, 0, .null, [])]
def kb_R_copy_70 : List vx_I := [(.iload_n 2, 1, 2, 0, .null, []), (.ifCond .lt 38, 3, 109, 0, .null, []), (.iload 4, 2, 4, 0, .null, []), (.ifCond .lt 33, 3, 109, 0, .null, []), (.iload 5, 2, 5, 0, .null, []), (.ifCond .lt 28, 3, 109, 0, .null, []), (.iload_n 2, 1, 2, 0, .null, []), (.aload_n 0, 1, 0, 0, .null, []), (.getfield 13, 3, 7, 3, .null, []), (.iload_n 1, 1, 1, 0, .null, []), (.iaload, 1, 0, 0, .null, []), (.if_icmp .gt 18, 3, 109, 0, .null, []), (.iload 4, 2, 4, 0, .null, []), (.aload_n 0, 1, 0, 0, .null, []), (.getfield 13, 3, 7, 3, .null, []), (.iload_n 3, 1, 3, 0, .null, []), (.iaload, 1, 0, 0, .null, []), (.if_icmp .gt 7, 3, 109, 0, .null, []), (.iconst 1, 1, 0, 0, .int 1, []), (.goto 4, 3, 110, 0, .null, [])]
def kb_R_copy_109 : List vx_I := [(.iconst 0, 1, 0, 0, .int 0, [])]
def kb_R_copy_110 : List vx_I := [(.istore 6, 2, 6, 0, .null, []), (.iload 6, 2, 6, 0, .null, []), (.ifCond .eq 30, 3, 144, 0, .null, []), (.iload 5, 2, 5, 0, .null, []), (.aload_n 0, 1, 0, 0, .null, []), (.getfield 13, 3, 7, 3, .null, []), (.iload_n 1, 1, 1, 0, .null, []), (.iaload, 1, 0, 0, .null, []), (.iload_n 2, 1, 2, 0, .null, []), (.isub, 1, 0, 0, .null, []), (.if_icmp .gt 17, 3, 144, 0, .null, []), (.iload 5, 2, 5, 0, .null, []), (.aload_n 0, 1, 0, 0, .null, []), (.getfield 13, 3, 7, 3, .null, []), (.iload_n 3, 1, 3, 0, .null, []), (.iaload, 1, 0, 0, .null, []), (.iload 4, 2, 4, 0, .null, []), (.isub, 1, 0, 0, .null, []), (.if_icmp .le 9, 3, 150, 0, .null, [])]
def kb_R_copy_144 : List vx_I := [(.aload_n 0, 1, 0, 0, .null, []), (.iconst 3, 1, 0, 0, .int 3, []), (.invokevirtual 101, 3, 108, 1, .null, [(0, 0), (0, 0), (0, 0), (0, 0), (0, 0), (0, 0), (0, 0)]), (.ireturn, 1, 0, 0, .null, [])]
def kb_R_copy_150 : List vx_I := [(.iload_n 2, 1, 2, 0, .null, []), (.iload 4, 2, 4, 0, .null, []), (.if_icmp .ge 7, 3, 160, 0, .null, []), (.iconst 1, 1, 0, 0, .int 1, []), (.goto 4, 3, 161, 0, .null, [])]
def kb_R_copy_160 : List vx_I := [(.iconst 0, 1, 0, 0, .int 0, [])]
def kb_R_copy_161 : List vx_I := [(.istore 7, 2, 7, 0, .null, []), (.iconst 0, 1, 0, 0, .int 0, []), (.istore 8, 2, 8, 0, .null, [])]
def kb_R_copy_166 : List vx_I := [(.iload 8, 2, 8, 0, .null, []), (.iload 5, 2, 5, 0, .null, []), (.if_icmp .ge 57, 3, 227, 0, .null, []), (.iload 7, 2, 7, 0, .null, []), (.ifCond .eq 13, 3, 188, 0, .null, []), (.iload 5, 2, 5, 0, .null, []), (.iconst 1, 1, 0, 0, .int 1, []), (.isub, 1, 0, 0, .null, []), (.iload 8, 2, 8, 0, .null, []), (.isub, 1, 0, 0, .null, []), (.goto 5, 3, 190, 0, .null, [])]
def kb_R_copy_188 : List vx_I := [(.iload 8, 2, 8, 0, .null, [])]
def kb_R_copy_190 : List vx_I := [(.istore 9, 2, 9, 0, .null, []), (.aload_n 0, 1, 0, 0, .null, []), (.getfield 16, 3, 7, 4, .null, []), (.bipush 60, 2, 0, 0, .int 60, []), (.iload_n 3, 1, 3, 0, .null, []), (.imul, 1, 0, 0, .null, []), (.iload 4, 2, 4, 0, .null, []), (.iadd, 1, 0, 0, .null, []), (.iload 9, 2, 9, 0, .null, []), (.iadd, 1, 0, 0, .null, []), (.aload_n 0, 1, 0, 0, .null, []), (.getfield 16, 3, 7, 4, .null, []), (.bipush 60, 2, 0, 0, .int 60, []), (.iload_n 1, 1, 1, 0, .null, []), (.imul, 1, 0, 0, .null, []), (.iload_n 2, 1, 2, 0, .null, []), (.iadd, 1, 0, 0, .null, []), (.iload 9, 2, 9, 0, .null, []), (.iadd, 1, 0, 0, .null, []), (.iaload, 1, 0, 0, .null, []), (.iastore, 1, 0, 0, .null, []), (.iinc 8 1, 3, 8, 0, .int 1, []), (.goto (-58), 3, 166, 0, .null, [])]
def kb_R_copy_227 : List vx_I := [(.iload 5, 2, 5, 0, .null, []), (.ireturn, 1, 0, 0, .null, [])]
def tb_R_copy : List (Nat × List vx_I) := [(0, kb_R_copy_0), (19, kb_R_copy_19), (21, kb_R_copy_21), (43, kb_R_copy_43), (49, kb_R_copy_49), (70, kb_R_copy_70), (109, kb_R_copy_109), (110, kb_R_copy_110), (144, kb_R_copy_144), (150, kb_R_copy_150), (160, kb_R_copy_160), (161, kb_R_copy_161), (166, kb_R_copy_166), (188, kb_R_copy_188), (190, kb_R_copy_190), (227, kb_R_copy_227)]
theorem bk_R_copy_0 : vx_bk tb_R_copy 0 = [(.aload_n 0, 1, 0, 0, .null, []), (.iconst 0, 1, 0, 0, .int 0, []), (.putfield 67, 3, 7, 0, .int 0, []), (.iload_n 1, 1, 1, 0, .null, []), (.invokestatic 90, 3, 104, 1, .null, []), (.ifCond .eq 10, 3, 19, 0, .null, []), (.iload_n 3, 1, 3, 0, .null, []), (.invokestatic 90, 3, 104, 1, .null, []), (.ifCond .ne 5, 3, 21, 0, .null, [])] := rfl
theorem bk_R_copy_19 : vx_bk tb_R_copy 19 = [(.iconst (-1), 1, 0, 0, .int (-1), []), (.ireturn, 1, 0, 0, .null, [])] := rfl
theorem bk_R_copy_21 : vx_bk tb_R_copy 21 = [(.aload_n 0, 1, 0, 0, .null, []), (.getfield 9, 3, 7, 2, .null, []), (.iload_n 1, 1, 1, 0, .null, []), (.iaload, 1, 0, 0, .null, []), (.bipush (-9), 2, 0, 0, .int (-9), []), (.if_icmp .eq 14, 3, 43, 0, .null, []), (.aload_n 0, 1, 0, 0, .null, []), (.getfield 9, 3, 7, 2, .null, []), (.iload_n 3, 1, 3, 0, .null, []), (.iaload, 1, 0, 0, .null, []), (.bipush (-9), 2, 0, 0, .int (-9), []), (.if_icmp .ne 9, 3, 49, 0, .null, [])] := rfl
theorem bk_R_copy_43 : vx_bk tb_R_copy 43 = [(.aload_n 0, 1, 0, 0, .null, []), (.iconst 1, 1, 0, 0, .int 1, []), (.invokevirtual 101, 3, 108, 1, .null, [(0, 0), (0, 0), (0, 0), (0, 0), (0, 0), (0, 0), (0, 0)]), (.ireturn, 1, 0, 0, .null, [])] := rfl
theorem bk_R_copy_49 : vx_bk tb_R_copy 49 = [(.aload_n 0, 1, 0, 0, .null, []), (.getfield 9, 3, 7, 2, .null, []), (.iload_n 1, 1, 1, 0, .null, []), (.iaload, 1, 0, 0, .null, []), (.aload_n 0, 1, 0, 0, .null, []), (.getfield 9, 3, 7, 2, .null, []), (.iload_n 3, 1, 3, 0, .null, []), (.iaload, 1, 0, 0, .null, []), (.if_icmp .eq 9, 3, 70, 0, .null, []), (.aload_n 0, 1, 0, 0, .null, []), (.iconst 2, 1, 0, 0, .int 2, []), (.invokevirtual 101, 3, 108, 1, .null, [(0, 0), (0, 0), (0, 0), (0, 0), (0, 0), (0, 0), (0, 0)]), (.ireturn, 1, 0, 0, .null, [])] := rfl
theorem bk_R_copy_70 : vx_bk tb_R_copy 70 = [(.iload_n 2, 1, 2, 0, .null, []), (.ifCond .lt 38, 3, 109, 0, .null, []), (.iload 4, 2, 4, 0, .null, []), (.ifCond .lt 33, 3, 109, 0, .null, []), (.iload 5, 2, 5, 0, .null, []), (.ifCond .lt 28, 3, 109, 0, .null, []), (.iload_n 2, 1, 2, 0, .null, []), (.aload_n 0, 1, 0, 0, .null, []), (.getfield 13, 3, 7, 3, .null, []), (.iload_n 1, 1, 1, 0, .null, []), (.iaload, 1, 0, 0, .null, []), (.if_icmp .gt 18, 3, 109, 0, .null, []), (.iload 4, 2, 4, 0, .null, []), (.aload_n 0, 1, 0, 0, .null, []), (.getfield 13, 3, 7, 3, .null, []), (.iload_n 3, 1, 3, 0, .null, []), (.iaload, 1, 0, 0, .null, []), (.if_icmp .gt 7, 3, 109, 0, .null, []), (.iconst 1, 1, 0, 0, .int 1, []), (.goto 4, 3, 110, 0, .null, [])] := rfl
theorem bk_R_copy_109 : vx_bk tb_R_copy 109 = [(.iconst 0, 1, 0, 0, .int 0, [])] := rfl
theorem bk_R_copy_110 : vx_bk tb_R_copy 110 = [(.istore 6, 2, 6, 0, .null, []), (.iload 6, 2, 6, 0, .null, []), (.ifCond .eq 30, 3, 144, 0, .null, []), (.iload 5, 2, 5, 0, .null, []), (.aload_n 0, 1, 0, 0, .null, []), (.getfield 13, 3, 7, 3, .null, []), (.iload_n 1, 1, 1, 0, .null, []), (.iaload, 1, 0, 0, .null, []), (.iload_n 2, 1, 2, 0, .null, []), (.isub, 1, 0, 0, .null, []), (.if_icmp .gt 17, 3, 144, 0, .null, []), (.iload 5, 2, 5, 0, .null, []), (.aload_n 0, 1, 0, 0, .null, []), (.getfield 13, 3, 7, 3, .null, []), (.iload_n 3, 1, 3, 0, .null, []), (.iaload, 1, 0, 0, .null, []), (.iload 4, 2, 4, 0, .null, []), (.isub, 1, 0, 0, .null, []), (.if_icmp .le 9, 3, 150, 0, .null, [])] := rfl
theorem bk_R_copy_144 : vx_bk tb_R_copy 144 = [(.aload_n 0, 1, 0, 0, .null, []), (.iconst 3, 1, 0, 0, .int 3, []), (.invokevirtual 101, 3, 108, 1, .null, [(0, 0), (0, 0), (0, 0), (0, 0), (0, 0), (0, 0), (0, 0)]), (.ireturn, 1, 0, 0, .null, [])] := rfl
theorem bk_R_copy_150 : vx_bk tb_R_copy 150 = [(.iload_n 2, 1, 2, 0, .null, []), (.iload 4, 2, 4, 0, .null, []), (.if_icmp .ge 7, 3, 160, 0, .null, []), (.iconst 1, 1, 0, 0, .int 1, []), (.goto 4, 3, 161, 0, .null, [])] := rfl
theorem bk_R_copy_160 : vx_bk tb_R_copy 160 = [(.iconst 0, 1, 0, 0, .int 0, [])] := rfl
theorem bk_R_copy_161 : vx_bk tb_R_copy 161 = [(.istore 7, 2, 7, 0, .null, []), (.iconst 0, 1, 0, 0, .int 0, []), (.istore 8, 2, 8, 0, .null, [])] := rfl
theorem bk_R_copy_166 : vx_bk tb_R_copy 166 = [(.iload 8, 2, 8, 0, .null, []), (.iload 5, 2, 5, 0, .null, []), (.if_icmp .ge 57, 3, 227, 0, .null, []), (.iload 7, 2, 7, 0, .null, []), (.ifCond .eq 13, 3, 188, 0, .null, []), (.iload 5, 2, 5, 0, .null, []), (.iconst 1, 1, 0, 0, .int 1, []), (.isub, 1, 0, 0, .null, []), (.iload 8, 2, 8, 0, .null, []), (.isub, 1, 0, 0, .null, []), (.goto 5, 3, 190, 0, .null, [])] := rfl
theorem bk_R_copy_188 : vx_bk tb_R_copy 188 = [(.iload 8, 2, 8, 0, .null, [])] := rfl
theorem bk_R_copy_190 : vx_bk tb_R_copy 190 = [(.istore 9, 2, 9, 0, .null, []), (.aload_n 0, 1, 0, 0, .null, []), (.getfield 16, 3, 7, 4, .null, []), (.bipush 60, 2, 0, 0, .int 60, []), (.iload_n 3, 1, 3, 0, .null, []), (.imul, 1, 0, 0, .null, []), (.iload 4, 2, 4, 0, .null, []), (.iadd, 1, 0, 0, .null, []), (.iload 9, 2, 9, 0, .null, []), (.iadd, 1, 0, 0, .null, []), (.aload_n 0, 1, 0, 0, .null, []), (.getfield 16, 3, 7, 4, .null, []), (.bipush 60, 2, 0, 0, .int 60, []), (.iload_n 1, 1, 1, 0, .null, []), (.imul, 1, 0, 0, .null, []), (.iload_n 2, 1, 2, 0, .null, []), (.iadd, 1, 0, 0, .null, []), (.iload 9, 2, 9, 0, .null, []), (.iadd, 1, 0, 0, .null, []), (.iaload, 1, 0, 0, .null, []), (.iastore, 1, 0, 0, .null, []), (.iinc 8 1, 3, 8, 0, .int 1, []), (.goto (-58), 3, 166, 0, .null, [])] := rfl
theorem bk_R_copy_227 : vx_bk tb_R_copy 227 = [(.iload 5, 2, 5, 0, .null, []), (.ireturn, 1, 0, 0, .null, [])] := rfl
abbrev m_R_copy : Nat := 170
set_option maxRecDepth 100000 in
theorem ck_R_copy : vx_ckM prog_9_method_70_code 7 10 2 false (some .int) tb_R_copy = true := by decide +kernel
theorem ok_R_copy {As : List Value} {sz : Nat} {h : vx_H} {P : Option Value → vx_H → Prop} (L0 : vx_L) (hlen : (vx_ar As).length ≤ 10) (hL0 : vx_ar As ++ List.replicate (10 - (vx_ar As).length) none = L0)
    (body : ∀ (lim z : vx_Z) X, vx_cl0 none lim tb_R_copy (fun r z' h' => z' = z ∧ P r h') X → X 0 L0 [] z h) : vx_Ok m_R_copy As sz h P :=
  vx_ok0 (M := (⟨"VoteWallsModel", "copy", "(IIIII)I"⟩, prog_9_method_70_code, 10, (some .int), 2, 0, 0, 5, 0)) rfl (ow := 7) rfl ck_R_copy rfl hlen hL0 body
def kb_R_tell_0 : List vx_I := [(.aload_n 0, 1, 0, 0, .null, []), (.iload_n 1, 1, 1, 0, .null, []), (.invokevirtual 145, 3, 116, 1, .null, [(0, 0), (0, 0), (0, 0), (0, 0), (0, 0), (0, 0), (0, 0)]), (.ifCond .ne 5, 3, 10, 0, .null, []), (.iconst (-1), 1, 0, 0, .int (-1), []), (.ireturn, 1, 0, 0, .null, [])]
def kb_R_tell_10 : List vx_I := [(.aload_n 0, 1, 0, 0, .null, []), (.getfield 25, 3, 7, 10, .null, []), (.iload_n 1, 1, 1, 0, .null, []), (.iaload, 1, 0, 0, .null, []), (.istore_n 2, 1, 2, 0, .null, []), (.aload_n 0, 1, 0, 0, .null, []), (.getfield 22, 3, 7, 9, .null, []), (.iload_n 1, 1, 1, 0, .null, []), (.iaload, 1, 0, 0, .null, []), (.lookupswitch 67 #[(1, 25), (2, 40)], 25, 90, 0, .null, [(1, 48), (2, 63)])]
def kb_R_tell_48 : List vx_I := [(.aload_n 0, 1, 0, 0, .null, []), (.iconst 2, 1, 0, 0, .int 2, []), (.invokevirtual 246, 3, 172, 1, .null, [(0, 0), (0, 0), (0, 0), (0, 0), (0, 0), (0, 0), (0, 0)]), (.aload_n 0, 1, 0, 0, .null, []), (.iconst 1, 1, 0, 0, .int 1, []), (.invokevirtual 246, 3, 172, 1, .null, [(0, 0), (0, 0), (0, 0), (0, 0), (0, 0), (0, 0), (0, 0)]), (.iload_n 2, 1, 2, 0, .null, []), (.bipush 100, 2, 0, 0, .int 100, []), (.iadd, 1, 0, 0, .null, []), (.ireturn, 1, 0, 0, .null, [])]
def kb_R_tell_63 : List vx_I := [(.aload_n 0, 1, 0, 0, .null, []), (.iconst 3, 1, 0, 0, .int 3, []), (.invokevirtual 246, 3, 172, 1, .null, [(0, 0), (0, 0), (0, 0), (0, 0), (0, 0), (0, 0), (0, 0)]), (.aload_n 0, 1, 0, 0, .null, []), (.iconst 2, 1, 0, 0, .int 2, []), (.invokevirtual 246, 3, 172, 1, .null, [(0, 0), (0, 0), (0, 0), (0, 0), (0, 0), (0, 0), (0, 0)]), (.aload_n 0, 1, 0, 0, .null, []), (.iconst 1, 1, 0, 0, .int 1, []), (.invokevirtual 246, 3, 172, 1, .null, [(0, 0), (0, 0), (0, 0), (0, 0), (0, 0), (0, 0), (0, 0)]), (.aload_n 0, 1, 0, 0, .null, []), (.iconst 1, 1, 0, 0, .int 1, []), (.invokevirtual 246, 3, 172, 1, .null, [(0, 0), (0, 0), (0, 0), (0, 0), (0, 0), (0, 0), (0, 0)]), (.iconst 2, 1, 0, 0, .int 2, []), (.iload_n 2, 1, 2, 0, .null, []), (.imul, 1, 0, 0, .null, []), (.bipush 100, 2, 0, 0, .int 100, []), (.iadd, 1, 0, 0, .null, []), (.ireturn, 1, 0, 0, .null, [])]
def kb_R_tell_90 : List vx_I := [(.aload_n 0, 1, 0, 0, .null, []), (.iconst 1, 1, 0, 0, .int 1, []), (.invokevirtual 246, 3, 172, 1, .null, [(0, 0), (0, 0), (0, 0), (0, 0), (0, 0), (0, 0), (0, 0)]), (.iload_n 2, 1, 2, 0, .null, []), (.ireturn, 1, 0, 0, .null, [])]
def tb_R_tell : List (Nat × List vx_I) := [(0, kb_R_tell_0), (10, kb_R_tell_10), (48, kb_R_tell_48), (63, kb_R_tell_63), (90, kb_R_tell_90)]
theorem bk_R_tell_0 : vx_bk tb_R_tell 0 = [(.aload_n 0, 1, 0, 0, .null, []), (.iload_n 1, 1, 1, 0, .null, []), (.invokevirtual 145, 3, 116, 1, .null, [(0, 0), (0, 0), (0, 0), (0, 0), (0, 0), (0, 0), (0, 0)]), (.ifCond .ne 5, 3, 10, 0, .null, []), (.iconst (-1), 1, 0, 0, .int (-1), []), (.ireturn, 1, 0, 0, .null, [])] := rfl
theorem bk_R_tell_10 : vx_bk tb_R_tell 10 = [(.aload_n 0, 1, 0, 0, .null, []), (.getfield 25, 3, 7, 10, .null, []), (.iload_n 1, 1, 1, 0, .null, []), (.iaload, 1, 0, 0, .null, []), (.istore_n 2, 1, 2, 0, .null, []), (.aload_n 0, 1, 0, 0, .null, []), (.getfield 22, 3, 7, 9, .null, []), (.iload_n 1, 1, 1, 0, .null, []), (.iaload, 1, 0, 0, .null, []), (.lookupswitch 67 #[(1, 25), (2, 40)], 25, 90, 0, .null, [(1, 48), (2, 63)])] := rfl
theorem bk_R_tell_48 : vx_bk tb_R_tell 48 = [(.aload_n 0, 1, 0, 0, .null, []), (.iconst 2, 1, 0, 0, .int 2, []), (.invokevirtual 246, 3, 172, 1, .null, [(0, 0), (0, 0), (0, 0), (0, 0), (0, 0), (0, 0), (0, 0)]), (.aload_n 0, 1, 0, 0, .null, []), (.iconst 1, 1, 0, 0, .int 1, []), (.invokevirtual 246, 3, 172, 1, .null, [(0, 0), (0, 0), (0, 0), (0, 0), (0, 0), (0, 0), (0, 0)]), (.iload_n 2, 1, 2, 0, .null, []), (.bipush 100, 2, 0, 0, .int 100, []), (.iadd, 1, 0, 0, .null, []), (.ireturn, 1, 0, 0, .null, [])] := rfl
theorem bk_R_tell_63 : vx_bk tb_R_tell 63 = [(.aload_n 0, 1, 0, 0, .null, []), (.iconst 3, 1, 0, 0, .int 3, []), (.invokevirtual 246, 3, 172, 1, .null, [(0, 0), (0, 0), (0, 0), (0, 0), (0, 0), (0, 0), (0, 0)]), (.aload_n 0, 1, 0, 0, .null, []), (.iconst 2, 1, 0, 0, .int 2, []), (.invokevirtual 246, 3, 172, 1, .null, [(0, 0), (0, 0), (0, 0), (0, 0), (0, 0), (0, 0), (0, 0)]), (.aload_n 0, 1, 0, 0, .null, []), (.iconst 1, 1, 0, 0, .int 1, []), (.invokevirtual 246, 3, 172, 1, .null, [(0, 0), (0, 0), (0, 0), (0, 0), (0, 0), (0, 0), (0, 0)]), (.aload_n 0, 1, 0, 0, .null, []), (.iconst 1, 1, 0, 0, .int 1, []), (.invokevirtual 246, 3, 172, 1, .null, [(0, 0), (0, 0), (0, 0), (0, 0), (0, 0), (0, 0), (0, 0)]), (.iconst 2, 1, 0, 0, .int 2, []), (.iload_n 2, 1, 2, 0, .null, []), (.imul, 1, 0, 0, .null, []), (.bipush 100, 2, 0, 0, .int 100, []), (.iadd, 1, 0, 0, .null, []), (.ireturn, 1, 0, 0, .null, [])] := rfl
theorem bk_R_tell_90 : vx_bk tb_R_tell 90 = [(.aload_n 0, 1, 0, 0, .null, []), (.iconst 1, 1, 0, 0, .int 1, []), (.invokevirtual 246, 3, 172, 1, .null, [(0, 0), (0, 0), (0, 0), (0, 0), (0, 0), (0, 0), (0, 0)]), (.iload_n 2, 1, 2, 0, .null, []), (.ireturn, 1, 0, 0, .null, [])] := rfl
abbrev m_R_tell : Nat := 171
set_option maxRecDepth 100000 in
theorem ck_R_tell : vx_ckM prog_9_method_72_code 7 3 1 false (some .int) tb_R_tell = true := by decide +kernel
theorem ok_R_tell {As : List Value} {sz : Nat} {h : vx_H} {P : Option Value → vx_H → Prop} (L0 : vx_L) (hlen : (vx_ar As).length ≤ 3) (hL0 : vx_ar As ++ List.replicate (3 - (vx_ar As).length) none = L0)
    (body : ∀ (lim z : vx_Z) X, vx_cl0 none lim tb_R_tell (fun r z' h' => z' = z ∧ P r h') X → X 0 L0 [] z h) : vx_Ok m_R_tell As sz h P :=
  vx_ok0 (M := (⟨"VoteWallsModel", "tell", "(I)I"⟩, prog_9_method_72_code, 3, (some .int), 1, 0, 0, 1, 0)) rfl (ow := 7) rfl ck_R_tell rfl hlen hL0 body
def kb_R_begins_0 : List vx_I := [(.aload_n 0, 1, 0, 0, .null, []), (.bipush 31, 2, 0, 0, .int 31, []), (.aload_n 0, 1, 0, 0, .null, []), (.getfield 243, 3, 7, 1, .null, []), (.imul, 1, 0, 0, .null, []), (.iload_n 1, 1, 1, 0, .null, []), (.iadd, 1, 0, 0, .null, []), (.putfield 243, 3, 7, 1, .int 0, []), (.return_, 1, 0, 0, .null, [])]
def tb_R_begins : List (Nat × List vx_I) := [(0, kb_R_begins_0)]
theorem bk_R_begins_0 : vx_bk tb_R_begins 0 = [(.aload_n 0, 1, 0, 0, .null, []), (.bipush 31, 2, 0, 0, .int 31, []), (.aload_n 0, 1, 0, 0, .null, []), (.getfield 243, 3, 7, 1, .null, []), (.imul, 1, 0, 0, .null, []), (.iload_n 1, 1, 1, 0, .null, []), (.iadd, 1, 0, 0, .null, []), (.putfield 243, 3, 7, 1, .int 0, []), (.return_, 1, 0, 0, .null, [])] := rfl
abbrev m_R_begins : Nat := 172
set_option maxRecDepth 100000 in
theorem ck_R_begins : vx_ckM prog_9_method_71_code 7 2 0 false none tb_R_begins = true := by decide +kernel
theorem ok_R_begins {As : List Value} {sz : Nat} {h : vx_H} {P : Option Value → vx_H → Prop} (L0 : vx_L) (hlen : (vx_ar As).length ≤ 2) (hL0 : vx_ar As ++ List.replicate (2 - (vx_ar As).length) none = L0)
    (body : ∀ (lim z : vx_Z) X, vx_cl0 none lim tb_R_begins (fun r z' h' => z' = z ∧ P r h') X → X 0 L0 [] z h) : vx_Ok m_R_begins As sz h P :=
  vx_ok0 (M := (⟨"VoteWallsModel", "begins", "(I)V"⟩, prog_9_method_71_code, 2, none, 0, 0, 0, 1, 0)) rfl (ow := 7) rfl ck_R_begins rfl hlen hL0 body
def kb_R_visit_0 : List vx_I := [(.aload_n 0, 1, 0, 0, .null, []), (.iload_n 1, 1, 1, 0, .null, []), (.invokevirtual 145, 3, 116, 1, .null, [(0, 0), (0, 0), (0, 0), (0, 0), (0, 0), (0, 0), (0, 0)]), (.ifCond .ne 5, 3, 10, 0, .null, []), (.iconst (-1), 1, 0, 0, .int (-1), []), (.ireturn, 1, 0, 0, .null, [])]
def kb_R_visit_10 : List vx_I := [(.aload_n 0, 1, 0, 0, .null, []), (.aload_n 0, 1, 0, 0, .null, []), (.getfield 22, 3, 7, 9, .null, []), (.iload_n 1, 1, 1, 0, .null, []), (.iaload, 1, 0, 0, .null, []), (.iconst 2, 1, 0, 0, .int 2, []), (.if_icmp .ne 7, 3, 25, 0, .null, []), (.iconst 5, 1, 0, 0, .int 5, []), (.goto 4, 3, 26, 0, .null, [])]
def kb_R_visit_25 : List vx_I := [(.iconst 4, 1, 0, 0, .int 4, [])]
def kb_R_visit_26 : List vx_I := [(.invokevirtual 246, 3, 172, 1, .null, [(0, 0), (0, 0), (0, 0), (0, 0), (0, 0), (0, 0), (0, 0)]), (.aload_n 0, 1, 0, 0, .null, []), (.getfield 22, 3, 7, 9, .null, []), (.iload_n 1, 1, 1, 0, .null, []), (.iaload, 1, 0, 0, .null, []), (.iconst 2, 1, 0, 0, .int 2, []), (.if_icmp .ne 8, 3, 44, 0, .null, []), (.bipush 90, 2, 0, 0, .int 90, []), (.goto 4, 3, 45, 0, .null, [])]
def kb_R_visit_44 : List vx_I := [(.iload_n 1, 1, 1, 0, .null, [])]
def kb_R_visit_45 : List vx_I := [(.ireturn, 1, 0, 0, .null, [])]
def tb_R_visit : List (Nat × List vx_I) := [(0, kb_R_visit_0), (10, kb_R_visit_10), (25, kb_R_visit_25), (26, kb_R_visit_26), (44, kb_R_visit_44), (45, kb_R_visit_45)]
theorem bk_R_visit_0 : vx_bk tb_R_visit 0 = [(.aload_n 0, 1, 0, 0, .null, []), (.iload_n 1, 1, 1, 0, .null, []), (.invokevirtual 145, 3, 116, 1, .null, [(0, 0), (0, 0), (0, 0), (0, 0), (0, 0), (0, 0), (0, 0)]), (.ifCond .ne 5, 3, 10, 0, .null, []), (.iconst (-1), 1, 0, 0, .int (-1), []), (.ireturn, 1, 0, 0, .null, [])] := rfl
theorem bk_R_visit_10 : vx_bk tb_R_visit 10 = [(.aload_n 0, 1, 0, 0, .null, []), (.aload_n 0, 1, 0, 0, .null, []), (.getfield 22, 3, 7, 9, .null, []), (.iload_n 1, 1, 1, 0, .null, []), (.iaload, 1, 0, 0, .null, []), (.iconst 2, 1, 0, 0, .int 2, []), (.if_icmp .ne 7, 3, 25, 0, .null, []), (.iconst 5, 1, 0, 0, .int 5, []), (.goto 4, 3, 26, 0, .null, [])] := rfl
theorem bk_R_visit_25 : vx_bk tb_R_visit 25 = [(.iconst 4, 1, 0, 0, .int 4, [])] := rfl
theorem bk_R_visit_26 : vx_bk tb_R_visit 26 = [(.invokevirtual 246, 3, 172, 1, .null, [(0, 0), (0, 0), (0, 0), (0, 0), (0, 0), (0, 0), (0, 0)]), (.aload_n 0, 1, 0, 0, .null, []), (.getfield 22, 3, 7, 9, .null, []), (.iload_n 1, 1, 1, 0, .null, []), (.iaload, 1, 0, 0, .null, []), (.iconst 2, 1, 0, 0, .int 2, []), (.if_icmp .ne 8, 3, 44, 0, .null, []), (.bipush 90, 2, 0, 0, .int 90, []), (.goto 4, 3, 45, 0, .null, [])] := rfl
theorem bk_R_visit_44 : vx_bk tb_R_visit 44 = [(.iload_n 1, 1, 1, 0, .null, [])] := rfl
theorem bk_R_visit_45 : vx_bk tb_R_visit 45 = [(.ireturn, 1, 0, 0, .null, [])] := rfl
abbrev m_R_visit : Nat := 173
set_option maxRecDepth 100000 in
theorem ck_R_visit : vx_ckM prog_9_method_73_code 7 2 1 false (some .int) tb_R_visit = true := by decide +kernel
theorem ok_R_visit {As : List Value} {sz : Nat} {h : vx_H} {P : Option Value → vx_H → Prop} (L0 : vx_L) (hlen : (vx_ar As).length ≤ 2) (hL0 : vx_ar As ++ List.replicate (2 - (vx_ar As).length) none = L0)
    (body : ∀ (lim z : vx_Z) X, vx_cl0 none lim tb_R_visit (fun r z' h' => z' = z ∧ P r h') X → X 0 L0 [] z h) : vx_Ok m_R_visit As sz h P :=
  vx_ok0 (M := (⟨"VoteWallsModel", "visit", "(I)I"⟩, prog_9_method_73_code, 2, (some .int), 1, 0, 0, 1, 0)) rfl (ow := 7) rfl ck_R_visit rfl hlen hL0 body
def kb_R_as_0 : List vx_I := [(.aload_n 0, 1, 0, 0, .null, []), (.iconst 0, 1, 0, 0, .int 0, []), (.putfield 67, 3, 7, 0, .int 0, []), (.aload_n 0, 1, 0, 0, .null, []), (.iload_n 1, 1, 1, 0, .null, []), (.invokevirtual 145, 3, 116, 1, .null, [(0, 0), (0, 0), (0, 0), (0, 0), (0, 0), (0, 0), (0, 0)]), (.ifCond .ne 5, 3, 15, 0, .null, []), (.iconst (-1), 1, 0, 0, .int (-1), []), (.ireturn, 1, 0, 0, .null, [])]
def kb_R_as_15 : List vx_I := [(.iload_n 2, 1, 2, 0, .null, []), (.iconst 0, 1, 0, 0, .int 0, []), (.iconst 2, 1, 0, 0, .int 2, []), (.invokestatic 73, 3, 105, 3, .null, []), (.ifCond .ne 6, 3, 27, 0, .null, []), (.bipush (-2), 2, 0, 0, .int (-2), []), (.ireturn, 1, 0, 0, .null, [])]
def kb_R_as_27 : List vx_I := [(.aload_n 0, 1, 0, 0, .null, []), (.getfield 22, 3, 7, 9, .null, []), (.iload_n 1, 1, 1, 0, .null, []), (.iaload, 1, 0, 0, .null, []), (.iload_n 2, 1, 2, 0, .null, []), (.if_icmp .lt 7, 3, 41, 0, .null, []), (.iconst 1, 1, 0, 0, .int 1, []), (.goto 8, 3, 46, 0, .null, [])]
def kb_R_as_41 : List vx_I := [(.aload_n 0, 1, 0, 0, .null, []), (.iconst 2, 1, 0, 0, .int 2, []), (.invokevirtual 101, 3, 108, 1, .null, [(0, 0), (0, 0), (0, 0), (0, 0), (0, 0), (0, 0), (0, 0)])]
def kb_R_as_46 : List vx_I := [(.ireturn, 1, 0, 0, .null, [])]
def tb_R_as : List (Nat × List vx_I) := [(0, kb_R_as_0), (15, kb_R_as_15), (27, kb_R_as_27), (41, kb_R_as_41), (46, kb_R_as_46)]
theorem bk_R_as_0 : vx_bk tb_R_as 0 = [(.aload_n 0, 1, 0, 0, .null, []), (.iconst 0, 1, 0, 0, .int 0, []), (.putfield 67, 3, 7, 0, .int 0, []), (.aload_n 0, 1, 0, 0, .null, []), (.iload_n 1, 1, 1, 0, .null, []), (.invokevirtual 145, 3, 116, 1, .null, [(0, 0), (0, 0), (0, 0), (0, 0), (0, 0), (0, 0), (0, 0)]), (.ifCond .ne 5, 3, 15, 0, .null, []), (.iconst (-1), 1, 0, 0, .int (-1), []), (.ireturn, 1, 0, 0, .null, [])] := rfl
theorem bk_R_as_15 : vx_bk tb_R_as 15 = [(.iload_n 2, 1, 2, 0, .null, []), (.iconst 0, 1, 0, 0, .int 0, []), (.iconst 2, 1, 0, 0, .int 2, []), (.invokestatic 73, 3, 105, 3, .null, []), (.ifCond .ne 6, 3, 27, 0, .null, []), (.bipush (-2), 2, 0, 0, .int (-2), []), (.ireturn, 1, 0, 0, .null, [])] := rfl
theorem bk_R_as_27 : vx_bk tb_R_as 27 = [(.aload_n 0, 1, 0, 0, .null, []), (.getfield 22, 3, 7, 9, .null, []), (.iload_n 1, 1, 1, 0, .null, []), (.iaload, 1, 0, 0, .null, []), (.iload_n 2, 1, 2, 0, .null, []), (.if_icmp .lt 7, 3, 41, 0, .null, []), (.iconst 1, 1, 0, 0, .int 1, []), (.goto 8, 3, 46, 0, .null, [])] := rfl
theorem bk_R_as_41 : vx_bk tb_R_as 41 = [(.aload_n 0, 1, 0, 0, .null, []), (.iconst 2, 1, 0, 0, .int 2, []), (.invokevirtual 101, 3, 108, 1, .null, [(0, 0), (0, 0), (0, 0), (0, 0), (0, 0), (0, 0), (0, 0)])] := rfl
theorem bk_R_as_46 : vx_bk tb_R_as 46 = [(.ireturn, 1, 0, 0, .null, [])] := rfl
abbrev m_R_as : Nat := 174
set_option maxRecDepth 100000 in
theorem ck_R_as : vx_ckM prog_9_method_74_code 7 3 1 false (some .int) tb_R_as = true := by decide +kernel
theorem ok_R_as {As : List Value} {sz : Nat} {h : vx_H} {P : Option Value → vx_H → Prop} (L0 : vx_L) (hlen : (vx_ar As).length ≤ 3) (hL0 : vx_ar As ++ List.replicate (3 - (vx_ar As).length) none = L0)
    (body : ∀ (lim z : vx_Z) X, vx_cl0 none lim tb_R_as (fun r z' h' => z' = z ∧ P r h') X → X 0 L0 [] z h) : vx_Ok m_R_as As sz h P :=
  vx_ok0 (M := (⟨"VoteWallsModel", "as", "(II)I"⟩, prog_9_method_74_code, 3, (some .int), 1, 0, 0, 2, 0)) rfl (ow := 7) rfl ck_R_as rfl hlen hL0 body
def kb_R_trace_0 : List vx_I := [(.aload_n 0, 1, 0, 0, .null, []), (.getfield 243, 3, 7, 1, .null, []), (.ireturn, 1, 0, 0, .null, [])]
def tb_R_trace : List (Nat × List vx_I) := [(0, kb_R_trace_0)]
theorem bk_R_trace_0 : vx_bk tb_R_trace 0 = [(.aload_n 0, 1, 0, 0, .null, []), (.getfield 243, 3, 7, 1, .null, []), (.ireturn, 1, 0, 0, .null, [])] := rfl
abbrev m_R_trace : Nat := 175
set_option maxRecDepth 100000 in
theorem ck_R_trace : vx_ckM prog_9_method_75_code 7 1 0 false (some .int) tb_R_trace = true := by decide +kernel
theorem ok_R_trace {As : List Value} {sz : Nat} {h : vx_H} {P : Option Value → vx_H → Prop} (L0 : vx_L) (hlen : (vx_ar As).length ≤ 1) (hL0 : vx_ar As ++ List.replicate (1 - (vx_ar As).length) none = L0)
    (body : ∀ (lim z : vx_Z) X, vx_cl0 none lim tb_R_trace (fun r z' h' => z' = z ∧ P r h') X → X 0 L0 [] z h) : vx_Ok m_R_trace As sz h P :=
  vx_ok0 (M := (⟨"VoteWallsModel", "trace", "()I"⟩, prog_9_method_75_code, 1, (some .int), 0, 0, 0, 0, 0)) rfl (ow := 7) rfl ck_R_trace rfl hlen hL0 body
def kb_R_fault_0 : List vx_I := [(.aload_n 0, 1, 0, 0, .null, []), (.getfield 67, 3, 7, 0, .null, []), (.ireturn, 1, 0, 0, .null, [])]
def tb_R_fault : List (Nat × List vx_I) := [(0, kb_R_fault_0)]
theorem bk_R_fault_0 : vx_bk tb_R_fault 0 = [(.aload_n 0, 1, 0, 0, .null, []), (.getfield 67, 3, 7, 0, .null, []), (.ireturn, 1, 0, 0, .null, [])] := rfl
abbrev m_R_fault : Nat := 176
set_option maxRecDepth 100000 in
theorem ck_R_fault : vx_ckM prog_9_method_76_code 7 1 0 false (some .int) tb_R_fault = true := by decide +kernel
theorem ok_R_fault {As : List Value} {sz : Nat} {h : vx_H} {P : Option Value → vx_H → Prop} (L0 : vx_L) (hlen : (vx_ar As).length ≤ 1) (hL0 : vx_ar As ++ List.replicate (1 - (vx_ar As).length) none = L0)
    (body : ∀ (lim z : vx_Z) X, vx_cl0 none lim tb_R_fault (fun r z' h' => z' = z ∧ P r h') X → X 0 L0 [] z h) : vx_Ok m_R_fault As sz h P :=
  vx_ok0 (M := (⟨"VoteWallsModel", "fault", "()I"⟩, prog_9_method_76_code, 1, (some .int), 0, 0, 0, 0, 0)) rfl (ow := 7) rfl ck_R_fault rfl hlen hL0 body
def kb_R_many_0 : List vx_I := [(.iload_n 1, 1, 1, 0, .null, []), (.tableswitch 78 0 6 #[43, 48, 53, 58, 63, 68, 73], 43, 79, 0, .null, [(0, 44), (1, 49), (2, 54), (3, 59), (4, 64), (5, 69), (6, 74)])]
def kb_R_many_44 : List vx_I := [(.aload_n 0, 1, 0, 0, .null, []), (.getfield 80, 3, 7, 7, .null, []), (.ireturn, 1, 0, 0, .null, [])]
def kb_R_many_49 : List vx_I := [(.aload_n 0, 1, 0, 0, .null, []), (.getfield 77, 3, 7, 6, .null, []), (.ireturn, 1, 0, 0, .null, [])]
def kb_R_many_54 : List vx_I := [(.aload_n 0, 1, 0, 0, .null, []), (.getfield 111, 3, 7, 5, .null, []), (.ireturn, 1, 0, 0, .null, [])]
def kb_R_many_59 : List vx_I := [(.aload_n 0, 1, 0, 0, .null, []), (.getfield 123, 3, 7, 19, .null, []), (.ireturn, 1, 0, 0, .null, [])]
def kb_R_many_64 : List vx_I := [(.aload_n 0, 1, 0, 0, .null, []), (.getfield 126, 3, 7, 23, .null, []), (.ireturn, 1, 0, 0, .null, [])]
def kb_R_many_69 : List vx_I := [(.aload_n 0, 1, 0, 0, .null, []), (.getfield 129, 3, 7, 31, .null, []), (.ireturn, 1, 0, 0, .null, [])]
def kb_R_many_74 : List vx_I := [(.aload_n 0, 1, 0, 0, .null, []), (.getfield 120, 3, 7, 11, .null, []), (.ireturn, 1, 0, 0, .null, [])]
def kb_R_many_79 : List vx_I := [(.bipush (-2), 2, 0, 0, .int (-2), []), (.ireturn, 1, 0, 0, .null, [])]
def tb_R_many : List (Nat × List vx_I) := [(0, kb_R_many_0), (44, kb_R_many_44), (49, kb_R_many_49), (54, kb_R_many_54), (59, kb_R_many_59), (64, kb_R_many_64), (69, kb_R_many_69), (74, kb_R_many_74), (79, kb_R_many_79)]
theorem bk_R_many_0 : vx_bk tb_R_many 0 = [(.iload_n 1, 1, 1, 0, .null, []), (.tableswitch 78 0 6 #[43, 48, 53, 58, 63, 68, 73], 43, 79, 0, .null, [(0, 44), (1, 49), (2, 54), (3, 59), (4, 64), (5, 69), (6, 74)])] := rfl
theorem bk_R_many_44 : vx_bk tb_R_many 44 = [(.aload_n 0, 1, 0, 0, .null, []), (.getfield 80, 3, 7, 7, .null, []), (.ireturn, 1, 0, 0, .null, [])] := rfl
theorem bk_R_many_49 : vx_bk tb_R_many 49 = [(.aload_n 0, 1, 0, 0, .null, []), (.getfield 77, 3, 7, 6, .null, []), (.ireturn, 1, 0, 0, .null, [])] := rfl
theorem bk_R_many_54 : vx_bk tb_R_many 54 = [(.aload_n 0, 1, 0, 0, .null, []), (.getfield 111, 3, 7, 5, .null, []), (.ireturn, 1, 0, 0, .null, [])] := rfl
theorem bk_R_many_59 : vx_bk tb_R_many 59 = [(.aload_n 0, 1, 0, 0, .null, []), (.getfield 123, 3, 7, 19, .null, []), (.ireturn, 1, 0, 0, .null, [])] := rfl
theorem bk_R_many_64 : vx_bk tb_R_many 64 = [(.aload_n 0, 1, 0, 0, .null, []), (.getfield 126, 3, 7, 23, .null, []), (.ireturn, 1, 0, 0, .null, [])] := rfl
theorem bk_R_many_69 : vx_bk tb_R_many 69 = [(.aload_n 0, 1, 0, 0, .null, []), (.getfield 129, 3, 7, 31, .null, []), (.ireturn, 1, 0, 0, .null, [])] := rfl
theorem bk_R_many_74 : vx_bk tb_R_many 74 = [(.aload_n 0, 1, 0, 0, .null, []), (.getfield 120, 3, 7, 11, .null, []), (.ireturn, 1, 0, 0, .null, [])] := rfl
theorem bk_R_many_79 : vx_bk tb_R_many 79 = [(.bipush (-2), 2, 0, 0, .int (-2), []), (.ireturn, 1, 0, 0, .null, [])] := rfl
abbrev m_R_many : Nat := 177
set_option maxRecDepth 100000 in
theorem ck_R_many : vx_ckM prog_9_method_77_code 7 2 0 false (some .int) tb_R_many = true := by decide +kernel
theorem ok_R_many {As : List Value} {sz : Nat} {h : vx_H} {P : Option Value → vx_H → Prop} (L0 : vx_L) (hlen : (vx_ar As).length ≤ 2) (hL0 : vx_ar As ++ List.replicate (2 - (vx_ar As).length) none = L0)
    (body : ∀ (lim z : vx_Z) X, vx_cl0 none lim tb_R_many (fun r z' h' => z' = z ∧ P r h') X → X 0 L0 [] z h) : vx_Ok m_R_many As sz h P :=
  vx_ok0 (M := (⟨"VoteWallsModel", "many", "(I)I"⟩, prog_9_method_77_code, 2, (some .int), 0, 0, 0, 1, 0)) rfl (ow := 7) rfl ck_R_many rfl hlen hL0 body
end
section
/-! the step, an instruction at a time, as rows for simp (printed by wip/geneval.py) -/
section VXF
variable {sc : Option (Nat × (Nat → Int32))} {lim : vx_Z} {J : Nat → vx_K} {Q : Option Value → vx_Z → vx_H → Prop} {pc ln a b : Nat} {v : Value} {ps : List (Int32 × Nat)} {is : List vx_I} {L : vx_L} {S : List Value} {z : vx_Z} {h : vx_H}
theorem e_nil : vx_b sc lim J Q pc [] L S z h = J pc L S z h := rfl
theorem e_iconst {n : Int} : vx_b sc lim J Q pc ((.iconst n, ln, a, b, v, ps) :: is) L S z h = (vx_b sc lim J Q (pc + ln) is L (v :: S) z h) := rfl
theorem e_bipush {n : Int} : vx_b sc lim J Q pc ((.bipush n, ln, a, b, v, ps) :: is) L S z h = (vx_b sc lim J Q (pc + ln) is L (v :: S) z h) := rfl
theorem e_sipush {n : Int} : vx_b sc lim J Q pc ((.sipush n, ln, a, b, v, ps) :: is) L S z h = (vx_b sc lim J Q (pc + ln) is L (v :: S) z h) := rfl
theorem e_lconst {n : Fin 2} : vx_b sc lim J Q pc ((.lconst n, ln, a, b, v, ps) :: is) L S z h = (vx_b sc lim J Q (pc + ln) is L (v :: S) z h) := rfl
theorem e_ldc_w {n : Nat} : vx_b sc lim J Q pc ((.ldc_w n, ln, a, b, v, ps) :: is) L S z h = (vx_b sc lim J Q (pc + ln) is L (v :: S) z h) := rfl
theorem e_ldc2_w {n : Nat} : vx_b sc lim J Q pc ((.ldc2_w n, ln, a, b, v, ps) :: is) L S z h = (vx_b sc lim J Q (pc + ln) is L (v :: S) z h) := rfl
theorem e_iload {n : Nat} : vx_b sc lim J Q pc ((.iload n, ln, a, b, v, ps) :: is) L S z h = (match L[a]? with | some (some (.int x)) => vx_b sc lim J Q (pc + ln) is L (.int x :: S) z h | _ => False) := rfl
theorem e_iload_n {n : Fin 4} : vx_b sc lim J Q pc ((.iload_n n, ln, a, b, v, ps) :: is) L S z h = (match L[a]? with | some (some (.int x)) => vx_b sc lim J Q (pc + ln) is L (.int x :: S) z h | _ => False) := rfl
theorem e_lload {n : Nat} : vx_b sc lim J Q pc ((.lload n, ln, a, b, v, ps) :: is) L S z h = (match L[a]? with | some (some (.long x)) => vx_b sc lim J Q (pc + ln) is L (.long x :: S) z h | _ => False) := rfl
theorem e_lload_n {n : Fin 4} : vx_b sc lim J Q pc ((.lload_n n, ln, a, b, v, ps) :: is) L S z h = (match L[a]? with | some (some (.long x)) => vx_b sc lim J Q (pc + ln) is L (.long x :: S) z h | _ => False) := rfl
theorem e_aload {n : Nat} : vx_b sc lim J Q pc ((.aload n, ln, a, b, v, ps) :: is) L S z h = (match L[a]? with | some (some (.ref x)) => vx_b sc lim J Q (pc + ln) is L (.ref x :: S) z h | some (some (.float x)) => vx_b sc lim J Q (pc + ln) is L (.float x :: S) z h | _ => False) := rfl
theorem e_aload_n {n : Fin 4} : vx_b sc lim J Q pc ((.aload_n n, ln, a, b, v, ps) :: is) L S z h = (match L[a]? with | some (some (.ref x)) => vx_b sc lim J Q (pc + ln) is L (.ref x :: S) z h | some (some (.float x)) => vx_b sc lim J Q (pc + ln) is L (.float x :: S) z h | _ => False) := rfl
theorem e_istore {n : Nat} {x : Int32} : vx_b sc lim J Q pc ((.istore n, ln, a, b, v, ps) :: is) L (.int x :: S) z h = (vx_nl L a ∧ vx_b sc lim J Q (pc + ln) is (L.set a (some (.int x))) S z h) := rfl
theorem e_istore_n {n : Fin 4} {x : Int32} : vx_b sc lim J Q pc ((.istore_n n, ln, a, b, v, ps) :: is) L (.int x :: S) z h = (vx_nl L a ∧ vx_b sc lim J Q (pc + ln) is (L.set a (some (.int x))) S z h) := rfl
theorem e_astore {n : Nat} {x : Nat} : vx_b sc lim J Q pc ((.astore n, ln, a, b, v, ps) :: is) L (.ref x :: S) z h = (vx_nl L a ∧ vx_b sc lim J Q (pc + ln) is (L.set a (some (.ref x))) S z h) := rfl
theorem e_astore_n {n : Fin 4} {x : Nat} : vx_b sc lim J Q pc ((.astore_n n, ln, a, b, v, ps) :: is) L (.ref x :: S) z h = (vx_nl L a ∧ vx_b sc lim J Q (pc + ln) is (L.set a (some (.ref x))) S z h) := rfl
theorem e_lstore {n : Nat} {x : Int64} : vx_b sc lim J Q pc ((.lstore n, ln, a, b, v, ps) :: is) L (.long x :: S) z h = (vx_nl L a ∧ vx_b sc lim J Q (pc + ln) is ((L.set a (some (.long x))).set (a + 1) none) S z h) := rfl
theorem e_iinc {n : Nat} {m : Int} {c : Int32} : vx_b sc lim J Q pc ((.iinc n m, ln, a, b, .int c, ps) :: is) L S z h = (match L[a]? with | some (some (.int x)) => vx_nl L a ∧ vx_b sc lim J Q (pc + ln) is (L.set a (some (.int (x + c)))) S z h | _ => False) := by
  show vx_st sc lim (.iinc n m, ln, a, b, .int c, ps) L S z h J Q (vx_b sc lim J Q (pc + ln) is) = _
  unfold vx_st
  dsimp only
  cases L[a]? with
  | none => rfl
  | some w => cases w with
    | none => rfl
    | some w => cases w <;> rfl
theorem e_iadd {x y : Int32} : vx_b sc lim J Q pc ((.iadd, ln, a, b, v, ps) :: is) L (.int y :: .int x :: S) z h = (vx_b sc lim J Q (pc + ln) is L (.int (x + y) :: S) z h) := rfl
theorem e_isub {x y : Int32} : vx_b sc lim J Q pc ((.isub, ln, a, b, v, ps) :: is) L (.int y :: .int x :: S) z h = (vx_b sc lim J Q (pc + ln) is L (.int (x - y) :: S) z h) := rfl
theorem e_imul {x y : Int32} : vx_b sc lim J Q pc ((.imul, ln, a, b, v, ps) :: is) L (.int y :: .int x :: S) z h = (vx_b sc lim J Q (pc + ln) is L (.int (x * y) :: S) z h) := rfl
theorem e_iand {x y : Int32} : vx_b sc lim J Q pc ((.iand, ln, a, b, v, ps) :: is) L (.int y :: .int x :: S) z h = (vx_b sc lim J Q (pc + ln) is L (.int (x &&& y) :: S) z h) := rfl
theorem e_ior {x y : Int32} : vx_b sc lim J Q pc ((.ior, ln, a, b, v, ps) :: is) L (.int y :: .int x :: S) z h = (vx_b sc lim J Q (pc + ln) is L (.int (x ||| y) :: S) z h) := rfl
theorem e_ishl {x y : Int32} : vx_b sc lim J Q pc ((.ishl, ln, a, b, v, ps) :: is) L (.int y :: .int x :: S) z h = (vx_b sc lim J Q (pc + ln) is L (.int (x <<< (y &&& 31)) :: S) z h) := rfl
theorem e_ishr {x y : Int32} : vx_b sc lim J Q pc ((.ishr, ln, a, b, v, ps) :: is) L (.int y :: .int x :: S) z h = (vx_b sc lim J Q (pc + ln) is L (.int (x >>> (y &&& 31)) :: S) z h) := rfl
theorem e_iushr {x y : Int32} : vx_b sc lim J Q pc ((.iushr, ln, a, b, v, ps) :: is) L (.int y :: .int x :: S) z h = (vx_b sc lim J Q (pc + ln) is L (.int ((x.toUInt32 >>> (y.toUInt32 &&& Int32.toUInt32 31)).toInt32) :: S) z h) := rfl
theorem e_idiv {x y : Int32} : vx_b sc lim J Q pc ((.idiv, ln, a, b, v, ps) :: is) L (.int y :: .int x :: S) z h = (¬ y = 0 ∧ vx_b sc lim J Q (pc + ln) is L (.int (x / y) :: S) z h) := rfl
theorem e_irem {x y : Int32} : vx_b sc lim J Q pc ((.irem, ln, a, b, v, ps) :: is) L (.int y :: .int x :: S) z h = (¬ y = 0 ∧ vx_b sc lim J Q (pc + ln) is L (.int (x - x / y * y) :: S) z h) := rfl
theorem e_ldiv {x y : Int64} : vx_b sc lim J Q pc ((.ldiv, ln, a, b, v, ps) :: is) L (.long y :: .long x :: S) z h = (¬ y = 0 ∧ vx_b sc lim J Q (pc + ln) is L (.long (x / y) :: S) z h) := rfl
theorem e_lrem {x y : Int64} : vx_b sc lim J Q pc ((.lrem, ln, a, b, v, ps) :: is) L (.long y :: .long x :: S) z h = (¬ y = 0 ∧ vx_b sc lim J Q (pc + ln) is L (.long (x - x / y * y) :: S) z h) := rfl
theorem e_ineg {x : Int32} : vx_b sc lim J Q pc ((.ineg, ln, a, b, v, ps) :: is) L (.int x :: S) z h = (vx_b sc lim J Q (pc + ln) is L (.int (-x) :: S) z h) := rfl
theorem e_lshl {x : Int64} {y : Int32} : vx_b sc lim J Q pc ((.lshl, ln, a, b, v, ps) :: is) L (.int y :: .long x :: S) z h = (vx_b sc lim J Q (pc + ln) is L (.long (x <<< (y.toInt64 &&& 63)) :: S) z h) := rfl
theorem e_lcmp {x y : Int64} : vx_b sc lim J Q pc ((.lcmp, ln, a, b, v, ps) :: is) L (.long y :: .long x :: S) z h = (vx_b sc lim J Q (pc + ln) is L (.int (lg_cmp x y) :: S) z h) := rfl
theorem e_i2l {x : Int32} : vx_b sc lim J Q pc ((.i2l, ln, a, b, v, ps) :: is) L (.int x :: S) z h = (vx_b sc lim J Q (pc + ln) is L (.long x.toInt64 :: S) z h) := rfl
theorem e_i2b {x : Int32} : vx_b sc lim J Q pc ((.i2b, ln, a, b, v, ps) :: is) L (.int x :: S) z h = (vx_b sc lim J Q (pc + ln) is L (.int x.toInt8.toInt32 :: S) z h) := rfl
theorem e_i2s {x : Int32} : vx_b sc lim J Q pc ((.i2s, ln, a, b, v, ps) :: is) L (.int x :: S) z h = (vx_b sc lim J Q (pc + ln) is L (.int x.toInt16.toInt32 :: S) z h) := rfl
theorem e_dup_i {x : Int32} : vx_b sc lim J Q pc ((.dup, ln, a, b, v, ps) :: is) L (.int x :: S) z h = (vx_b sc lim J Q (pc + ln) is L (.int x :: .int x :: S) z h) := rfl
theorem e_dup_r {x : Nat} : vx_b sc lim J Q pc ((.dup, ln, a, b, v, ps) :: is) L (.ref x :: S) z h = (vx_b sc lim J Q (pc + ln) is L (.ref x :: .ref x :: S) z h) := rfl
theorem e_dup2 {x : Nat} {y : Int32} : vx_b sc lim J Q pc ((.dup2, ln, a, b, v, ps) :: is) L (.int y :: .ref x :: S) z h = (vx_b sc lim J Q (pc + ln) is L (.int y :: .ref x :: .int y :: .ref x :: S) z h) := rfl
theorem e_if_eq {off : Int} {x : Int32} : vx_b sc lim J Q pc ((.ifCond .eq off, ln, a, b, v, ps) :: is) L (.int x :: S) z h = ((x = 0 → J a L S z h) ∧ (¬ x = 0 → vx_b sc lim J Q (pc + ln) is L S z h)) := rfl
theorem e_if_ne {off : Int} {x : Int32} : vx_b sc lim J Q pc ((.ifCond .ne off, ln, a, b, v, ps) :: is) L (.int x :: S) z h = ((¬ x = 0 → J a L S z h) ∧ (x = 0 → vx_b sc lim J Q (pc + ln) is L S z h)) := rfl
theorem e_if_lt {off : Int} {x : Int32} : vx_b sc lim J Q pc ((.ifCond .lt off, ln, a, b, v, ps) :: is) L (.int x :: S) z h = ((x < 0 → J a L S z h) ∧ (¬ x < 0 → vx_b sc lim J Q (pc + ln) is L S z h)) := rfl
theorem e_if_ge {off : Int} {x : Int32} : vx_b sc lim J Q pc ((.ifCond .ge off, ln, a, b, v, ps) :: is) L (.int x :: S) z h = ((0 ≤ x → J a L S z h) ∧ (¬ 0 ≤ x → vx_b sc lim J Q (pc + ln) is L S z h)) := rfl
theorem e_if_gt {off : Int} {x : Int32} : vx_b sc lim J Q pc ((.ifCond .gt off, ln, a, b, v, ps) :: is) L (.int x :: S) z h = ((0 < x → J a L S z h) ∧ (¬ 0 < x → vx_b sc lim J Q (pc + ln) is L S z h)) := rfl
theorem e_if_le {off : Int} {x : Int32} : vx_b sc lim J Q pc ((.ifCond .le off, ln, a, b, v, ps) :: is) L (.int x :: S) z h = ((x ≤ 0 → J a L S z h) ∧ (¬ x ≤ 0 → vx_b sc lim J Q (pc + ln) is L S z h)) := rfl
theorem e_icmp_eq {off : Int} {x y : Int32} : vx_b sc lim J Q pc ((.if_icmp .eq off, ln, a, b, v, ps) :: is) L (.int y :: .int x :: S) z h = ((x = y → J a L S z h) ∧ (¬ x = y → vx_b sc lim J Q (pc + ln) is L S z h)) := rfl
theorem e_icmp_ne {off : Int} {x y : Int32} : vx_b sc lim J Q pc ((.if_icmp .ne off, ln, a, b, v, ps) :: is) L (.int y :: .int x :: S) z h = ((¬ x = y → J a L S z h) ∧ (x = y → vx_b sc lim J Q (pc + ln) is L S z h)) := rfl
theorem e_icmp_lt {off : Int} {x y : Int32} : vx_b sc lim J Q pc ((.if_icmp .lt off, ln, a, b, v, ps) :: is) L (.int y :: .int x :: S) z h = ((x < y → J a L S z h) ∧ (¬ x < y → vx_b sc lim J Q (pc + ln) is L S z h)) := rfl
theorem e_icmp_ge {off : Int} {x y : Int32} : vx_b sc lim J Q pc ((.if_icmp .ge off, ln, a, b, v, ps) :: is) L (.int y :: .int x :: S) z h = ((y ≤ x → J a L S z h) ∧ (¬ y ≤ x → vx_b sc lim J Q (pc + ln) is L S z h)) := rfl
theorem e_icmp_gt {off : Int} {x y : Int32} : vx_b sc lim J Q pc ((.if_icmp .gt off, ln, a, b, v, ps) :: is) L (.int y :: .int x :: S) z h = ((y < x → J a L S z h) ∧ (¬ y < x → vx_b sc lim J Q (pc + ln) is L S z h)) := rfl
theorem e_icmp_le {off : Int} {x y : Int32} : vx_b sc lim J Q pc ((.if_icmp .le off, ln, a, b, v, ps) :: is) L (.int y :: .int x :: S) z h = ((x ≤ y → J a L S z h) ∧ (¬ x ≤ y → vx_b sc lim J Q (pc + ln) is L S z h)) := rfl
theorem e_ifnull_r {off : Int} {x : Nat} : vx_b sc lim J Q pc ((.ifnull off, ln, a, b, v, ps) :: is) L (.ref x :: S) z h = (vx_b sc lim J Q (pc + ln) is L S z h) := rfl
theorem e_ifnull_n {off : Int} : vx_b sc lim J Q pc ((.ifnull off, ln, a, b, v, ps) :: is) L (.null :: S) z h = (J a L S z h) := rfl
theorem e_goto {off : Int} : vx_b sc lim J Q pc ((.goto off, ln, a, b, v, ps) :: is) L S z h = (J a L S z h) := rfl
theorem e_tsw {d lo hi : Int} {os : Array Int} {x : Int32} : vx_b sc lim J Q pc ((.tableswitch d lo hi os, ln, a, b, v, ps) :: is) L (.int x :: S) z h = (J (vx_sel ps a x) L S z h) := rfl
theorem e_lsw {d : Int} {qs : Array (Int × Int)} {x : Int32} : vx_b sc lim J Q pc ((.lookupswitch d qs, ln, a, b, v, ps) :: is) L (.int x :: S) z h = (J (vx_sel ps a x) L S z h) := rfl
theorem e_getf {n x : Nat} : vx_b sc lim J Q pc ((.getfield n, ln, a, b, v, ps) :: is) L (.ref x :: S) z h = (match h x with | some (.inr (.inr (c, fs))) => c = a ∧ (match fs[b]? with | some v => vx_b sc lim J Q (pc + ln) is L (v :: S) z h | none => False) | _ => False) := rfl
theorem e_puti {n x : Nat} {u y : Int32} : vx_b sc lim J Q pc ((.putfield n, ln, a, b, .int u, ps) :: is) L (.int y :: .ref x :: S) z h = (match h x with | some (.inr (.inr (c, fs))) => c = a ∧ b < fs.length ∧ vx_b sc lim J Q (pc + ln) is L S z (vx_up h x (.inr (.inr (c, fs.set b (.int y))))) | _ => False) := rfl
theorem e_putz {n x : Nat} {u : Int64} {y : Int32} : vx_b sc lim J Q pc ((.putfield n, ln, a, b, .long u, ps) :: is) L (.int y :: .ref x :: S) z h = (match h x with | some (.inr (.inr (c, fs))) => c = a ∧ b < fs.length ∧ (y = 0 ∨ y = 1) ∧ vx_b sc lim J Q (pc + ln) is L S z (vx_up h x (.inr (.inr (c, fs.set b (.int y))))) | _ => False) := rfl
theorem e_puta {n x : Nat} {y : Nat} : vx_b sc lim J Q pc ((.putfield n, ln, a, b, .null, ps) :: is) L (.ref y :: .ref x :: S) z h = (match h x with | some (.inr (.inr (c, fs))) => c = a ∧ b < fs.length ∧ vx_b sc lim J Q (pc + ln) is L S z (vx_up h x (.inr (.inr (c, fs.set b (.ref y))))) | _ => False) := rfl
theorem e_new {n : Nat} : vx_b sc lim J Q pc ((.new n, ln, a, b, v, ps) :: is) L S z h = (z.1 + 1 ≤ lim.1 ∧ z.2 + b ≤ lim.2 ∧ vx_b sc lim J Q (pc + ln) is L (.ref z.1 :: S) (z.1 + 1, z.2 + b) (vx_up h z.1 (.inr (.inr (a, vx_df a))))) := rfl
theorem e_newa {t : ArrayType} {n : Int32} : vx_b sc lim J Q pc ((.newarray t, ln, a, b, v, ps) :: is) L (.int n :: S) z h = (n = Int32.ofNat b ∧ b ≤ 100000 ∧ z.1 + 1 ≤ lim.1 ∧ z.2 + b ≤ lim.2 ∧ vx_b sc lim J Q (pc + ln) is L (.ref z.1 :: S) (z.1 + 1, z.2 + b) (vx_up h z.1 (.inl (b, fun _ => 0)))) := rfl
theorem e_anew {m : Nat} {n : Int32} : vx_b sc lim J Q pc ((.anewarray m, ln, a, b, v, ps) :: is) L (.int n :: S) z h = (n = Int32.ofNat b ∧ b ≤ 100000 ∧ z.1 + 1 ≤ lim.1 ∧ z.2 + b ≤ lim.2 ∧ vx_b sc lim J Q (pc + ln) is L (.ref z.1 :: S) (z.1 + 1, z.2 + b) (vx_up h z.1 (.inr (.inl (b, fun _ => none))))) := rfl
theorem e_iald {j : Int32} {x : Nat} : vx_b sc lim J Q pc ((.iaload, ln, a, b, v, ps) :: is) L (.int j :: .ref x :: S) z h = (match h x with | some (.inl (n, f)) => vp_in j n ∧ vx_b sc lim J Q (pc + ln) is L (.int (f j.toNatClampNeg) :: S) z h | _ => False) := rfl
theorem e_sald {j : Int32} {x : UInt32} : vx_b sc lim J Q pc ((.iaload, ln, a, b, v, ps) :: is) L (.int j :: .float x :: S) z h = (match sc with | some q => vp_in j q.1 ∧ vx_b sc lim J Q (pc + ln) is L (.int (q.2 j.toNatClampNeg) :: S) z h | none => False) := rfl
theorem e_iast {y j : Int32} {x : Nat} : vx_b sc lim J Q pc ((.iastore, ln, a, b, v, ps) :: is) L (.int y :: .int j :: .ref x :: S) z h = (match h x with | some (.inl (n, f)) => vp_in j n ∧ vx_b sc lim J Q (pc + ln) is L S z (vx_up h x (.inl (n, upd f j.toNatClampNeg y))) | _ => False) := rfl
theorem e_aald {j : Int32} {x : Nat} : vx_b sc lim J Q pc ((.aaload, ln, a, b, v, ps) :: is) L (.int j :: .ref x :: S) z h = (match h x with | some (.inr (.inl (n, f))) => vp_in j n ∧ (match f j.toNatClampNeg with | some y => vx_b sc lim J Q (pc + ln) is L (.ref y :: S) z h | none => False) | _ => False) := rfl
theorem e_aast {j : Int32} {x y : Nat} : vx_b sc lim J Q pc ((.aastore, ln, a, b, v, ps) :: is) L (.ref y :: .int j :: .ref x :: S) z h = (match h x with | some (.inr (.inl (n, f))) => vp_in j n ∧ vx_isob (h y) 1 ∧ vx_b sc lim J Q (pc + ln) is L S z (vx_up h x (.inr (.inl (n, va_up f j.toNatClampNeg (some y))))) | _ => False) := rfl
theorem e_alen {x : Nat} : vx_b sc lim J Q pc ((.arraylength, ln, a, b, v, ps) :: is) L (.ref x :: S) z h = (match h x with | some (.inl (n, _)) => vx_b sc lim J Q (pc + ln) is L (.int (Int32.ofNat n) :: S) z h | _ => False) := rfl
theorem e_slen {x : UInt32} : vx_b sc lim J Q pc ((.arraylength, ln, a, b, v, ps) :: is) L (.float x :: S) z h = (match sc with | some q => vx_b sc lim J Q (pc + ln) is L (.int (Int32.ofNat q.1) :: S) z h | none => False) := rfl
theorem e_inv {n : Nat} : vx_b sc lim J Q pc ((.invokevirtual n, ln, a, b, v, ps) :: is) L S z h = (match (S.take (b + 1)).reverse with | .ref x :: As => As.length = b ∧ (S.drop (b + 1)).length ≤ 4 ∧ vx_isob (h x) ps.length ∧ ∃ P, vx_Ok a (.ref x :: As) z.1 h P ∧ ∀ r h', P r h' → vx_b sc lim J Q (pc + ln) is L (r.toList ++ S.drop (b + 1)) z h' | _ => False) := rfl
theorem e_acp {n x y : Nat} {u n0 dp sp : Int32} : vx_b sc lim J Q pc ((.invokestatic n, ln, a, b, .int u, ps) :: is) L (.int n0 :: .int dp :: .ref y :: .int sp :: .ref x :: S) z h = (match h x, h y with | some (.inl (l0, f)), some (.inl (l1, g)) => S.length ≤ 4 ∧ ¬ sp < 0 ∧ ¬ dp < 0 ∧ ¬ n0 < 0 ∧ sp.toNatClampNeg + n0.toNatClampNeg ≤ l0 ∧ dp.toNatClampNeg + n0.toNatClampNeg ≤ l1 ∧ vx_b sc lim J Q (pc + ln) is L S z (vx_up h y (.inl (l1, va_cpy f g sp.toNatClampNeg dp.toNatClampNeg n0.toNatClampNeg))) | _, _ => False) := rfl
theorem e_min {n : Nat} {u : Int64} {x y : Int32} : vx_b sc lim J Q pc ((.invokestatic n, ln, a, b, .long u, ps) :: is) L (.int y :: .int x :: S) z h = (S.length ≤ 4 ∧ vx_b sc lim J Q (pc + ln) is L (.int (if y < x then y else x) :: S) z h) := rfl
theorem e_max {n : Nat} {u : UInt32} {x y : Int32} : vx_b sc lim J Q pc ((.invokestatic n, ln, a, b, .float u, ps) :: is) L (.int y :: .int x :: S) z h = (S.length ≤ 4 ∧ vx_b sc lim J Q (pc + ln) is L (.int (if x < y then y else x) :: S) z h) := rfl
theorem e_abs {n : Nat} {u : UInt64} {x : Int32} : vx_b sc lim J Q pc ((.invokestatic n, ln, a, b, .double u, ps) :: is) L (.int x :: S) z h = (S.length ≤ 4 ∧ vx_b sc lim J Q (pc + ln) is L (.int (if 0 ≤ x then x else 0 - x) :: S) z h) := rfl
theorem e_ins {n : Nat} : vx_b sc lim J Q pc ((.invokestatic n, ln, a, b, .null, ps) :: is) L S z h = ((S.take b).length = b ∧ (S.drop b).length ≤ 4 ∧ ∃ P, vx_Ok a (S.take b).reverse z.1 h P ∧ ∀ r h', P r h' → vx_b sc lim J Q (pc + ln) is L (r.toList ++ S.drop b) z h') := rfl
theorem e_oinit {n x : Nat} {u : Int32} : vx_b sc lim J Q pc ((.invokespecial n, ln, a, b, .int u, ps) :: is) L (.ref x :: S) z h = (S.length ≤ 4 ∧ vx_b sc lim J Q (pc + ln) is L S z h) := rfl
theorem e_inx {n : Nat} : vx_b sc lim J Q pc ((.invokespecial n, ln, a, b, .null, ps) :: is) L S z h = (match (S.take (b + 1)).reverse with | .ref x :: As => As.length = b ∧ (S.drop (b + 1)).length ≤ 4 ∧ z.1 + (ps.map (·.2)).headD 0 ≤ lim.1 ∧ z.2 + ((ps.map (·.2)).getLastD 0) ≤ lim.2 ∧ ∃ P, vx_Ok a (.ref x :: As) z.1 h P ∧ ∀ r h', P r h' → vx_b sc lim J Q (pc + ln) is L (r.toList ++ S.drop (b + 1)) (z.1 + (ps.map (·.2)).headD 0, z.2 + (ps.map (·.2)).getLastD 0) h' | _ => False) := rfl
theorem e_iret {x : Int32} : vx_b sc lim J Q pc ((.ireturn, ln, a, b, v, ps) :: is) L [.int x] z h = ((a = 1 → x = 0 ∨ x = 1) ∧ Q (some (.int x)) z h) := rfl
theorem e_lret {x : Int64} : vx_b sc lim J Q pc ((.lreturn, ln, a, b, v, ps) :: is) L [.long x] z h = (Q (some (.long x)) z h) := rfl
theorem e_vret : vx_b sc lim J Q pc ((.return_, ln, a, b, v, ps) :: is) L [] z h = (Q none z h) := rfl
end VXF
end
section
/-! through joins in one go -/
section VXM
variable {sc : Option (Nat × (Nat → Int32))} {lim : vx_Z} {J J' : Nat → vx_K} {Q : Option Value → vx_Z → vx_H → Prop} {k k' : vx_K}
set_option maxHeartbeats 1000000 in
theorem vx_st_mono (hJ : ∀ t L S z h, J t L S z h → J' t L S z h) (hk : ∀ L S z h, k L S z h → k' L S z h) (it : vx_I) (L : vx_L) (S : List Value) (z : vx_Z) (h : vx_H) (hst : vx_st sc lim it L S z h J Q k) : vx_st sc lim it L S z h J' Q k' := by
  obtain ⟨i, ln, a, b, v, ps⟩ := it
  revert hst
  unfold vx_st
  dsimp only
  (repeat' split) <;> intro hst <;> first
    | exact hst
    | exact hk _ _ _ _ hst
    | exact hJ _ _ _ _ _ hst
    | exact ⟨hst.1, hk _ _ _ _ hst.2⟩
    | exact ⟨fun q => hJ _ _ _ _ _ (hst.1 q), fun q => hk _ _ _ _ (hst.2 q)⟩
    | exact ⟨hst.1, hst.2.1, hk _ _ _ _ hst.2.2⟩
    | exact ⟨hst.1, hst.2.1, hst.2.2.1, hk _ _ _ _ hst.2.2.2⟩
    | exact ⟨hst.1, hst.2.1, hst.2.2.1, hst.2.2.2.1, hk _ _ _ _ hst.2.2.2.2⟩
    | exact ⟨hst.1, hst.2.1, hst.2.2.1, hst.2.2.2.1, hst.2.2.2.2.1, hst.2.2.2.2.2.1, hk _ _ _ _ hst.2.2.2.2.2.2⟩
    | (obtain ⟨q1, q2, q3, P, q4, q5⟩ := hst; exact ⟨q1, q2, q3, P, q4, fun r h' hp => hk _ _ _ _ (q5 r h' hp)⟩)
    | (obtain ⟨q1, q2, P, q4, q5⟩ := hst; exact ⟨q1, q2, P, q4, fun r h' hp => hk _ _ _ _ (q5 r h' hp)⟩)
    | (obtain ⟨q1, q2, q2a, q3, P, q4, q5⟩ := hst; exact ⟨q1, q2, q2a, q3, P, q4, fun r h' hp => hk _ _ _ _ (q5 r h' hp)⟩)
theorem vx_b_mono (hJ : ∀ t L S z h, J t L S z h → J' t L S z h) : ∀ (is : List vx_I) (pc : Nat) (L : vx_L) (S : List Value) (z : vx_Z) (h : vx_H), vx_b sc lim J Q pc is L S z h → vx_b sc lim J' Q pc is L S z h
  | [], pc, L, S, z, h, hb => hJ pc L S z h hb
  | it :: is, pc, L, S, z, h, hb => vx_st_mono hJ (vx_b_mono hJ is (pc + it.2.1)) it L S z h hb
/-- go on through blocks, but for those where one stops -/
def vx_run (sc : Option (Nat × (Nat → Int32))) (lim : vx_Z) (tab : List (Nat × List vx_I)) (Q : Option Value → vx_Z → vx_H → Prop) (X : Nat → vx_K) (stops : List Nat) : Nat → Nat → vx_K
  | 0, t => X t
  | n + 1, t => fun L S z h => if t ∈ stops then X t L S z h else vx_b sc lim (vx_run sc lim tab Q X stops n) Q t (vx_bk tab t) L S z h
theorem vx_run_X {tab : List (Nat × List vx_I)} {X : Nat → vx_K} (hX : vx_cl0 sc lim tab Q X) (stops : List Nat) : ∀ n t L S z h, vx_run sc lim tab Q X stops n t L S z h → X t L S z h
  | 0, _, _, _, _, _, h => h
  | n + 1, t, L, S, z, h, hr => by
    unfold vx_run at hr
    split at hr
    · exact hr
    · exact hX t L S z h (vx_b_mono (vx_run_X hX stops n) _ _ _ _ _ _ hr)
theorem vx_go {tab : List (Nat × List vx_I)} {X : Nat → vx_K} (hX : vx_cl0 sc lim tab Q X) (stops : List Nat) (n : Nat) {t : Nat} {L : vx_L} {S : List Value} {z : vx_Z} {h : vx_H} (hr : vx_b sc lim (vx_run sc lim tab Q X stops n) Q t (vx_bk tab t) L S z h) : X t L S z h := hX t L S z h (vx_b_mono (vx_run_X hX stops n) _ _ _ _ _ _ hr)
theorem vx_run_s {tab : List (Nat × List vx_I)} {X : Nat → vx_K} {stops : List Nat} {n t : Nat} {L : vx_L} {S : List Value} {z : vx_Z} {h : vx_H} : vx_run sc lim tab Q X stops (n + 1) t L S z h = if t ∈ stops then X t L S z h else vx_b sc lim (vx_run sc lim tab Q X stops n) Q t (vx_bk tab t) L S z h := rfl
end VXM
def vx_bI (c : Prop) [Decidable c] : Int32 := if c then 1 else 0
theorem vx_bI_0 {c : Prop} [Decidable c] : vx_bI c = 0 ↔ ¬ c := by unfold vx_bI; split <;> simp_all
theorem vx_bI_01 {c : Prop} [Decidable c] : vx_bI c = 0 ∨ vx_bI c = 1 := by unfold vx_bI; split <;> simp
theorem vx_bI_t {c : Prop} [Decidable c] (h : c) : vx_bI c = 1 := if_pos h
theorem vx_bI_f {c : Prop} [Decidable c] (h : ¬ c) : vx_bI c = 0 := if_neg h
end
section
/-! small things -/
theorem vx_up_a (h : vx_H) (k : Nat) (c : vx_C) (j : Nat) : vx_up h k c j = if j = k then some c else h j := rfl
theorem vx_up_id {h : vx_H} {k : Nat} {c : vx_C} (hk : h k = some c) : vx_up h k c = h := by
  funext j
  by_cases hj : j = k
  · subst hj; rw [vx_up_s, hk]
  · rw [vx_up_n _ _ hj]
theorem vw_upd_lt (f g : Nat → Int32) (i : Nat) {v : Int32} (hv : v = g i) : upd (fun j => if j < i then g j else f j) i v = fun j => if j < i + 1 then g j else f j := by
  subst hv
  funext j
  by_cases h1 : j = i
  · subst h1; simp [upd]
  · by_cases h2 : j < i
    · simp [upd, h1, h2, show j < i + 1 by omega]
    · simp [upd, h1, h2, show ¬ j < i + 1 by omega]
theorem vw_upd_0 (f g : Nat → Int32) : (fun j => if j < 0 then g j else f j) = f := by funext j; simp
/-- a call whose answer and cells are known -/
theorem vx_cl1 {n : Nat} {As : List Value} {sz : Nat} {h : vx_H} {v : Option Value} {h' : vx_H} {K : Option Value → vx_H → Prop} (hs : vx_Ok n As sz h (fun r h2 => r = v ∧ h2 = h')) (hk : K v h') : ∃ P, vx_Ok n As sz h P ∧ ∀ r h2, P r h2 → K r h2 :=
  ⟨_, hs, fun r h2 hp => by obtain ⟨rfl, rfl⟩ := hp; exact hk⟩
theorem vw_fill (h : vx_H) (sz x n : Nat) (f : Nat → Int32) (v : Int32) (hx : h x = some (.inl (n, f))) (hn : n < 2 ^ 31) :
    vx_Ok m_JA_fill [.ref x, .int v] sz h (fun r h' => r = none ∧ h' = vx_up h x (.inl (n, fun j => if j < n then v else f j))) := by
  refine ok_JA_fill [some (.ref x), some (.int v), none, none] (Nat.le_of_ble_eq_true rfl) rfl (fun lim z X hX => ?_)
  have loop : ∀ (k i : Nat), i + k = n → X 5 [some (.ref x), some (.int v), some (.int (nI i)), some (.int (nI n))] [] z (vx_up h x (.inl (n, fun j => if j < i then v else f j))) := by
    intro k
    induction k with
    | zero =>
      intro i hi
      refine vx_go hX [] 9 ?_
      simp only [e_nil, e_iconst, e_bipush, e_sipush, e_lconst, e_ldc_w, e_ldc2_w, e_iload, e_iload_n, e_lload, e_lload_n, e_aload, e_aload_n, e_istore, e_istore_n, e_astore, e_astore_n, e_lstore, e_iinc, e_iadd, e_isub, e_imul, e_iand, e_ior, e_ishl, e_ishr, e_iushr, e_idiv, e_irem, e_ldiv, e_lrem, e_ineg, e_lshl, e_lcmp, e_i2l, e_i2b, e_i2s, e_dup_i, e_dup_r, e_dup2, e_if_eq, e_if_ne, e_if_lt, e_if_ge, e_if_gt, e_if_le, e_icmp_eq, e_icmp_ne, e_icmp_lt, e_icmp_ge, e_icmp_gt, e_icmp_le, e_ifnull_r, e_ifnull_n, e_goto, e_tsw, e_lsw, e_getf, e_puti, e_putz, e_puta, e_new, e_newa, e_anew, e_iald, e_sald, e_iast, e_aald, e_aast, e_alen, e_slen, e_inv, e_acp, e_min, e_max, e_abs, e_ins, e_oinit, e_inx, e_iret, e_lret, e_vret, vx_run_s, List.getElem?_cons_succ, List.getElem?_cons_zero, List.set_cons_succ, List.set_cons_zero, List.mem_cons, List.not_mem_nil, or_false, false_or, if_true, if_false, ite_true, ite_false, ↓reduceIte, reduceCtorEq, List.take_succ_cons, List.take_zero, List.drop_succ_cons, List.drop_zero, List.reverse_cons, List.reverse_nil, List.nil_append, List.cons_append, List.append_nil, List.length_cons, List.length_nil, Option.toList_some, Option.toList_none, vx_nl, vx_isob, true_and, and_true, Nat.reduceAdd, Nat.reduceEqDiff, Nat.reduceLeDiff, Nat.zero_add, Nat.add_zero, not_false_eq_true, not_true_eq_false, Nat.reduceLT, Nat.reduceMul, Nat.reduceSub, Nat.zero_le, vx_up_s, false_implies, true_implies, forall_const, implies_true, imp_self, Nat.le_refl, forall_eq, forall_eq_apply_imp_iff, and_imp, exists_and_left, exists_eq_left, Nat.one_ne_zero, eq_self, true_or, or_true, Option.some.injEq, Value.int.injEq, Value.long.injEq, bk_JA_fill_0, bk_JA_fill_5, bk_JA_fill_20]
      have e : i = n := by omega
      subst e
      exact ⟨fun _ => rfl, fun q => absurd (Int32.le_refl _) q⟩
    | succ k ih =>
      intro i hi
      refine vx_go hX [5] 9 ?_
      simp only [e_nil, e_iconst, e_bipush, e_sipush, e_lconst, e_ldc_w, e_ldc2_w, e_iload, e_iload_n, e_lload, e_lload_n, e_aload, e_aload_n, e_istore, e_istore_n, e_astore, e_astore_n, e_lstore, e_iinc, e_iadd, e_isub, e_imul, e_iand, e_ior, e_ishl, e_ishr, e_iushr, e_idiv, e_irem, e_ldiv, e_lrem, e_ineg, e_lshl, e_lcmp, e_i2l, e_i2b, e_i2s, e_dup_i, e_dup_r, e_dup2, e_if_eq, e_if_ne, e_if_lt, e_if_ge, e_if_gt, e_if_le, e_icmp_eq, e_icmp_ne, e_icmp_lt, e_icmp_ge, e_icmp_gt, e_icmp_le, e_ifnull_r, e_ifnull_n, e_goto, e_tsw, e_lsw, e_getf, e_puti, e_putz, e_puta, e_new, e_newa, e_anew, e_iald, e_sald, e_iast, e_aald, e_aast, e_alen, e_slen, e_inv, e_acp, e_min, e_max, e_abs, e_ins, e_oinit, e_inx, e_iret, e_lret, e_vret, vx_run_s, List.getElem?_cons_succ, List.getElem?_cons_zero, List.set_cons_succ, List.set_cons_zero, List.mem_cons, List.not_mem_nil, or_false, false_or, if_true, if_false, ite_true, ite_false, ↓reduceIte, reduceCtorEq, List.take_succ_cons, List.take_zero, List.drop_succ_cons, List.drop_zero, List.reverse_cons, List.reverse_nil, List.nil_append, List.cons_append, List.append_nil, List.length_cons, List.length_nil, Option.toList_some, Option.toList_none, vx_nl, vx_isob, true_and, and_true, Nat.reduceAdd, Nat.reduceEqDiff, Nat.reduceLeDiff, Nat.zero_add, Nat.add_zero, not_false_eq_true, not_true_eq_false, Nat.reduceLT, Nat.reduceMul, Nat.reduceSub, Nat.zero_le, vx_up_s, false_implies, true_implies, forall_const, implies_true, imp_self, Nat.le_refl, forall_eq, forall_eq_apply_imp_iff, and_imp, exists_and_left, exists_eq_left, Nat.one_ne_zero, eq_self, true_or, or_true, Option.some.injEq, Value.int.injEq, Value.long.injEq, bk_JA_fill_0, bk_JA_fill_5, bk_JA_fill_20]
      refine ⟨fun q => absurd q (nI_ge (by omega) hn), fun _ => ⟨vp_in_nI (by omega) hn, ?_⟩⟩
      have := ih (i + 1) (by omega)
      rw [vx_up_up, nI_clamp (by omega), vw_upd_lt f (fun _ => v) i rfl, ← nI_succ]
      exact this
  refine vx_go hX [5] 9 ?_
  simp only [e_nil, e_iconst, e_bipush, e_sipush, e_lconst, e_ldc_w, e_ldc2_w, e_iload, e_iload_n, e_lload, e_lload_n, e_aload, e_aload_n, e_istore, e_istore_n, e_astore, e_astore_n, e_lstore, e_iinc, e_iadd, e_isub, e_imul, e_iand, e_ior, e_ishl, e_ishr, e_iushr, e_idiv, e_irem, e_ldiv, e_lrem, e_ineg, e_lshl, e_lcmp, e_i2l, e_i2b, e_i2s, e_dup_i, e_dup_r, e_dup2, e_if_eq, e_if_ne, e_if_lt, e_if_ge, e_if_gt, e_if_le, e_icmp_eq, e_icmp_ne, e_icmp_lt, e_icmp_ge, e_icmp_gt, e_icmp_le, e_ifnull_r, e_ifnull_n, e_goto, e_tsw, e_lsw, e_getf, e_puti, e_putz, e_puta, e_new, e_newa, e_anew, e_iald, e_sald, e_iast, e_aald, e_aast, e_alen, e_slen, e_inv, e_acp, e_min, e_max, e_abs, e_ins, e_oinit, e_inx, e_iret, e_lret, e_vret, vx_run_s, List.getElem?_cons_succ, List.getElem?_cons_zero, List.set_cons_succ, List.set_cons_zero, List.mem_cons, List.not_mem_nil, or_false, false_or, if_true, if_false, ite_true, ite_false, ↓reduceIte, reduceCtorEq, List.take_succ_cons, List.take_zero, List.drop_succ_cons, List.drop_zero, List.reverse_cons, List.reverse_nil, List.nil_append, List.cons_append, List.append_nil, List.length_cons, List.length_nil, Option.toList_some, Option.toList_none, vx_nl, vx_isob, true_and, and_true, Nat.reduceAdd, Nat.reduceEqDiff, Nat.reduceLeDiff, Nat.zero_add, Nat.add_zero, not_false_eq_true, not_true_eq_false, Nat.reduceLT, Nat.reduceMul, Nat.reduceSub, Nat.zero_le, vx_up_s, false_implies, true_implies, forall_const, implies_true, imp_self, Nat.le_refl, forall_eq, forall_eq_apply_imp_iff, and_imp, exists_and_left, exists_eq_left, Nat.one_ne_zero, eq_self, true_or, or_true, Option.some.injEq, Value.int.injEq, Value.long.injEq, bk_JA_fill_0, bk_JA_fill_5, bk_JA_fill_20, hx]
  have := loop n 0 (by omega)
  rw [vw_upd_0 f (fun _ => v), vx_up_id hx] at this
  exact this
theorem vw_compare (h : vx_H) (sz : Nat) (x y : Int32) : vx_Ok m_JI_compare [.int x, .int y] sz h (fun r h' => r = some (.int (if x < y then -1 else if x = y then 0 else 1)) ∧ h' = h) := by
  refine ok_JI_compare [some (.int x), some (.int y)] (Nat.le_of_ble_eq_true rfl) rfl (fun lim z X hX => ?_)
  refine vx_go hX [] 9 ?_
  simp only [e_nil, e_iconst, e_bipush, e_sipush, e_lconst, e_ldc_w, e_ldc2_w, e_iload, e_iload_n, e_lload, e_lload_n, e_aload, e_aload_n, e_istore, e_istore_n, e_astore, e_astore_n, e_lstore, e_iinc, e_iadd, e_isub, e_imul, e_iand, e_ior, e_ishl, e_ishr, e_iushr, e_idiv, e_irem, e_ldiv, e_lrem, e_ineg, e_lshl, e_lcmp, e_i2l, e_i2b, e_i2s, e_dup_i, e_dup_r, e_dup2, e_if_eq, e_if_ne, e_if_lt, e_if_ge, e_if_gt, e_if_le, e_icmp_eq, e_icmp_ne, e_icmp_lt, e_icmp_ge, e_icmp_gt, e_icmp_le, e_ifnull_r, e_ifnull_n, e_goto, e_tsw, e_lsw, e_getf, e_puti, e_putz, e_puta, e_new, e_newa, e_anew, e_iald, e_sald, e_iast, e_aald, e_aast, e_alen, e_slen, e_inv, e_acp, e_min, e_max, e_abs, e_ins, e_oinit, e_inx, e_iret, e_lret, e_vret, vx_run_s, List.getElem?_cons_succ, List.getElem?_cons_zero, List.set_cons_succ, List.set_cons_zero, List.mem_cons, List.not_mem_nil, or_false, false_or, if_true, if_false, ite_true, ite_false, ↓reduceIte, reduceCtorEq, List.take_succ_cons, List.take_zero, List.drop_succ_cons, List.drop_zero, List.reverse_cons, List.reverse_nil, List.nil_append, List.cons_append, List.append_nil, List.length_cons, List.length_nil, Option.toList_some, Option.toList_none, vx_nl, vx_isob, true_and, and_true, Nat.reduceAdd, Nat.reduceEqDiff, Nat.reduceLeDiff, Nat.zero_add, Nat.add_zero, not_false_eq_true, not_true_eq_false, Nat.reduceLT, Nat.reduceMul, Nat.reduceSub, Nat.zero_le, vx_up_s, false_implies, true_implies, forall_const, implies_true, imp_self, Nat.le_refl, forall_eq, forall_eq_apply_imp_iff, and_imp, exists_and_left, exists_eq_left, Nat.one_ne_zero, eq_self, true_or, or_true, Option.some.injEq, Value.int.injEq, Value.long.injEq, bk_JI_compare_0, bk_JI_compare_9, bk_JI_compare_18, bk_JI_compare_19]
  refine ⟨fun q => ⟨fun q2 => ?_, fun q2 => ?_⟩, fun q => ?_⟩
  · rw [if_neg (Int32.not_lt.mpr q), if_neg q2]
  · rw [if_neg (Int32.not_lt.mpr q), if_pos q2]
  · rw [if_pos (Int32.not_le.mp q)]
/-- the bit of a set -/
def vw_in (s k : Int32) : Bool := decide (¬ (s >>> (k &&& 31)) &&& 1 = 0)
theorem vw_isIn (h : vx_H) (sz : Nat) (s k : Int32) : vx_Ok m_V_isIn [.int s, .int k] sz h (fun r h' => r = some (.int (vx_bI (vw_in s k = true))) ∧ h' = h) := by
  refine ok_V_isIn [some (.int s), some (.int k)] (Nat.le_of_ble_eq_true rfl) rfl (fun lim z X hX => ?_)
  refine vx_go hX [] 9 ?_
  simp only [e_nil, e_iconst, e_bipush, e_sipush, e_lconst, e_ldc_w, e_ldc2_w, e_iload, e_iload_n, e_lload, e_lload_n, e_aload, e_aload_n, e_istore, e_istore_n, e_astore, e_astore_n, e_lstore, e_iinc, e_iadd, e_isub, e_imul, e_iand, e_ior, e_ishl, e_ishr, e_iushr, e_idiv, e_irem, e_ldiv, e_lrem, e_ineg, e_lshl, e_lcmp, e_i2l, e_i2b, e_i2s, e_dup_i, e_dup_r, e_dup2, e_if_eq, e_if_ne, e_if_lt, e_if_ge, e_if_gt, e_if_le, e_icmp_eq, e_icmp_ne, e_icmp_lt, e_icmp_ge, e_icmp_gt, e_icmp_le, e_ifnull_r, e_ifnull_n, e_goto, e_tsw, e_lsw, e_getf, e_puti, e_putz, e_puta, e_new, e_newa, e_anew, e_iald, e_sald, e_iast, e_aald, e_aast, e_alen, e_slen, e_inv, e_acp, e_min, e_max, e_abs, e_ins, e_oinit, e_inx, e_iret, e_lret, e_vret, vx_run_s, List.getElem?_cons_succ, List.getElem?_cons_zero, List.set_cons_succ, List.set_cons_zero, List.mem_cons, List.not_mem_nil, or_false, false_or, if_true, if_false, ite_true, ite_false, ↓reduceIte, reduceCtorEq, List.take_succ_cons, List.take_zero, List.drop_succ_cons, List.drop_zero, List.reverse_cons, List.reverse_nil, List.nil_append, List.cons_append, List.append_nil, List.length_cons, List.length_nil, Option.toList_some, Option.toList_none, vx_nl, vx_isob, true_and, and_true, Nat.reduceAdd, Nat.reduceEqDiff, Nat.reduceLeDiff, Nat.zero_add, Nat.add_zero, not_false_eq_true, not_true_eq_false, Nat.reduceLT, Nat.reduceMul, Nat.reduceSub, Nat.zero_le, vx_up_s, false_implies, true_implies, forall_const, implies_true, imp_self, Nat.le_refl, forall_eq, forall_eq_apply_imp_iff, and_imp, exists_and_left, exists_eq_left, Nat.one_ne_zero, eq_self, true_or, or_true, Option.some.injEq, Value.int.injEq, Value.long.injEq, bk_V_isIn_0, bk_V_isIn_12, bk_V_isIn_13]
  refine ⟨fun q => ?_, fun q => ?_⟩
  · rw [vx_bI_f (by simp [vw_in, q])]
  · rw [vx_bI_t (by simp [vw_in, q])]
theorem vw_isSheet (h : vx_H) (sz : Nat) (k : Int32) : vx_Ok m_V_isSheet [.int k] sz h (fun r h' => r = some (.int (vx_bI (0 ≤ k ∧ k < 4))) ∧ h' = h) := by
  refine ok_V_isSheet [some (.int k)] (Nat.le_of_ble_eq_true rfl) rfl (fun lim z X hX => ?_)
  refine vx_go hX [] 9 ?_
  simp only [e_nil, e_iconst, e_bipush, e_sipush, e_lconst, e_ldc_w, e_ldc2_w, e_iload, e_iload_n, e_lload, e_lload_n, e_aload, e_aload_n, e_istore, e_istore_n, e_astore, e_astore_n, e_lstore, e_iinc, e_iadd, e_isub, e_imul, e_iand, e_ior, e_ishl, e_ishr, e_iushr, e_idiv, e_irem, e_ldiv, e_lrem, e_ineg, e_lshl, e_lcmp, e_i2l, e_i2b, e_i2s, e_dup_i, e_dup_r, e_dup2, e_if_eq, e_if_ne, e_if_lt, e_if_ge, e_if_gt, e_if_le, e_icmp_eq, e_icmp_ne, e_icmp_lt, e_icmp_ge, e_icmp_gt, e_icmp_le, e_ifnull_r, e_ifnull_n, e_goto, e_tsw, e_lsw, e_getf, e_puti, e_putz, e_puta, e_new, e_newa, e_anew, e_iald, e_sald, e_iast, e_aald, e_aast, e_alen, e_slen, e_inv, e_acp, e_min, e_max, e_abs, e_ins, e_oinit, e_inx, e_iret, e_lret, e_vret, vx_run_s, List.getElem?_cons_succ, List.getElem?_cons_zero, List.set_cons_succ, List.set_cons_zero, List.mem_cons, List.not_mem_nil, or_false, false_or, if_true, if_false, ite_true, ite_false, ↓reduceIte, reduceCtorEq, List.take_succ_cons, List.take_zero, List.drop_succ_cons, List.drop_zero, List.reverse_cons, List.reverse_nil, List.nil_append, List.cons_append, List.append_nil, List.length_cons, List.length_nil, Option.toList_some, Option.toList_none, vx_nl, vx_isob, true_and, and_true, Nat.reduceAdd, Nat.reduceEqDiff, Nat.reduceLeDiff, Nat.zero_add, Nat.add_zero, not_false_eq_true, not_true_eq_false, Nat.reduceLT, Nat.reduceMul, Nat.reduceSub, Nat.zero_le, vx_up_s, false_implies, true_implies, forall_const, implies_true, imp_self, Nat.le_refl, forall_eq, forall_eq_apply_imp_iff, and_imp, exists_and_left, exists_eq_left, Nat.one_ne_zero, eq_self, true_or, or_true, Option.some.injEq, Value.int.injEq, Value.long.injEq, bk_V_isSheet_0, bk_V_isSheet_13, bk_V_isSheet_14]
  unfold vx_bI; simp only [Int32.lt_iff_toInt_lt, Int32.le_iff_toInt_le, ← Int32.toInt_inj, Int32.reduceToInt]; split <;> simp <;> omega
theorem vw_isLane (h : vx_H) (sz : Nat) (k : Int32) : vx_Ok m_V_isLane [.int k] sz h (fun r h' => r = some (.int (vx_bI (0 ≤ k ∧ k < 3))) ∧ h' = h) := by
  refine ok_V_isLane [some (.int k)] (Nat.le_of_ble_eq_true rfl) rfl (fun lim z X hX => ?_)
  refine vx_go hX [] 9 ?_
  simp only [e_nil, e_iconst, e_bipush, e_sipush, e_lconst, e_ldc_w, e_ldc2_w, e_iload, e_iload_n, e_lload, e_lload_n, e_aload, e_aload_n, e_istore, e_istore_n, e_astore, e_astore_n, e_lstore, e_iinc, e_iadd, e_isub, e_imul, e_iand, e_ior, e_ishl, e_ishr, e_iushr, e_idiv, e_irem, e_ldiv, e_lrem, e_ineg, e_lshl, e_lcmp, e_i2l, e_i2b, e_i2s, e_dup_i, e_dup_r, e_dup2, e_if_eq, e_if_ne, e_if_lt, e_if_ge, e_if_gt, e_if_le, e_icmp_eq, e_icmp_ne, e_icmp_lt, e_icmp_ge, e_icmp_gt, e_icmp_le, e_ifnull_r, e_ifnull_n, e_goto, e_tsw, e_lsw, e_getf, e_puti, e_putz, e_puta, e_new, e_newa, e_anew, e_iald, e_sald, e_iast, e_aald, e_aast, e_alen, e_slen, e_inv, e_acp, e_min, e_max, e_abs, e_ins, e_oinit, e_inx, e_iret, e_lret, e_vret, vx_run_s, List.getElem?_cons_succ, List.getElem?_cons_zero, List.set_cons_succ, List.set_cons_zero, List.mem_cons, List.not_mem_nil, or_false, false_or, if_true, if_false, ite_true, ite_false, ↓reduceIte, reduceCtorEq, List.take_succ_cons, List.take_zero, List.drop_succ_cons, List.drop_zero, List.reverse_cons, List.reverse_nil, List.nil_append, List.cons_append, List.append_nil, List.length_cons, List.length_nil, Option.toList_some, Option.toList_none, vx_nl, vx_isob, true_and, and_true, Nat.reduceAdd, Nat.reduceEqDiff, Nat.reduceLeDiff, Nat.zero_add, Nat.add_zero, not_false_eq_true, not_true_eq_false, Nat.reduceLT, Nat.reduceMul, Nat.reduceSub, Nat.zero_le, vx_up_s, false_implies, true_implies, forall_const, implies_true, imp_self, Nat.le_refl, forall_eq, forall_eq_apply_imp_iff, and_imp, exists_and_left, exists_eq_left, Nat.one_ne_zero, eq_self, true_or, or_true, Option.some.injEq, Value.int.injEq, Value.long.injEq, bk_V_isLane_0, bk_V_isLane_13, bk_V_isLane_14]
  unfold vx_bI; simp only [Int32.lt_iff_toInt_lt, Int32.le_iff_toInt_le, ← Int32.toInt_inj, Int32.reduceToInt]; split <;> simp <;> omega
theorem vw_isSunday (h : vx_H) (sz : Nat) (k : Int32) : vx_Ok m_V_isSunday [.int k] sz h (fun r h' => r = some (.int (vx_bI (0 ≤ k ∧ k ≤ 49))) ∧ h' = h) := by
  refine ok_V_isSunday [some (.int k)] (Nat.le_of_ble_eq_true rfl) rfl (fun lim z X hX => ?_)
  refine vx_go hX [] 9 ?_
  simp only [e_nil, e_iconst, e_bipush, e_sipush, e_lconst, e_ldc_w, e_ldc2_w, e_iload, e_iload_n, e_lload, e_lload_n, e_aload, e_aload_n, e_istore, e_istore_n, e_astore, e_astore_n, e_lstore, e_iinc, e_iadd, e_isub, e_imul, e_iand, e_ior, e_ishl, e_ishr, e_iushr, e_idiv, e_irem, e_ldiv, e_lrem, e_ineg, e_lshl, e_lcmp, e_i2l, e_i2b, e_i2s, e_dup_i, e_dup_r, e_dup2, e_if_eq, e_if_ne, e_if_lt, e_if_ge, e_if_gt, e_if_le, e_icmp_eq, e_icmp_ne, e_icmp_lt, e_icmp_ge, e_icmp_gt, e_icmp_le, e_ifnull_r, e_ifnull_n, e_goto, e_tsw, e_lsw, e_getf, e_puti, e_putz, e_puta, e_new, e_newa, e_anew, e_iald, e_sald, e_iast, e_aald, e_aast, e_alen, e_slen, e_inv, e_acp, e_min, e_max, e_abs, e_ins, e_oinit, e_inx, e_iret, e_lret, e_vret, vx_run_s, List.getElem?_cons_succ, List.getElem?_cons_zero, List.set_cons_succ, List.set_cons_zero, List.mem_cons, List.not_mem_nil, or_false, false_or, if_true, if_false, ite_true, ite_false, ↓reduceIte, reduceCtorEq, List.take_succ_cons, List.take_zero, List.drop_succ_cons, List.drop_zero, List.reverse_cons, List.reverse_nil, List.nil_append, List.cons_append, List.append_nil, List.length_cons, List.length_nil, Option.toList_some, Option.toList_none, vx_nl, vx_isob, true_and, and_true, Nat.reduceAdd, Nat.reduceEqDiff, Nat.reduceLeDiff, Nat.zero_add, Nat.add_zero, not_false_eq_true, not_true_eq_false, Nat.reduceLT, Nat.reduceMul, Nat.reduceSub, Nat.zero_le, vx_up_s, false_implies, true_implies, forall_const, implies_true, imp_self, Nat.le_refl, forall_eq, forall_eq_apply_imp_iff, and_imp, exists_and_left, exists_eq_left, Nat.one_ne_zero, eq_self, true_or, or_true, Option.some.injEq, Value.int.injEq, Value.long.injEq, bk_V_isSunday_0, bk_V_isSunday_14, bk_V_isSunday_15]
  unfold vx_bI; simp only [Int32.lt_iff_toInt_lt, Int32.le_iff_toInt_le, ← Int32.toInt_inj, Int32.reduceToInt]; split <;> simp <;> omega
theorem vw_isSundayOrFirst (h : vx_H) (sz : Nat) (k : Int32) : vx_Ok m_V_isSundayOrFirst [.int k] sz h (fun r h' => r = some (.int (vx_bI (-1 ≤ k ∧ k ≤ 49))) ∧ h' = h) := by
  refine ok_V_isSundayOrFirst [some (.int k)] (Nat.le_of_ble_eq_true rfl) rfl (fun lim z X hX => ?_)
  refine vx_go hX [] 9 ?_
  simp only [e_nil, e_iconst, e_bipush, e_sipush, e_lconst, e_ldc_w, e_ldc2_w, e_iload, e_iload_n, e_lload, e_lload_n, e_aload, e_aload_n, e_istore, e_istore_n, e_astore, e_astore_n, e_lstore, e_iinc, e_iadd, e_isub, e_imul, e_iand, e_ior, e_ishl, e_ishr, e_iushr, e_idiv, e_irem, e_ldiv, e_lrem, e_ineg, e_lshl, e_lcmp, e_i2l, e_i2b, e_i2s, e_dup_i, e_dup_r, e_dup2, e_if_eq, e_if_ne, e_if_lt, e_if_ge, e_if_gt, e_if_le, e_icmp_eq, e_icmp_ne, e_icmp_lt, e_icmp_ge, e_icmp_gt, e_icmp_le, e_ifnull_r, e_ifnull_n, e_goto, e_tsw, e_lsw, e_getf, e_puti, e_putz, e_puta, e_new, e_newa, e_anew, e_iald, e_sald, e_iast, e_aald, e_aast, e_alen, e_slen, e_inv, e_acp, e_min, e_max, e_abs, e_ins, e_oinit, e_inx, e_iret, e_lret, e_vret, vx_run_s, List.getElem?_cons_succ, List.getElem?_cons_zero, List.set_cons_succ, List.set_cons_zero, List.mem_cons, List.not_mem_nil, or_false, false_or, if_true, if_false, ite_true, ite_false, ↓reduceIte, reduceCtorEq, List.take_succ_cons, List.take_zero, List.drop_succ_cons, List.drop_zero, List.reverse_cons, List.reverse_nil, List.nil_append, List.cons_append, List.append_nil, List.length_cons, List.length_nil, Option.toList_some, Option.toList_none, vx_nl, vx_isob, true_and, and_true, Nat.reduceAdd, Nat.reduceEqDiff, Nat.reduceLeDiff, Nat.zero_add, Nat.add_zero, not_false_eq_true, not_true_eq_false, Nat.reduceLT, Nat.reduceMul, Nat.reduceSub, Nat.zero_le, vx_up_s, false_implies, true_implies, forall_const, implies_true, imp_self, Nat.le_refl, forall_eq, forall_eq_apply_imp_iff, and_imp, exists_and_left, exists_eq_left, Nat.one_ne_zero, eq_self, true_or, or_true, Option.some.injEq, Value.int.injEq, Value.long.injEq, bk_V_isSundayOrFirst_0, bk_V_isSundayOrFirst_12, bk_V_isSundayOrFirst_16, bk_V_isSundayOrFirst_17]
  refine ⟨fun q => ?_, fun q => vx_cl1 (vw_isSunday _ _ _) ?_⟩
  · subst q; rfl
  · simp only [e_nil, e_iconst, e_bipush, e_sipush, e_lconst, e_ldc_w, e_ldc2_w, e_iload, e_iload_n, e_lload, e_lload_n, e_aload, e_aload_n, e_istore, e_istore_n, e_astore, e_astore_n, e_lstore, e_iinc, e_iadd, e_isub, e_imul, e_iand, e_ior, e_ishl, e_ishr, e_iushr, e_idiv, e_irem, e_ldiv, e_lrem, e_ineg, e_lshl, e_lcmp, e_i2l, e_i2b, e_i2s, e_dup_i, e_dup_r, e_dup2, e_if_eq, e_if_ne, e_if_lt, e_if_ge, e_if_gt, e_if_le, e_icmp_eq, e_icmp_ne, e_icmp_lt, e_icmp_ge, e_icmp_gt, e_icmp_le, e_ifnull_r, e_ifnull_n, e_goto, e_tsw, e_lsw, e_getf, e_puti, e_putz, e_puta, e_new, e_newa, e_anew, e_iald, e_sald, e_iast, e_aald, e_aast, e_alen, e_slen, e_inv, e_acp, e_min, e_max, e_abs, e_ins, e_oinit, e_inx, e_iret, e_lret, e_vret, vx_run_s, List.getElem?_cons_succ, List.getElem?_cons_zero, List.set_cons_succ, List.set_cons_zero, List.mem_cons, List.not_mem_nil, or_false, false_or, if_true, if_false, ite_true, ite_false, ↓reduceIte, reduceCtorEq, List.take_succ_cons, List.take_zero, List.drop_succ_cons, List.drop_zero, List.reverse_cons, List.reverse_nil, List.nil_append, List.cons_append, List.append_nil, List.length_cons, List.length_nil, Option.toList_some, Option.toList_none, vx_nl, vx_isob, true_and, and_true, Nat.reduceAdd, Nat.reduceEqDiff, Nat.reduceLeDiff, Nat.zero_add, Nat.add_zero, not_false_eq_true, not_true_eq_false, Nat.reduceLT, Nat.reduceMul, Nat.reduceSub, Nat.zero_le, vx_up_s, false_implies, true_implies, forall_const, implies_true, imp_self, Nat.le_refl, forall_eq, forall_eq_apply_imp_iff, and_imp, exists_and_left, exists_eq_left, Nat.one_ne_zero, eq_self, true_or, or_true, Option.some.injEq, Value.int.injEq, Value.long.injEq, bk_V_isSundayOrFirst_0, bk_V_isSundayOrFirst_12, bk_V_isSundayOrFirst_16, bk_V_isSundayOrFirst_17, vx_bI_0]
    revert q
    unfold vx_bI; simp only [Int32.lt_iff_toInt_lt, Int32.le_iff_toInt_le, ← Int32.toInt_inj, Int32.reduceToInt]; split <;> simp <;> omega
theorem vw_isSpan (h : vx_H) (sz : Nat) (a b : Int32) : vx_Ok m_V_isSpan [.int a, .int b] sz h (fun r h' => r = some (.int (vx_bI (0 ≤ a ∧ b ≤ 49 ∧ a ≤ b))) ∧ h' = h) := by
  refine ok_V_isSpan [some (.int a), some (.int b)] (Nat.le_of_ble_eq_true rfl) rfl (fun lim z X hX => ?_)
  refine vx_go hX [] 9 ?_
  simp only [e_nil, e_iconst, e_bipush, e_sipush, e_lconst, e_ldc_w, e_ldc2_w, e_iload, e_iload_n, e_lload, e_lload_n, e_aload, e_aload_n, e_istore, e_istore_n, e_astore, e_astore_n, e_lstore, e_iinc, e_iadd, e_isub, e_imul, e_iand, e_ior, e_ishl, e_ishr, e_iushr, e_idiv, e_irem, e_ldiv, e_lrem, e_ineg, e_lshl, e_lcmp, e_i2l, e_i2b, e_i2s, e_dup_i, e_dup_r, e_dup2, e_if_eq, e_if_ne, e_if_lt, e_if_ge, e_if_gt, e_if_le, e_icmp_eq, e_icmp_ne, e_icmp_lt, e_icmp_ge, e_icmp_gt, e_icmp_le, e_ifnull_r, e_ifnull_n, e_goto, e_tsw, e_lsw, e_getf, e_puti, e_putz, e_puta, e_new, e_newa, e_anew, e_iald, e_sald, e_iast, e_aald, e_aast, e_alen, e_slen, e_inv, e_acp, e_min, e_max, e_abs, e_ins, e_oinit, e_inx, e_iret, e_lret, e_vret, vx_run_s, List.getElem?_cons_succ, List.getElem?_cons_zero, List.set_cons_succ, List.set_cons_zero, List.mem_cons, List.not_mem_nil, or_false, false_or, if_true, if_false, ite_true, ite_false, ↓reduceIte, reduceCtorEq, List.take_succ_cons, List.take_zero, List.drop_succ_cons, List.drop_zero, List.reverse_cons, List.reverse_nil, List.nil_append, List.cons_append, List.append_nil, List.length_cons, List.length_nil, Option.toList_some, Option.toList_none, vx_nl, vx_isob, true_and, and_true, Nat.reduceAdd, Nat.reduceEqDiff, Nat.reduceLeDiff, Nat.zero_add, Nat.add_zero, not_false_eq_true, not_true_eq_false, Nat.reduceLT, Nat.reduceMul, Nat.reduceSub, Nat.zero_le, vx_up_s, false_implies, true_implies, forall_const, implies_true, imp_self, Nat.le_refl, forall_eq, forall_eq_apply_imp_iff, and_imp, exists_and_left, exists_eq_left, Nat.one_ne_zero, eq_self, true_or, or_true, Option.some.injEq, Value.int.injEq, Value.long.injEq, bk_V_isSpan_0, bk_V_isSpan_23, bk_V_isSpan_24]
  refine vx_cl1 (vw_isSunday _ _ _) ?_
  simp only [e_nil, e_iconst, e_bipush, e_sipush, e_lconst, e_ldc_w, e_ldc2_w, e_iload, e_iload_n, e_lload, e_lload_n, e_aload, e_aload_n, e_istore, e_istore_n, e_astore, e_astore_n, e_lstore, e_iinc, e_iadd, e_isub, e_imul, e_iand, e_ior, e_ishl, e_ishr, e_iushr, e_idiv, e_irem, e_ldiv, e_lrem, e_ineg, e_lshl, e_lcmp, e_i2l, e_i2b, e_i2s, e_dup_i, e_dup_r, e_dup2, e_if_eq, e_if_ne, e_if_lt, e_if_ge, e_if_gt, e_if_le, e_icmp_eq, e_icmp_ne, e_icmp_lt, e_icmp_ge, e_icmp_gt, e_icmp_le, e_ifnull_r, e_ifnull_n, e_goto, e_tsw, e_lsw, e_getf, e_puti, e_putz, e_puta, e_new, e_newa, e_anew, e_iald, e_sald, e_iast, e_aald, e_aast, e_alen, e_slen, e_inv, e_acp, e_min, e_max, e_abs, e_ins, e_oinit, e_inx, e_iret, e_lret, e_vret, vx_run_s, List.getElem?_cons_succ, List.getElem?_cons_zero, List.set_cons_succ, List.set_cons_zero, List.mem_cons, List.not_mem_nil, or_false, false_or, if_true, if_false, ite_true, ite_false, ↓reduceIte, reduceCtorEq, List.take_succ_cons, List.take_zero, List.drop_succ_cons, List.drop_zero, List.reverse_cons, List.reverse_nil, List.nil_append, List.cons_append, List.append_nil, List.length_cons, List.length_nil, Option.toList_some, Option.toList_none, vx_nl, vx_isob, true_and, and_true, Nat.reduceAdd, Nat.reduceEqDiff, Nat.reduceLeDiff, Nat.zero_add, Nat.add_zero, not_false_eq_true, not_true_eq_false, Nat.reduceLT, Nat.reduceMul, Nat.reduceSub, Nat.zero_le, vx_up_s, false_implies, true_implies, forall_const, implies_true, imp_self, Nat.le_refl, forall_eq, forall_eq_apply_imp_iff, and_imp, exists_and_left, exists_eq_left, Nat.one_ne_zero, eq_self, true_or, or_true, Option.some.injEq, Value.int.injEq, Value.long.injEq, bk_V_isSpan_0, bk_V_isSpan_23, bk_V_isSpan_24, vx_bI_0]
  refine ⟨?_, fun q => vx_cl1 (vw_isSunday _ _ _) ?_⟩
  · unfold vx_bI; simp only [Int32.lt_iff_toInt_lt, Int32.le_iff_toInt_le, ← Int32.toInt_inj, Int32.reduceToInt]; split <;> simp <;> omega
  · simp only [e_nil, e_iconst, e_bipush, e_sipush, e_lconst, e_ldc_w, e_ldc2_w, e_iload, e_iload_n, e_lload, e_lload_n, e_aload, e_aload_n, e_istore, e_istore_n, e_astore, e_astore_n, e_lstore, e_iinc, e_iadd, e_isub, e_imul, e_iand, e_ior, e_ishl, e_ishr, e_iushr, e_idiv, e_irem, e_ldiv, e_lrem, e_ineg, e_lshl, e_lcmp, e_i2l, e_i2b, e_i2s, e_dup_i, e_dup_r, e_dup2, e_if_eq, e_if_ne, e_if_lt, e_if_ge, e_if_gt, e_if_le, e_icmp_eq, e_icmp_ne, e_icmp_lt, e_icmp_ge, e_icmp_gt, e_icmp_le, e_ifnull_r, e_ifnull_n, e_goto, e_tsw, e_lsw, e_getf, e_puti, e_putz, e_puta, e_new, e_newa, e_anew, e_iald, e_sald, e_iast, e_aald, e_aast, e_alen, e_slen, e_inv, e_acp, e_min, e_max, e_abs, e_ins, e_oinit, e_inx, e_iret, e_lret, e_vret, vx_run_s, List.getElem?_cons_succ, List.getElem?_cons_zero, List.set_cons_succ, List.set_cons_zero, List.mem_cons, List.not_mem_nil, or_false, false_or, if_true, if_false, ite_true, ite_false, ↓reduceIte, reduceCtorEq, List.take_succ_cons, List.take_zero, List.drop_succ_cons, List.drop_zero, List.reverse_cons, List.reverse_nil, List.nil_append, List.cons_append, List.append_nil, List.length_cons, List.length_nil, Option.toList_some, Option.toList_none, vx_nl, vx_isob, true_and, and_true, Nat.reduceAdd, Nat.reduceEqDiff, Nat.reduceLeDiff, Nat.zero_add, Nat.add_zero, not_false_eq_true, not_true_eq_false, Nat.reduceLT, Nat.reduceMul, Nat.reduceSub, Nat.zero_le, vx_up_s, false_implies, true_implies, forall_const, implies_true, imp_self, Nat.le_refl, forall_eq, forall_eq_apply_imp_iff, and_imp, exists_and_left, exists_eq_left, Nat.one_ne_zero, eq_self, true_or, or_true, Option.some.injEq, Value.int.injEq, Value.long.injEq, bk_V_isSpan_0, bk_V_isSpan_23, bk_V_isSpan_24, vx_bI_0]
    revert q
    unfold vx_bI; simp only [Int32.lt_iff_toInt_lt, Int32.le_iff_toInt_le, ← Int32.toInt_inj, Int32.reduceToInt]; split <;> simp <;> omega
theorem vw_votesOfKind (h : vx_H) (sz : Nat) (k : Int32) : vx_Ok m_V_votesOfKind [.int k] sz h (fun r h' => r = some (.int (if k = 2 then 4 else if k = 1 then 2 else 1)) ∧ h' = h) := by
  refine ok_V_votesOfKind [some (.int k)] (Nat.le_of_ble_eq_true rfl) rfl (fun lim z X hX => ?_)
  refine vx_go hX [] 9 ?_
  simp only [e_nil, e_iconst, e_bipush, e_sipush, e_lconst, e_ldc_w, e_ldc2_w, e_iload, e_iload_n, e_lload, e_lload_n, e_aload, e_aload_n, e_istore, e_istore_n, e_astore, e_astore_n, e_lstore, e_iinc, e_iadd, e_isub, e_imul, e_iand, e_ior, e_ishl, e_ishr, e_iushr, e_idiv, e_irem, e_ldiv, e_lrem, e_ineg, e_lshl, e_lcmp, e_i2l, e_i2b, e_i2s, e_dup_i, e_dup_r, e_dup2, e_if_eq, e_if_ne, e_if_lt, e_if_ge, e_if_gt, e_if_le, e_icmp_eq, e_icmp_ne, e_icmp_lt, e_icmp_ge, e_icmp_gt, e_icmp_le, e_ifnull_r, e_ifnull_n, e_goto, e_tsw, e_lsw, e_getf, e_puti, e_putz, e_puta, e_new, e_newa, e_anew, e_iald, e_sald, e_iast, e_aald, e_aast, e_alen, e_slen, e_inv, e_acp, e_min, e_max, e_abs, e_ins, e_oinit, e_inx, e_iret, e_lret, e_vret, vx_run_s, List.getElem?_cons_succ, List.getElem?_cons_zero, List.set_cons_succ, List.set_cons_zero, List.mem_cons, List.not_mem_nil, or_false, false_or, if_true, if_false, ite_true, ite_false, ↓reduceIte, reduceCtorEq, List.take_succ_cons, List.take_zero, List.drop_succ_cons, List.drop_zero, List.reverse_cons, List.reverse_nil, List.nil_append, List.cons_append, List.append_nil, List.length_cons, List.length_nil, Option.toList_some, Option.toList_none, vx_nl, vx_isob, true_and, and_true, Nat.reduceAdd, Nat.reduceEqDiff, Nat.reduceLeDiff, Nat.zero_add, Nat.add_zero, not_false_eq_true, not_true_eq_false, Nat.reduceLT, Nat.reduceMul, Nat.reduceSub, Nat.zero_le, vx_up_s, false_implies, true_implies, forall_const, implies_true, imp_self, Nat.le_refl, forall_eq, forall_eq_apply_imp_iff, and_imp, exists_and_left, exists_eq_left, Nat.one_ne_zero, eq_self, true_or, or_true, Option.some.injEq, Value.int.injEq, Value.long.injEq, bk_V_votesOfKind_0, bk_V_votesOfKind_28, bk_V_votesOfKind_30, bk_V_votesOfKind_32, vx_sel]
  by_cases h1 : k = 1
  · subst h1; simp only [e_nil, e_iconst, e_bipush, e_sipush, e_lconst, e_ldc_w, e_ldc2_w, e_iload, e_iload_n, e_lload, e_lload_n, e_aload, e_aload_n, e_istore, e_istore_n, e_astore, e_astore_n, e_lstore, e_iinc, e_iadd, e_isub, e_imul, e_iand, e_ior, e_ishl, e_ishr, e_iushr, e_idiv, e_irem, e_ldiv, e_lrem, e_ineg, e_lshl, e_lcmp, e_i2l, e_i2b, e_i2s, e_dup_i, e_dup_r, e_dup2, e_if_eq, e_if_ne, e_if_lt, e_if_ge, e_if_gt, e_if_le, e_icmp_eq, e_icmp_ne, e_icmp_lt, e_icmp_ge, e_icmp_gt, e_icmp_le, e_ifnull_r, e_ifnull_n, e_goto, e_tsw, e_lsw, e_getf, e_puti, e_putz, e_puta, e_new, e_newa, e_anew, e_iald, e_sald, e_iast, e_aald, e_aast, e_alen, e_slen, e_inv, e_acp, e_min, e_max, e_abs, e_ins, e_oinit, e_inx, e_iret, e_lret, e_vret, vx_run_s, List.getElem?_cons_succ, List.getElem?_cons_zero, List.set_cons_succ, List.set_cons_zero, List.mem_cons, List.not_mem_nil, or_false, false_or, if_true, if_false, ite_true, ite_false, ↓reduceIte, reduceCtorEq, List.take_succ_cons, List.take_zero, List.drop_succ_cons, List.drop_zero, List.reverse_cons, List.reverse_nil, List.nil_append, List.cons_append, List.append_nil, List.length_cons, List.length_nil, Option.toList_some, Option.toList_none, vx_nl, vx_isob, true_and, and_true, Nat.reduceAdd, Nat.reduceEqDiff, Nat.reduceLeDiff, Nat.zero_add, Nat.add_zero, not_false_eq_true, not_true_eq_false, Nat.reduceLT, Nat.reduceMul, Nat.reduceSub, Nat.zero_le, vx_up_s, false_implies, true_implies, forall_const, implies_true, imp_self, Nat.le_refl, forall_eq, forall_eq_apply_imp_iff, and_imp, exists_and_left, exists_eq_left, Nat.one_ne_zero, eq_self, true_or, or_true, Option.some.injEq, Value.int.injEq, Value.long.injEq, bk_V_votesOfKind_0, bk_V_votesOfKind_28, bk_V_votesOfKind_30, bk_V_votesOfKind_32]; decide
  · by_cases h2 : k = 2
    · subst h2; simp only [e_nil, e_iconst, e_bipush, e_sipush, e_lconst, e_ldc_w, e_ldc2_w, e_iload, e_iload_n, e_lload, e_lload_n, e_aload, e_aload_n, e_istore, e_istore_n, e_astore, e_astore_n, e_lstore, e_iinc, e_iadd, e_isub, e_imul, e_iand, e_ior, e_ishl, e_ishr, e_iushr, e_idiv, e_irem, e_ldiv, e_lrem, e_ineg, e_lshl, e_lcmp, e_i2l, e_i2b, e_i2s, e_dup_i, e_dup_r, e_dup2, e_if_eq, e_if_ne, e_if_lt, e_if_ge, e_if_gt, e_if_le, e_icmp_eq, e_icmp_ne, e_icmp_lt, e_icmp_ge, e_icmp_gt, e_icmp_le, e_ifnull_r, e_ifnull_n, e_goto, e_tsw, e_lsw, e_getf, e_puti, e_putz, e_puta, e_new, e_newa, e_anew, e_iald, e_sald, e_iast, e_aald, e_aast, e_alen, e_slen, e_inv, e_acp, e_min, e_max, e_abs, e_ins, e_oinit, e_inx, e_iret, e_lret, e_vret, vx_run_s, List.getElem?_cons_succ, List.getElem?_cons_zero, List.set_cons_succ, List.set_cons_zero, List.mem_cons, List.not_mem_nil, or_false, false_or, if_true, if_false, ite_true, ite_false, ↓reduceIte, reduceCtorEq, List.take_succ_cons, List.take_zero, List.drop_succ_cons, List.drop_zero, List.reverse_cons, List.reverse_nil, List.nil_append, List.cons_append, List.append_nil, List.length_cons, List.length_nil, Option.toList_some, Option.toList_none, vx_nl, vx_isob, true_and, and_true, Nat.reduceAdd, Nat.reduceEqDiff, Nat.reduceLeDiff, Nat.zero_add, Nat.add_zero, not_false_eq_true, not_true_eq_false, Nat.reduceLT, Nat.reduceMul, Nat.reduceSub, Nat.zero_le, vx_up_s, false_implies, true_implies, forall_const, implies_true, imp_self, Nat.le_refl, forall_eq, forall_eq_apply_imp_iff, and_imp, exists_and_left, exists_eq_left, Nat.one_ne_zero, eq_self, true_or, or_true, Option.some.injEq, Value.int.injEq, Value.long.injEq, bk_V_votesOfKind_0, bk_V_votesOfKind_28, bk_V_votesOfKind_30, bk_V_votesOfKind_32]; simp [h1]; simp only [e_nil, e_iconst, e_bipush, e_sipush, e_lconst, e_ldc_w, e_ldc2_w, e_iload, e_iload_n, e_lload, e_lload_n, e_aload, e_aload_n, e_istore, e_istore_n, e_astore, e_astore_n, e_lstore, e_iinc, e_iadd, e_isub, e_imul, e_iand, e_ior, e_ishl, e_ishr, e_iushr, e_idiv, e_irem, e_ldiv, e_lrem, e_ineg, e_lshl, e_lcmp, e_i2l, e_i2b, e_i2s, e_dup_i, e_dup_r, e_dup2, e_if_eq, e_if_ne, e_if_lt, e_if_ge, e_if_gt, e_if_le, e_icmp_eq, e_icmp_ne, e_icmp_lt, e_icmp_ge, e_icmp_gt, e_icmp_le, e_ifnull_r, e_ifnull_n, e_goto, e_tsw, e_lsw, e_getf, e_puti, e_putz, e_puta, e_new, e_newa, e_anew, e_iald, e_sald, e_iast, e_aald, e_aast, e_alen, e_slen, e_inv, e_acp, e_min, e_max, e_abs, e_ins, e_oinit, e_inx, e_iret, e_lret, e_vret, vx_run_s, List.getElem?_cons_succ, List.getElem?_cons_zero, List.set_cons_succ, List.set_cons_zero, List.mem_cons, List.not_mem_nil, or_false, false_or, if_true, if_false, ite_true, ite_false, ↓reduceIte, reduceCtorEq, List.take_succ_cons, List.take_zero, List.drop_succ_cons, List.drop_zero, List.reverse_cons, List.reverse_nil, List.nil_append, List.cons_append, List.append_nil, List.length_cons, List.length_nil, Option.toList_some, Option.toList_none, vx_nl, vx_isob, true_and, and_true, Nat.reduceAdd, Nat.reduceEqDiff, Nat.reduceLeDiff, Nat.zero_add, Nat.add_zero, not_false_eq_true, not_true_eq_false, Nat.reduceLT, Nat.reduceMul, Nat.reduceSub, Nat.zero_le, vx_up_s, false_implies, true_implies, forall_const, implies_true, imp_self, Nat.le_refl, forall_eq, forall_eq_apply_imp_iff, and_imp, exists_and_left, exists_eq_left, Nat.one_ne_zero, eq_self, true_or, or_true, Option.some.injEq, Value.int.injEq, Value.long.injEq, bk_V_votesOfKind_0, bk_V_votesOfKind_28, bk_V_votesOfKind_30, bk_V_votesOfKind_32]
    · simp only [e_nil, e_iconst, e_bipush, e_sipush, e_lconst, e_ldc_w, e_ldc2_w, e_iload, e_iload_n, e_lload, e_lload_n, e_aload, e_aload_n, e_istore, e_istore_n, e_astore, e_astore_n, e_lstore, e_iinc, e_iadd, e_isub, e_imul, e_iand, e_ior, e_ishl, e_ishr, e_iushr, e_idiv, e_irem, e_ldiv, e_lrem, e_ineg, e_lshl, e_lcmp, e_i2l, e_i2b, e_i2s, e_dup_i, e_dup_r, e_dup2, e_if_eq, e_if_ne, e_if_lt, e_if_ge, e_if_gt, e_if_le, e_icmp_eq, e_icmp_ne, e_icmp_lt, e_icmp_ge, e_icmp_gt, e_icmp_le, e_ifnull_r, e_ifnull_n, e_goto, e_tsw, e_lsw, e_getf, e_puti, e_putz, e_puta, e_new, e_newa, e_anew, e_iald, e_sald, e_iast, e_aald, e_aast, e_alen, e_slen, e_inv, e_acp, e_min, e_max, e_abs, e_ins, e_oinit, e_inx, e_iret, e_lret, e_vret, vx_run_s, List.getElem?_cons_succ, List.getElem?_cons_zero, List.set_cons_succ, List.set_cons_zero, List.mem_cons, List.not_mem_nil, or_false, false_or, if_true, if_false, ite_true, ite_false, ↓reduceIte, reduceCtorEq, List.take_succ_cons, List.take_zero, List.drop_succ_cons, List.drop_zero, List.reverse_cons, List.reverse_nil, List.nil_append, List.cons_append, List.append_nil, List.length_cons, List.length_nil, Option.toList_some, Option.toList_none, vx_nl, vx_isob, true_and, and_true, Nat.reduceAdd, Nat.reduceEqDiff, Nat.reduceLeDiff, Nat.zero_add, Nat.add_zero, not_false_eq_true, not_true_eq_false, Nat.reduceLT, Nat.reduceMul, Nat.reduceSub, Nat.zero_le, vx_up_s, false_implies, true_implies, forall_const, implies_true, imp_self, Nat.le_refl, forall_eq, forall_eq_apply_imp_iff, and_imp, exists_and_left, exists_eq_left, Nat.one_ne_zero, eq_self, true_or, or_true, Option.some.injEq, Value.int.injEq, Value.long.injEq, bk_V_votesOfKind_0, bk_V_votesOfKind_28, bk_V_votesOfKind_30, bk_V_votesOfKind_32, h1, h2]
end
section
/-! the yard, in numbers -/
abbrev vw_Y : Type := Nat × Nat × Nat × (Nat → Nat) × (Nat → Nat) × (Nat → Nat)
def yI (Y : vw_Y) : Nat := Y.1
def yB (Y : vw_Y) : Nat := Y.2.1
def yN (Y : vw_Y) : Nat := Y.2.2.1
def yG (Y : vw_Y) : Nat → Nat := Y.2.2.2.1
def yK (Y : vw_Y) : Nat → Nat := Y.2.2.2.2.1
def yP (Y : vw_Y) : Nat → Nat := Y.2.2.2.2.2
def vw_sum (f : Nat → Nat) : Nat → Nat
  | 0 => 0
  | n + 1 => vw_sum f n + f n
theorem vw_sum_congr {f g : Nat → Nat} : ∀ {n : Nat}, (∀ p, p < n → f p = g p) → vw_sum f n = vw_sum g n
  | 0, _ => rfl
  | n + 1, h => by rw [vw_sum, vw_sum, vw_sum_congr (fun p hp => h p (by omega)), h n (by omega)]
theorem vw_sum_add (f g : Nat → Nat) : ∀ n, vw_sum (fun p => f p + g p) n = vw_sum f n + vw_sum g n
  | 0 => rfl
  | n + 1 => by rw [vw_sum, vw_sum, vw_sum, vw_sum_add f g n]; omega
theorem vw_sum_le {f : Nat → Nat} {c : Nat} (hf : ∀ p, f p ≤ c) : ∀ n, vw_sum f n ≤ c * n
  | 0 => by simp [vw_sum]
  | n + 1 => by
    have := vw_sum_le hf n
    have := hf n
    rw [vw_sum, Nat.mul_succ]
    omega
theorem vw_sum_0 {f : Nat → Nat} : ∀ {n : Nat}, (∀ p, p < n → f p = 0) → vw_sum f n = 0
  | 0, _ => rfl
  | n + 1, h => by rw [vw_sum, vw_sum_0 (fun p hp => h p (by omega)), h n (by omega)]
def vw_vt (k : Nat) : Nat := if k = 2 then 4 else if k = 1 then 2 else 1
theorem vw_vt_le (k : Nat) : vw_vt k ≤ 4 := by unfold vw_vt; split <;> (try split) <;> omega
/-- votes of those from lo on and below hi, but for a set -/
def vw_bt (Y : vw_Y) (q : Int32) (lo hi : Nat) : Nat := vw_sum (fun p => if vw_in q (nI p) = false ∧ lo ≤ yP Y p ∧ yP Y p < hi then vw_vt (yK Y p) else 0) (yN Y)
theorem vw_bt_le (Y : vw_Y) (q : Int32) (lo hi : Nat) : vw_bt Y q lo hi ≤ 4 * yN Y := vw_sum_le (fun p => by split; exact vw_vt_le _; omega) _
theorem vw_bt_split (Y : vw_Y) (q : Int32) {lo mid hi : Nat} (h1 : lo ≤ mid) (h2 : mid ≤ hi) : vw_bt Y q lo hi = vw_bt Y q lo mid + vw_bt Y q mid hi := by
  unfold vw_bt
  rw [← vw_sum_add]
  refine vw_sum_congr (fun p _ => ?_)
  by_cases hq : vw_in q (nI p) = false
  · by_cases a1 : lo ≤ yP Y p <;> by_cases a2 : yP Y p < hi <;> by_cases a3 : yP Y p < mid <;> by_cases a4 : mid ≤ yP Y p <;> simp [hq, a1, a2, a3, a4] <;> omega
  · simp [hq]
def vw_u (g : Nat → Nat) (b x : Nat) : Nat → Nat := fun j => if j = b then x else g j
theorem vw_u_s (g : Nat → Nat) (b x : Nat) : vw_u g b x b = x := if_pos rfl
theorem vw_u_n (g : Nat → Nat) {b j : Nat} (x : Nat) (h : j ≠ b) : vw_u g b x j = g j := if_neg h
def vw_lo (g : Nat → Nat) (b : Nat) : Nat := if b = 0 then 0 else g (b - 1)
def vw_hi (Y : vw_Y) (g : Nat → Nat) (b : Nat) : Nat := if b + 1 = yB Y then yI Y else g (b + 1)
/-- where a board is behind its push -/
def vw_nx (Y : vw_Y) (q : Int32) (g : Nat → Nat) (b : Nat) : Nat :=
  if vw_bt Y q (g b) (vw_hi Y g b) < vw_bt Y q (vw_lo g b) (g b) ∧ g b + 1 < vw_hi Y g b then g b + 1
  else if vw_bt Y q (vw_lo g b) (g b) < vw_bt Y q (g b) (vw_hi Y g b) ∧ vw_lo g b + 1 < g b then g b - 1 else g b
/-- the boards stand apart, in order -/
def vw_inc (Y : vw_Y) (g : Nat → Nat) : Prop := ∀ b, b < yB Y → vw_lo g b < g b ∧ g b < vw_hi Y g b
theorem vw_nx_in {Y : vw_Y} {q : Int32} {g : Nat → Nat} {b : Nat} (h : vw_lo g b < g b ∧ g b < vw_hi Y g b) : vw_lo g b < vw_nx Y q g b ∧ vw_nx Y q g b < vw_hi Y g b := by
  unfold vw_nx
  split
  · omega
  · split <;> omega
theorem vw_inc_u {Y : vw_Y} {g : Nat → Nat} {b x : Nat} (h : vw_inc Y g) (hb : b < yB Y) (hx : vw_lo g b < x ∧ x < vw_hi Y g b) : vw_inc Y (vw_u g b x) := by
  intro c hc
  have h1 := h c hc
  have h0 := h b hb
  unfold vw_lo vw_hi at *
  unfold vw_u
  by_cases e1 : c = b
  · subst e1
    by_cases e2 : c = 0
    · by_cases e3 : c + 1 = yB Y
      · simp [e2, e3] at *; omega
      · simp [e2, e3] at *; omega
    · by_cases e3 : c + 1 = yB Y
      · simp [e2, e3, show ¬ c - 1 = c by omega] at *; omega
      · simp [e2, e3, show ¬ c - 1 = c by omega] at *; omega
  · by_cases e4 : c = b + 1
    · subst e4
      have e5 : ¬ b + 1 = yB Y := by omega
      by_cases e3 : b + 1 + 1 = yB Y
      · simp [e3, e5, show ¬ b + 1 + 1 = b by omega] at *; omega
      · simp [e3, e5, show ¬ b + 1 + 1 = b by omega] at *; omega
    · by_cases e6 : b = c + 1
      · subst e6
        have e5 : ¬ c + 1 = yB Y := by omega
        by_cases e2 : c = 0
        · subst e2
          have e9 : ¬ 1 = yB Y := by omega
          simp [e9] at *; omega
        · simp [e2, e5, show ¬ c - 1 = c + 1 by omega] at *; omega
      · have e7 : ¬ c + 1 = b := by omega
        by_cases e2 : c = 0
        · subst e2
          have e9 : ¬ 1 = yB Y := by omega
          have e10 : ¬ 0 = b := by omega
          have e11 : ¬ 1 = b := by omega
          simp [e9, e10, e11] at *; omega
        · have e8 : ¬ c - 1 = b := by omega
          simp [e1, e2, e7, e8] at *; omega
theorem vw_inc_pos {Y : vw_Y} {g : Nat → Nat} (h : vw_inc Y g) : ∀ b, b < yB Y → 0 < g b ∧ g b < yI Y := by
  intro b hb
  constructor
  · have := h b hb; omega
  · have key : ∀ k b, b + k + 1 = yB Y → g b < yI Y := by
      intro k
      induction k with
      | zero =>
        intro b hb
        have := (h b (by omega)).2
        unfold vw_hi at this
        rw [if_pos (by omega)] at this
        exact this
      | succ k ih =>
        intro b hb
        have := (h b (by omega)).2
        unfold vw_hi at this
        rw [if_neg (by omega)] at this
        have := ih (b + 1) (by omega)
        omega
    exact key (yB Y - b - 1) b (by omega)
/-- a Sunday: the first n boards in the order of the law; whether one has moved -/
def vw_ix (Y : vw_Y) (law : Int32) (k : Nat) : Nat := if law = 0 then k else yB Y - 1 - k
def vw_go (Y : vw_Y) (law lk q : Int32) : Nat → (Nat → Nat) → (Nat → Nat) × Bool
  | 0, g => (g, false)
  | n + 1, g => if vw_in lk (nI (vw_ix Y law n)) = true then vw_go Y law lk q n g
    else (vw_u (vw_go Y law lk q n g).1 (vw_ix Y law n) (vw_nx Y q (vw_go Y law lk q n g).1 (vw_ix Y law n)), (vw_go Y law lk q n g).2 || decide (¬ vw_nx Y q (vw_go Y law lk q n g).1 (vw_ix Y law n) = (vw_go Y law lk q n g).1 (vw_ix Y law n)))
theorem vw_ix_lt {Y : vw_Y} {law : Int32} {k : Nat} (h : k < yB Y) : vw_ix Y law k < yB Y := by unfold vw_ix; split <;> omega
theorem vw_go_inc {Y : vw_Y} {law lk q : Int32} {g : Nat → Nat} (h : vw_inc Y g) : ∀ n, n ≤ yB Y → vw_inc Y (vw_go Y law lk q n g).1
  | 0, _ => h
  | n + 1, hn => by
    have ih := vw_go_inc (law := law) (lk := lk) (q := q) h n (by omega)
    unfold vw_go
    split
    · exact ih
    · exact vw_inc_u ih (vw_ix_lt (by omega)) (vw_nx_in (ih _ (vw_ix_lt (by omega))))
/-- where the boards are behind n Sundays -/
def vw_ps (Y : vw_Y) (law : Int32) (lk st : Nat → Int32) : Nat → Nat → Nat
  | 0 => yG Y
  | n + 1 => (vw_go Y law (lk n) (st n) (yB Y) (vw_ps Y law lk st n)).1
def vw_mv (Y : vw_Y) (law : Int32) (lk st : Nat → Int32) (n : Nat) : Bool := (vw_go Y law (lk n) (st n) (yB Y) (vw_ps Y law lk st n)).2
/-- behind the last Sunday on which one moved, of the first n -/
def vw_lm (Y : vw_Y) (law : Int32) (lk st : Nat → Int32) : Nat → Nat
  | 0 => 0
  | n + 1 => if vw_mv Y law lk st n = true then n + 1 else vw_lm Y law lk st n
theorem vw_ps_inc {Y : vw_Y} {law : Int32} {lk st : Nat → Int32} (h : vw_inc Y (yG Y)) : ∀ n, vw_inc Y (vw_ps Y law lk st n)
  | 0 => h
  | n + 1 => vw_go_inc (vw_ps_inc h n) _ (Nat.le_refl _)
/-- nothing has moved: the boards are where they were -/
theorem vw_go_stay {Y : vw_Y} {law lk q : Int32} {g : Nat → Nat} : ∀ n, (vw_go Y law lk q n g).2 = false → (vw_go Y law lk q n g).1 = g
  | 0, _ => rfl
  | n + 1, h => by
    unfold vw_go at h ⊢
    split at h
    · rename_i hl
      rw [if_pos hl]
      exact vw_go_stay n h
    · rename_i hl
      rw [if_neg hl]
      dsimp only at h ⊢
      simp only [Bool.or_eq_false_iff, decide_eq_false_iff_not, Classical.not_not] at h
      rw [h.2]
      have ih := vw_go_stay n h.1
      funext j
      by_cases hj : j = vw_ix Y law n
      · subst hj; rw [vw_u_s, ih]
      · rw [vw_u_n _ _ hj, ih]
theorem vw_ps_stay {Y : vw_Y} {law : Int32} {lk st : Nat → Int32} {n : Nat} (h : vw_mv Y law lk st n = false) : vw_ps Y law lk st (n + 1) = vw_ps Y law lk st n := vw_go_stay _ h
/-- from a Sunday on that nothing moved, and with the same locks and strikes, nothing moves -/
theorem vw_steady {Y : vw_Y} {law : Int32} {lk st : Nat → Int32} {m : Nat} (h : vw_mv Y law lk st m = false) {N : Nat} (hl : ∀ j, m ≤ j → j < N → lk j = lk m ∧ st j = st m) : ∀ j, m ≤ j → j < N → vw_mv Y law lk st j = false ∧ vw_ps Y law lk st (j + 1) = vw_ps Y law lk st m := by
  intro j
  induction j with
  | zero =>
    intro h1 h2
    have : m = 0 := by omega
    subst this
    exact ⟨h, vw_ps_stay h⟩
  | succ j ih =>
    intro h1 h2
    by_cases e : m = j + 1
    · subst e
      exact ⟨h, vw_ps_stay h⟩
    · obtain ⟨i1, i2⟩ := ih (by omega) (by omega)
      have i3 : vw_mv Y law lk st (j + 1) = false := by
        unfold vw_mv at h ⊢
        rw [i2, (hl (j + 1) h1 h2).1, (hl (j + 1) h1 h2).2]
        exact h
      exact ⟨i3, by rw [vw_ps_stay i3, i2]⟩
theorem vw_lm_stay {Y : vw_Y} {law : Int32} {lk st : Nat → Int32} {m : Nat} : ∀ n, m ≤ n → (∀ j, m ≤ j → j < n → vw_mv Y law lk st j = false) → vw_lm Y law lk st n = vw_lm Y law lk st m
  | 0, h, _ => by have : m = 0 := by omega
                  subst this; rfl
  | n + 1, h, hm => by
    by_cases e : m = n + 1
    · subst e; rfl
    · unfold vw_lm
      rw [hm n (by omega) (by omega), if_neg (by decide)]
      rw [vw_lm_stay n (by omega) (fun j h1 h2 => hm j h1 (by omega))]
      cases m with
      | zero => rfl
      | succ k => rfl
end
section
/-! Weeks: the reckoning of a Sunday -/
/-- Weeks stands at cell 18 -/
def hW (h : vx_H) (Y : vw_Y) (rows gf vb : Nat → Int32) (lr lm : Int32) : Prop := h 18 = some (.inr (.inr (4, [.ref 19, .ref 20, .ref 21, .int (nI (yB Y)), .int (nI (yI Y)), .int lr, .int lm]))) ∧ h 19 = some (.inl (255, rows)) ∧ h 20 = some (.inl (5, gf)) ∧ h 21 = some (.inl (31, vb))
/-- the limits of a yard -/
def yOk (Y : vw_Y) : Prop := yB Y ≤ 5 ∧ yN Y ≤ 8 ∧ yI Y ≤ 30 ∧ (∀ p, p < yN Y → yP Y p < yI Y ∧ yK Y p ≤ 2) ∧ vw_inc Y (yG Y) ∧ (yB Y = 0 ↔ yN Y = 0)
theorem vw_votesFromTo (h : vx_H) (sz : Nat) (Y : vw_Y) (rows gf vb : Nat → Int32) (lr lm : Int32) (hw : hW h Y rows gf vb lr lm) (lo hi : Nat) (h1 : lo ≤ 30) (h2 : hi ≤ 30) :
    vx_Ok m_Wk_votesFromTo [.ref 18, .int (nI lo), .int (nI hi)] sz h (fun r h' => r = some (.int (vb hi - vb lo)) ∧ h' = h) := by
  refine ok_Wk_votesFromTo [some (.ref 18), some (.int (nI lo)), some (.int (nI hi))] (Nat.le_of_ble_eq_true rfl) rfl (fun lim z X hX => ?_)
  obtain ⟨w1, w2, w3, w4⟩ := hw
  have b1 : lo < 2 ^ 31 := by omega
  have b2 : hi < 2 ^ 31 := by omega
  have a1 := nI_toInt b1
  have a2 := nI_toInt b2
  refine vx_go hX [] 9 ?_
  simp only [e_nil, e_iconst, e_bipush, e_sipush, e_lconst, e_ldc_w, e_ldc2_w, e_iload, e_iload_n, e_lload, e_lload_n, e_aload, e_aload_n, e_istore, e_istore_n, e_astore, e_astore_n, e_lstore, e_iinc, e_iadd, e_isub, e_imul, e_iand, e_ior, e_ishl, e_ishr, e_iushr, e_idiv, e_irem, e_ldiv, e_lrem, e_ineg, e_lshl, e_lcmp, e_i2l, e_i2b, e_i2s, e_dup_i, e_dup_r, e_dup2, e_if_eq, e_if_ne, e_if_lt, e_if_ge, e_if_gt, e_if_le, e_icmp_eq, e_icmp_ne, e_icmp_lt, e_icmp_ge, e_icmp_gt, e_icmp_le, e_ifnull_r, e_ifnull_n, e_goto, e_tsw, e_lsw, e_getf, e_puti, e_putz, e_puta, e_new, e_newa, e_anew, e_iald, e_sald, e_iast, e_aald, e_aast, e_alen, e_slen, e_inv, e_acp, e_min, e_max, e_abs, e_ins, e_oinit, e_inx, e_iret, e_lret, e_vret, vx_run_s, List.getElem?_cons_succ, List.getElem?_cons_zero, List.set_cons_succ, List.set_cons_zero, List.mem_cons, List.not_mem_nil, or_false, false_or, if_true, if_false, ite_true, ite_false, ↓reduceIte, reduceCtorEq, List.take_succ_cons, List.take_zero, List.drop_succ_cons, List.drop_zero, List.reverse_cons, List.reverse_nil, List.nil_append, List.cons_append, List.append_nil, List.length_cons, List.length_nil, Option.toList_some, Option.toList_none, vx_nl, vx_isob, true_and, and_true, Nat.reduceAdd, Nat.reduceEqDiff, Nat.reduceLeDiff, Nat.zero_add, Nat.add_zero, not_false_eq_true, not_true_eq_false, Nat.reduceLT, Nat.reduceMul, Nat.reduceSub, Nat.zero_le, vx_up_s, false_implies, true_implies, forall_const, implies_true, imp_self, Nat.le_refl, forall_eq, forall_eq_apply_imp_iff, and_imp, exists_and_left, exists_eq_left, Nat.one_ne_zero, eq_self, true_or, or_true, Option.some.injEq, Value.int.injEq, Value.long.injEq, bk_Wk_votesFromTo_0, bk_Wk_votesFromTo_20, bk_Wk_votesFromTo_22, w1, w4, nI_clamp, b1, b2]
  refine ⟨fun q => by (exfalso; simp only [Int32.lt_iff_toInt_lt, Int32.le_iff_toInt_le, ← Int32.toInt_inj, Int32.reduceToInt] at q; omega), fun _ => ⟨fun q => by (exfalso; simp only [Int32.lt_iff_toInt_lt, Int32.le_iff_toInt_le, ← Int32.toInt_inj, Int32.reduceToInt] at q; omega), fun _ => ⟨fun q => by (exfalso; simp only [Int32.lt_iff_toInt_lt, Int32.le_iff_toInt_le, ← Int32.toInt_inj, Int32.reduceToInt] at q; omega), fun _ => ⟨fun _ => ⟨vp_in_nI (by omega) (by decide), vp_in_nI (by omega) (by decide)⟩, fun q => by (exfalso; simp only [Int32.lt_iff_toInt_lt, Int32.le_iff_toInt_le, ← Int32.toInt_inj, Int32.reduceToInt] at q; omega)⟩⟩⟩⟩
theorem nI_sub {a b : Nat} (h : b ≤ a) : nI a - nI b = nI (a - b) := pk_sub h
theorem upd_self (f : Nat → Int32) (k : Nat) : upd f k (f k) = f := by
  funext j
  by_cases h : j = k
  · subst h; simp [upd]
  · simp [upd, h]
/-- Integer.compare of two small numbers, added to a third -/
def vw_cmp (a b : Nat) : Int32 := if nI a < nI b then -1 else if nI a = nI b then 0 else 1
theorem vw_pushOne (h : vx_H) (sz : Nat) (Y : vw_Y) (q : Int32) (g : Nat → Nat) (rows gf vb : Nat → Int32) (lr lm : Int32) (hw : hW h Y rows gf vb lr lm) (hy : yB Y ≤ 5 ∧ yN Y ≤ 8 ∧ yI Y ≤ 30) (hi : vw_inc Y g) (hg : ∀ b, b < yB Y → gf b = nI (g b)) (hv : ∀ x, x ≤ 30 → vb x = nI (vw_bt Y q 0 x)) (b : Nat) (hb : b < yB Y) :
    vx_Ok m_Wk_pushOne [.ref 18, .int (nI b)] sz h (fun r h' => r = some (.int (vx_bI (¬ vw_nx Y q g b = g b))) ∧ h' = vx_up h 20 (.inl (5, upd gf b (nI (vw_nx Y q g b))))) := by
  refine ok_Wk_pushOne [some (.ref 18), some (.int (nI b)), none, none, none, none, none, none] (Nat.le_of_ble_eq_true rfl) rfl (fun lim z X hX => ?_)
  have hw0 := hw
  obtain ⟨w1, w2, w3, w4⟩ := hw
  have b1 : b < 2 ^ 31 := by omega
  have hpos := vw_inc_pos hi
  have hgb := hpos b hb
  obtain ⟨y1, y2, y3⟩ := hy
  have hlt := hi b hb
  have hhi : vw_hi Y g b ≤ 30 := by
    unfold vw_hi
    split
    · exact y3
    · have := hpos (b + 1) (by omega); omega
  generalize elo : vw_lo g b = lo at hlt
  generalize ehi : vw_hi Y g b = hi' at hlt hhi
  have hL : vb (g b) - vb lo = nI (vw_bt Y q lo (g b)) := by
    rw [hv _ (by omega), hv _ (by omega), vw_bt_split Y q (Nat.zero_le lo) (by omega : lo ≤ g b), nI_sub (by omega)]
    congr 1; omega
  have hR : vb hi' - vb (g b) = nI (vw_bt Y q (g b) hi') := by
    rw [hv _ (by omega), hv _ (by omega), vw_bt_split Y q (Nat.zero_le (g b)) (by omega : g b ≤ hi'), nI_sub (by omega)]
    congr 1; omega
  have lL := vw_bt_le Y q lo (g b)
  have lR := vw_bt_le Y q (g b) hi'
  have hnx : vw_nx Y q g b = if vw_bt Y q (g b) hi' < vw_bt Y q lo (g b) ∧ g b + 1 < hi' then g b + 1 else if vw_bt Y q lo (g b) < vw_bt Y q (g b) hi' ∧ lo + 1 < g b then g b - 1 else g b := by
    unfold vw_nx; rw [elo, ehi]
  generalize vw_bt Y q lo (g b) = cL at hL lL hnx
  generalize vw_bt Y q (g b) hi' = cR at hR lR hnx
  have hgb' : gf b = nI (g b) := hg b hb
  have h42 : X 42 [some (.ref 18), some (.int (nI b)), some (.int (nI lo)), none, none, none, none, none] [.int (nI hi')] z h := by
    refine vx_go hX [] 9 ?_
    simp only [e_nil, e_iconst, e_bipush, e_sipush, e_lconst, e_ldc_w, e_ldc2_w, e_iload, e_iload_n, e_lload, e_lload_n, e_aload, e_aload_n, e_istore, e_istore_n, e_astore, e_astore_n, e_lstore, e_iinc, e_iadd, e_isub, e_imul, e_iand, e_ior, e_ishl, e_ishr, e_iushr, e_idiv, e_irem, e_ldiv, e_lrem, e_ineg, e_lshl, e_lcmp, e_i2l, e_i2b, e_i2s, e_dup_i, e_dup_r, e_dup2, e_if_eq, e_if_ne, e_if_lt, e_if_ge, e_if_gt, e_if_le, e_icmp_eq, e_icmp_ne, e_icmp_lt, e_icmp_ge, e_icmp_gt, e_icmp_le, e_ifnull_r, e_ifnull_n, e_goto, e_tsw, e_lsw, e_getf, e_puti, e_putz, e_puta, e_new, e_newa, e_anew, e_iald, e_sald, e_iast, e_aald, e_aast, e_alen, e_slen, e_inv, e_acp, e_min, e_max, e_abs, e_ins, e_oinit, e_inx, e_iret, e_lret, e_vret, vx_run_s, List.getElem?_cons_succ, List.getElem?_cons_zero, List.set_cons_succ, List.set_cons_zero, List.mem_cons, List.not_mem_nil, or_false, false_or, if_true, if_false, ite_true, ite_false, ↓reduceIte, reduceCtorEq, List.take_succ_cons, List.take_zero, List.drop_succ_cons, List.drop_zero, List.reverse_cons, List.reverse_nil, List.nil_append, List.cons_append, List.append_nil, List.length_cons, List.length_nil, Option.toList_some, Option.toList_none, vx_nl, vx_isob, true_and, and_true, Nat.reduceAdd, Nat.reduceEqDiff, Nat.reduceLeDiff, Nat.zero_add, Nat.add_zero, not_false_eq_true, not_true_eq_false, Nat.reduceLT, Nat.reduceMul, Nat.reduceSub, Nat.zero_le, vx_up_s, false_implies, true_implies, forall_const, implies_true, imp_self, Nat.le_refl, forall_eq, forall_eq_apply_imp_iff, and_imp, exists_and_left, exists_eq_left, Nat.one_ne_zero, eq_self, true_or, or_true, Option.some.injEq, Value.int.injEq, Value.long.injEq, bk_Wk_pushOne_0, bk_Wk_pushOne_8, bk_Wk_pushOne_16, bk_Wk_pushOne_34, bk_Wk_pushOne_42, bk_Wk_pushOne_100, bk_Wk_pushOne_102, w1, w3, nI_clamp, b1]
    refine ⟨vp_in_nI (by omega) (by decide), ?_⟩
    rw [hgb']
    refine vx_cl1 (vw_votesFromTo h _ Y rows gf vb lr lm hw0 lo (g b) (by omega) (by omega)) ?_
    simp only [e_nil, e_iconst, e_bipush, e_sipush, e_lconst, e_ldc_w, e_ldc2_w, e_iload, e_iload_n, e_lload, e_lload_n, e_aload, e_aload_n, e_istore, e_istore_n, e_astore, e_astore_n, e_lstore, e_iinc, e_iadd, e_isub, e_imul, e_iand, e_ior, e_ishl, e_ishr, e_iushr, e_idiv, e_irem, e_ldiv, e_lrem, e_ineg, e_lshl, e_lcmp, e_i2l, e_i2b, e_i2s, e_dup_i, e_dup_r, e_dup2, e_if_eq, e_if_ne, e_if_lt, e_if_ge, e_if_gt, e_if_le, e_icmp_eq, e_icmp_ne, e_icmp_lt, e_icmp_ge, e_icmp_gt, e_icmp_le, e_ifnull_r, e_ifnull_n, e_goto, e_tsw, e_lsw, e_getf, e_puti, e_putz, e_puta, e_new, e_newa, e_anew, e_iald, e_sald, e_iast, e_aald, e_aast, e_alen, e_slen, e_inv, e_acp, e_min, e_max, e_abs, e_ins, e_oinit, e_inx, e_iret, e_lret, e_vret, vx_run_s, List.getElem?_cons_succ, List.getElem?_cons_zero, List.set_cons_succ, List.set_cons_zero, List.mem_cons, List.not_mem_nil, or_false, false_or, if_true, if_false, ite_true, ite_false, ↓reduceIte, reduceCtorEq, List.take_succ_cons, List.take_zero, List.drop_succ_cons, List.drop_zero, List.reverse_cons, List.reverse_nil, List.nil_append, List.cons_append, List.append_nil, List.length_cons, List.length_nil, Option.toList_some, Option.toList_none, vx_nl, vx_isob, true_and, and_true, Nat.reduceAdd, Nat.reduceEqDiff, Nat.reduceLeDiff, Nat.zero_add, Nat.add_zero, not_false_eq_true, not_true_eq_false, Nat.reduceLT, Nat.reduceMul, Nat.reduceSub, Nat.zero_le, vx_up_s, false_implies, true_implies, forall_const, implies_true, imp_self, Nat.le_refl, forall_eq, forall_eq_apply_imp_iff, and_imp, exists_and_left, exists_eq_left, Nat.one_ne_zero, eq_self, true_or, or_true, Option.some.injEq, Value.int.injEq, Value.long.injEq, bk_Wk_pushOne_0, bk_Wk_pushOne_8, bk_Wk_pushOne_16, bk_Wk_pushOne_34, bk_Wk_pushOne_42, bk_Wk_pushOne_100, bk_Wk_pushOne_102, w1, w3, nI_clamp, b1, hL]
    refine vx_cl1 (vw_votesFromTo h _ Y rows gf vb lr lm hw0 (g b) hi' (by omega) (by omega)) ?_
    simp only [e_nil, e_iconst, e_bipush, e_sipush, e_lconst, e_ldc_w, e_ldc2_w, e_iload, e_iload_n, e_lload, e_lload_n, e_aload, e_aload_n, e_istore, e_istore_n, e_astore, e_astore_n, e_lstore, e_iinc, e_iadd, e_isub, e_imul, e_iand, e_ior, e_ishl, e_ishr, e_iushr, e_idiv, e_irem, e_ldiv, e_lrem, e_ineg, e_lshl, e_lcmp, e_i2l, e_i2b, e_i2s, e_dup_i, e_dup_r, e_dup2, e_if_eq, e_if_ne, e_if_lt, e_if_ge, e_if_gt, e_if_le, e_icmp_eq, e_icmp_ne, e_icmp_lt, e_icmp_ge, e_icmp_gt, e_icmp_le, e_ifnull_r, e_ifnull_n, e_goto, e_tsw, e_lsw, e_getf, e_puti, e_putz, e_puta, e_new, e_newa, e_anew, e_iald, e_sald, e_iast, e_aald, e_aast, e_alen, e_slen, e_inv, e_acp, e_min, e_max, e_abs, e_ins, e_oinit, e_inx, e_iret, e_lret, e_vret, vx_run_s, List.getElem?_cons_succ, List.getElem?_cons_zero, List.set_cons_succ, List.set_cons_zero, List.mem_cons, List.not_mem_nil, or_false, false_or, if_true, if_false, ite_true, ite_false, ↓reduceIte, reduceCtorEq, List.take_succ_cons, List.take_zero, List.drop_succ_cons, List.drop_zero, List.reverse_cons, List.reverse_nil, List.nil_append, List.cons_append, List.append_nil, List.length_cons, List.length_nil, Option.toList_some, Option.toList_none, vx_nl, vx_isob, true_and, and_true, Nat.reduceAdd, Nat.reduceEqDiff, Nat.reduceLeDiff, Nat.zero_add, Nat.add_zero, not_false_eq_true, not_true_eq_false, Nat.reduceLT, Nat.reduceMul, Nat.reduceSub, Nat.zero_le, vx_up_s, false_implies, true_implies, forall_const, implies_true, imp_self, Nat.le_refl, forall_eq, forall_eq_apply_imp_iff, and_imp, exists_and_left, exists_eq_left, Nat.one_ne_zero, eq_self, true_or, or_true, Option.some.injEq, Value.int.injEq, Value.long.injEq, bk_Wk_pushOne_0, bk_Wk_pushOne_8, bk_Wk_pushOne_16, bk_Wk_pushOne_34, bk_Wk_pushOne_42, bk_Wk_pushOne_100, bk_Wk_pushOne_102, w1, w3, nI_clamp, b1, hR]
    refine vx_cl1 (vw_compare h _ _ _) ?_
    simp only [e_nil, e_iconst, e_bipush, e_sipush, e_lconst, e_ldc_w, e_ldc2_w, e_iload, e_iload_n, e_lload, e_lload_n, e_aload, e_aload_n, e_istore, e_istore_n, e_astore, e_astore_n, e_lstore, e_iinc, e_iadd, e_isub, e_imul, e_iand, e_ior, e_ishl, e_ishr, e_iushr, e_idiv, e_irem, e_ldiv, e_lrem, e_ineg, e_lshl, e_lcmp, e_i2l, e_i2b, e_i2s, e_dup_i, e_dup_r, e_dup2, e_if_eq, e_if_ne, e_if_lt, e_if_ge, e_if_gt, e_if_le, e_icmp_eq, e_icmp_ne, e_icmp_lt, e_icmp_ge, e_icmp_gt, e_icmp_le, e_ifnull_r, e_ifnull_n, e_goto, e_tsw, e_lsw, e_getf, e_puti, e_putz, e_puta, e_new, e_newa, e_anew, e_iald, e_sald, e_iast, e_aald, e_aast, e_alen, e_slen, e_inv, e_acp, e_min, e_max, e_abs, e_ins, e_oinit, e_inx, e_iret, e_lret, e_vret, vx_run_s, List.getElem?_cons_succ, List.getElem?_cons_zero, List.set_cons_succ, List.set_cons_zero, List.mem_cons, List.not_mem_nil, or_false, false_or, if_true, if_false, ite_true, ite_false, ↓reduceIte, reduceCtorEq, List.take_succ_cons, List.take_zero, List.drop_succ_cons, List.drop_zero, List.reverse_cons, List.reverse_nil, List.nil_append, List.cons_append, List.append_nil, List.length_cons, List.length_nil, Option.toList_some, Option.toList_none, vx_nl, vx_isob, true_and, and_true, Nat.reduceAdd, Nat.reduceEqDiff, Nat.reduceLeDiff, Nat.zero_add, Nat.add_zero, not_false_eq_true, not_true_eq_false, Nat.reduceLT, Nat.reduceMul, Nat.reduceSub, Nat.zero_le, vx_up_s, false_implies, true_implies, forall_const, implies_true, imp_self, Nat.le_refl, forall_eq, forall_eq_apply_imp_iff, and_imp, exists_and_left, exists_eq_left, Nat.one_ne_zero, eq_self, true_or, or_true, Option.some.injEq, Value.int.injEq, Value.long.injEq, bk_Wk_pushOne_0, bk_Wk_pushOne_8, bk_Wk_pushOne_16, bk_Wk_pushOne_34, bk_Wk_pushOne_42, bk_Wk_pushOne_100, bk_Wk_pushOne_102, w1, w3, nI_clamp, b1]
    have stay : vw_nx Y q g b = g b → 0 = vx_bI (¬ vw_nx Y q g b = g b) ∧ h = vx_up h 20 (Sum.inl (5, upd gf b (nI (vw_nx Y q g b)))) := by
      intro e
      rw [e]
      refine ⟨(vx_bI_f (fun q => q rfl)).symm, ?_⟩
      rw [← hgb', upd_self, vx_up_id w3]
    rcases Nat.lt_trichotomy cL cR with hc | hc | hc
    · rw [if_pos (nI_lt hc (by omega)), sb_m1 hgb.1]
      simp only [nI_eq (a := g b - 1) (b := g b) (by omega) (by omega), nI_leI (a := g b - 1) (b := lo) (by omega) (by omega), nI_ltI (a := g b - 1) (b := hi') (by omega) (by omega)]
      rw [if_neg (by omega)] at hnx
      refine ⟨fun q => by omega, fun _ => ⟨fun q => stay (by rw [hnx, if_neg (by omega)]), fun q => ⟨fun _ => ?_, fun q => by omega⟩⟩⟩
      rw [if_pos (by omega)] at hnx
      rw [hnx]
      exact ⟨vp_in_nI (by omega) (by decide), (vx_bI_t (by omega)).symm, rfl⟩
    · subst hc
      rw [if_neg (by simp), if_pos rfl, Int32.add_zero]
      exact ⟨fun _ => stay (by rw [hnx, if_neg (by omega), if_neg (by omega)]), fun q => absurd rfl q⟩
    · rw [if_neg (nI_nlt (by omega) (by omega)), if_neg (by rw [nI_eq (by omega) (by omega)]; omega), nI_1]
      simp only [nI_eq (a := g b + 1) (b := g b) (by omega) (by omega), nI_leI (a := g b + 1) (b := lo) (by omega) (by omega), nI_ltI (a := g b + 1) (b := hi') (by omega) (by omega)]
      refine ⟨fun q => by omega, fun _ => ⟨fun q => by omega, fun q => ⟨fun q2 => ?_, fun q2 => stay (by rw [hnx, if_neg (by omega), if_neg (by omega)])⟩⟩⟩
      rw [if_pos (by omega)] at hnx
      rw [hnx]
      exact ⟨vp_in_nI (by omega) (by decide), (vx_bI_t (by omega)).symm, rfl⟩
  have h16 : X 16 [some (.ref 18), some (.int (nI b)), none, none, none, none, none, none] [.int (nI lo)] z h := by
    refine vx_go hX [42] 9 ?_
    simp only [e_nil, e_iconst, e_bipush, e_sipush, e_lconst, e_ldc_w, e_ldc2_w, e_iload, e_iload_n, e_lload, e_lload_n, e_aload, e_aload_n, e_istore, e_istore_n, e_astore, e_astore_n, e_lstore, e_iinc, e_iadd, e_isub, e_imul, e_iand, e_ior, e_ishl, e_ishr, e_iushr, e_idiv, e_irem, e_ldiv, e_lrem, e_ineg, e_lshl, e_lcmp, e_i2l, e_i2b, e_i2s, e_dup_i, e_dup_r, e_dup2, e_if_eq, e_if_ne, e_if_lt, e_if_ge, e_if_gt, e_if_le, e_icmp_eq, e_icmp_ne, e_icmp_lt, e_icmp_ge, e_icmp_gt, e_icmp_le, e_ifnull_r, e_ifnull_n, e_goto, e_tsw, e_lsw, e_getf, e_puti, e_putz, e_puta, e_new, e_newa, e_anew, e_iald, e_sald, e_iast, e_aald, e_aast, e_alen, e_slen, e_inv, e_acp, e_min, e_max, e_abs, e_ins, e_oinit, e_inx, e_iret, e_lret, e_vret, vx_run_s, List.getElem?_cons_succ, List.getElem?_cons_zero, List.set_cons_succ, List.set_cons_zero, List.mem_cons, List.not_mem_nil, or_false, false_or, if_true, if_false, ite_true, ite_false, ↓reduceIte, reduceCtorEq, List.take_succ_cons, List.take_zero, List.drop_succ_cons, List.drop_zero, List.reverse_cons, List.reverse_nil, List.nil_append, List.cons_append, List.append_nil, List.length_cons, List.length_nil, Option.toList_some, Option.toList_none, vx_nl, vx_isob, true_and, and_true, Nat.reduceAdd, Nat.reduceEqDiff, Nat.reduceLeDiff, Nat.zero_add, Nat.add_zero, not_false_eq_true, not_true_eq_false, Nat.reduceLT, Nat.reduceMul, Nat.reduceSub, Nat.zero_le, vx_up_s, false_implies, true_implies, forall_const, implies_true, imp_self, Nat.le_refl, forall_eq, forall_eq_apply_imp_iff, and_imp, exists_and_left, exists_eq_left, Nat.one_ne_zero, eq_self, true_or, or_true, Option.some.injEq, Value.int.injEq, Value.long.injEq, bk_Wk_pushOne_0, bk_Wk_pushOne_8, bk_Wk_pushOne_16, bk_Wk_pushOne_34, bk_Wk_pushOne_42, bk_Wk_pushOne_100, bk_Wk_pushOne_102, w1, w3, nI_clamp, b1]
    refine ⟨fun q => ?_, fun q => ?_⟩
    · have hne : b + 1 ≠ yB Y := by
        intro e
        apply q
        rw [← e, nI_succ]
        simp
      unfold vw_hi at ehi
      rw [if_neg hne] at ehi
      refine ⟨by rw [nI_1]; exact vp_in_nI (by omega) (by decide), ?_⟩
      rw [nI_1, nI_clamp (by omega), hg _ (by omega), ehi]
      exact h42
    · have he : b + 1 = yB Y := by
        have e1 : nI b + 1 = nI (yB Y) := by rw [q]; simp
        rw [nI_1] at e1
        exact (nI_eq (by omega) (by omega)).mp e1
      unfold vw_hi at ehi
      rw [if_pos he] at ehi
      rw [ehi]
      exact h42
  refine vx_go hX [16] 9 ?_
  simp only [e_nil, e_iconst, e_bipush, e_sipush, e_lconst, e_ldc_w, e_ldc2_w, e_iload, e_iload_n, e_lload, e_lload_n, e_aload, e_aload_n, e_istore, e_istore_n, e_astore, e_astore_n, e_lstore, e_iinc, e_iadd, e_isub, e_imul, e_iand, e_ior, e_ishl, e_ishr, e_iushr, e_idiv, e_irem, e_ldiv, e_lrem, e_ineg, e_lshl, e_lcmp, e_i2l, e_i2b, e_i2s, e_dup_i, e_dup_r, e_dup2, e_if_eq, e_if_ne, e_if_lt, e_if_ge, e_if_gt, e_if_le, e_icmp_eq, e_icmp_ne, e_icmp_lt, e_icmp_ge, e_icmp_gt, e_icmp_le, e_ifnull_r, e_ifnull_n, e_goto, e_tsw, e_lsw, e_getf, e_puti, e_putz, e_puta, e_new, e_newa, e_anew, e_iald, e_sald, e_iast, e_aald, e_aast, e_alen, e_slen, e_inv, e_acp, e_min, e_max, e_abs, e_ins, e_oinit, e_inx, e_iret, e_lret, e_vret, vx_run_s, List.getElem?_cons_succ, List.getElem?_cons_zero, List.set_cons_succ, List.set_cons_zero, List.mem_cons, List.not_mem_nil, or_false, false_or, if_true, if_false, ite_true, ite_false, ↓reduceIte, reduceCtorEq, List.take_succ_cons, List.take_zero, List.drop_succ_cons, List.drop_zero, List.reverse_cons, List.reverse_nil, List.nil_append, List.cons_append, List.append_nil, List.length_cons, List.length_nil, Option.toList_some, Option.toList_none, vx_nl, vx_isob, true_and, and_true, Nat.reduceAdd, Nat.reduceEqDiff, Nat.reduceLeDiff, Nat.zero_add, Nat.add_zero, not_false_eq_true, not_true_eq_false, Nat.reduceLT, Nat.reduceMul, Nat.reduceSub, Nat.zero_le, vx_up_s, false_implies, true_implies, forall_const, implies_true, imp_self, Nat.le_refl, forall_eq, forall_eq_apply_imp_iff, and_imp, exists_and_left, exists_eq_left, Nat.one_ne_zero, eq_self, true_or, or_true, Option.some.injEq, Value.int.injEq, Value.long.injEq, bk_Wk_pushOne_0, bk_Wk_pushOne_8, bk_Wk_pushOne_16, bk_Wk_pushOne_34, bk_Wk_pushOne_42, bk_Wk_pushOne_100, bk_Wk_pushOne_102, w1, w3, nI_clamp, b1]
  refine ⟨fun q => ?_, fun q => ?_⟩
  · have hne : b ≠ 0 := fun e => q (by rw [e]; rfl)
    unfold vw_lo at elo
    rw [if_neg hne] at elo
    have e1 : nI b - 1 = nI (b - 1) := nI_sub (b := 1) (by omega)
    rw [e1]
    refine ⟨vp_in_nI (by omega) (by decide), ?_⟩
    rw [nI_clamp (by omega), hg _ (by omega), elo]
    exact h16
  · have he : b = 0 := (nI_eq b1 (by omega)).mp q
    unfold vw_lo at elo
    rw [if_pos he] at elo
    subst elo
    exact h16
theorem hW_g {h : vx_H} {Y : vw_Y} {rows gf vb : Nat → Int32} {lr lm : Int32} (hw : hW h Y rows gf vb lr lm) (gf' : Nat → Int32) : hW (vx_up h 20 (.inl (5, gf'))) Y rows gf' vb lr lm := by
  obtain ⟨w1, w2, w3, w4⟩ := hw
  exact ⟨by simp [vx_up_a, w1], by simp [vx_up_a, w2], by simp [vx_up_a], by simp [vx_up_a, w4]⟩
theorem vw_upd_g {Y : vw_Y} {g : Nat → Nat} {gf : Nat → Int32} {b x : Nat} (hg : ∀ c, c < yB Y → gf c = nI (g c)) : ∀ c, c < yB Y → upd gf b (nI x) c = nI (vw_u g b x c) := by
  intro c hc
  by_cases e : c = b
  · subst e; simp [upd, vw_u]
  · simp [upd, vw_u, e, hg c hc]
theorem vw_pushAll (h : vx_H) (sz : Nat) (Y : vw_Y) (q law lk : Int32) (g : Nat → Nat) (rows gf vb : Nat → Int32) (lr lm : Int32) (hw : hW h Y rows gf vb lr lm) (hy : yB Y ≤ 5 ∧ yN Y ≤ 8 ∧ yI Y ≤ 30) (hi : vw_inc Y g) (hg : ∀ b, b < yB Y → gf b = nI (g b)) (hv : ∀ x, x ≤ 30 → vb x = nI (vw_bt Y q 0 x)) :
    vx_Ok m_Wk_pushAll [.ref 18, .int law, .int lk] sz h (fun r h' => r = some (.int (vx_bI ((vw_go Y law lk q (yB Y) g).2 = true))) ∧ ∃ gf', (∀ b, b < yB Y → gf' b = nI ((vw_go Y law lk q (yB Y) g).1 b)) ∧ h' = vx_up h 20 (.inl (5, gf'))) := by
  refine ok_Wk_pushAll [some (.ref 18), some (.int law), some (.int lk), none, none, none] (Nat.le_of_ble_eq_true rfl) rfl (fun lim z X hX => ?_)
  obtain ⟨y1, y2, y3⟩ := id hy
  have loop : ∀ (n k : Nat) (w : Option Value) (gk : Nat → Int32), k + n = yB Y → (∀ b, b < yB Y → gk b = nI ((vw_go Y law lk q k g).1 b)) → X 5 [some (.ref 18), some (.int law), some (.int lk), some (.int (vx_bI ((vw_go Y law lk q k g).2 = true))), some (.int (nI k)), w] [] z (vx_up h 20 (.inl (5, gk))) := by
    intro n
    induction n with
    | zero =>
      intro k w gk hk hgk
      have e : k = yB Y := by omega
      subst e
      obtain ⟨w1, w2, w3, w4⟩ := hW_g hw gk
      refine vx_go hX [] 9 ?_
      simp only [e_nil, e_iconst, e_bipush, e_sipush, e_lconst, e_ldc_w, e_ldc2_w, e_iload, e_iload_n, e_lload, e_lload_n, e_aload, e_aload_n, e_istore, e_istore_n, e_astore, e_astore_n, e_lstore, e_iinc, e_iadd, e_isub, e_imul, e_iand, e_ior, e_ishl, e_ishr, e_iushr, e_idiv, e_irem, e_ldiv, e_lrem, e_ineg, e_lshl, e_lcmp, e_i2l, e_i2b, e_i2s, e_dup_i, e_dup_r, e_dup2, e_if_eq, e_if_ne, e_if_lt, e_if_ge, e_if_gt, e_if_le, e_icmp_eq, e_icmp_ne, e_icmp_lt, e_icmp_ge, e_icmp_gt, e_icmp_le, e_ifnull_r, e_ifnull_n, e_goto, e_tsw, e_lsw, e_getf, e_puti, e_putz, e_puta, e_new, e_newa, e_anew, e_iald, e_sald, e_iast, e_aald, e_aast, e_alen, e_slen, e_inv, e_acp, e_min, e_max, e_abs, e_ins, e_oinit, e_inx, e_iret, e_lret, e_vret, vx_run_s, List.getElem?_cons_succ, List.getElem?_cons_zero, List.set_cons_succ, List.set_cons_zero, List.mem_cons, List.not_mem_nil, or_false, false_or, if_true, if_false, ite_true, ite_false, ↓reduceIte, reduceCtorEq, List.take_succ_cons, List.take_zero, List.drop_succ_cons, List.drop_zero, List.reverse_cons, List.reverse_nil, List.nil_append, List.cons_append, List.append_nil, List.length_cons, List.length_nil, Option.toList_some, Option.toList_none, vx_nl, vx_isob, true_and, and_true, Nat.reduceAdd, Nat.reduceEqDiff, Nat.reduceLeDiff, Nat.zero_add, Nat.add_zero, not_false_eq_true, not_true_eq_false, Nat.reduceLT, Nat.reduceMul, Nat.reduceSub, Nat.zero_le, vx_up_s, false_implies, true_implies, forall_const, implies_true, imp_self, Nat.le_refl, forall_eq, forall_eq_apply_imp_iff, and_imp, exists_and_left, exists_eq_left, Nat.one_ne_zero, eq_self, true_or, or_true, Option.some.injEq, Value.int.injEq, Value.long.injEq, bk_Wk_pushAll_0, bk_Wk_pushAll_5, bk_Wk_pushAll_23, bk_Wk_pushAll_32, bk_Wk_pushAll_54, bk_Wk_pushAll_60, w1]
      exact ⟨fun _ => ⟨vx_bI_01, gk, hgk, rfl⟩, fun q => absurd (Int32.le_refl _) q⟩
    | succ n ih =>
      intro k w gk hk hgk
      have hwk := hW_g hw gk
      obtain ⟨w1, w2, w3, w4⟩ := hwk
      have hixl : vw_ix Y law k < yB Y := vw_ix_lt (by omega)
      have h54 : ∀ gk' : Nat → Int32, (∀ b, b < yB Y → gk' b = nI ((vw_go Y law lk q (k + 1) g).1 b)) → X 54 [some (.ref 18), some (.int law), some (.int lk), some (.int (vx_bI ((vw_go Y law lk q (k + 1) g).2 = true))), some (.int (nI k)), some (.int (nI (vw_ix Y law k)))] [] z (vx_up h 20 (.inl (5, gk'))) := by
        intro gk' hgk'
        refine vx_go hX [5] 9 ?_
        simp only [e_nil, e_iconst, e_bipush, e_sipush, e_lconst, e_ldc_w, e_ldc2_w, e_iload, e_iload_n, e_lload, e_lload_n, e_aload, e_aload_n, e_istore, e_istore_n, e_astore, e_astore_n, e_lstore, e_iinc, e_iadd, e_isub, e_imul, e_iand, e_ior, e_ishl, e_ishr, e_iushr, e_idiv, e_irem, e_ldiv, e_lrem, e_ineg, e_lshl, e_lcmp, e_i2l, e_i2b, e_i2s, e_dup_i, e_dup_r, e_dup2, e_if_eq, e_if_ne, e_if_lt, e_if_ge, e_if_gt, e_if_le, e_icmp_eq, e_icmp_ne, e_icmp_lt, e_icmp_ge, e_icmp_gt, e_icmp_le, e_ifnull_r, e_ifnull_n, e_goto, e_tsw, e_lsw, e_getf, e_puti, e_putz, e_puta, e_new, e_newa, e_anew, e_iald, e_sald, e_iast, e_aald, e_aast, e_alen, e_slen, e_inv, e_acp, e_min, e_max, e_abs, e_ins, e_oinit, e_inx, e_iret, e_lret, e_vret, vx_run_s, List.getElem?_cons_succ, List.getElem?_cons_zero, List.set_cons_succ, List.set_cons_zero, List.mem_cons, List.not_mem_nil, or_false, false_or, if_true, if_false, ite_true, ite_false, ↓reduceIte, reduceCtorEq, List.take_succ_cons, List.take_zero, List.drop_succ_cons, List.drop_zero, List.reverse_cons, List.reverse_nil, List.nil_append, List.cons_append, List.append_nil, List.length_cons, List.length_nil, Option.toList_some, Option.toList_none, vx_nl, vx_isob, true_and, and_true, Nat.reduceAdd, Nat.reduceEqDiff, Nat.reduceLeDiff, Nat.zero_add, Nat.add_zero, not_false_eq_true, not_true_eq_false, Nat.reduceLT, Nat.reduceMul, Nat.reduceSub, Nat.zero_le, vx_up_s, false_implies, true_implies, forall_const, implies_true, imp_self, Nat.le_refl, forall_eq, forall_eq_apply_imp_iff, and_imp, exists_and_left, exists_eq_left, Nat.one_ne_zero, eq_self, true_or, or_true, Option.some.injEq, Value.int.injEq, Value.long.injEq, bk_Wk_pushAll_0, bk_Wk_pushAll_5, bk_Wk_pushAll_23, bk_Wk_pushAll_32, bk_Wk_pushAll_54, bk_Wk_pushAll_60, nI_1]
        exact ih (k + 1) _ gk' (by omega) hgk'
      have h32 : X 32 [some (.ref 18), some (.int law), some (.int lk), some (.int (vx_bI ((vw_go Y law lk q k g).2 = true))), some (.int (nI k)), w] [.int (nI (vw_ix Y law k))] z (vx_up h 20 (.inl (5, gk))) := by
        refine vx_go hX [54] 9 ?_
        simp only [e_nil, e_iconst, e_bipush, e_sipush, e_lconst, e_ldc_w, e_ldc2_w, e_iload, e_iload_n, e_lload, e_lload_n, e_aload, e_aload_n, e_istore, e_istore_n, e_astore, e_astore_n, e_lstore, e_iinc, e_iadd, e_isub, e_imul, e_iand, e_ior, e_ishl, e_ishr, e_iushr, e_idiv, e_irem, e_ldiv, e_lrem, e_ineg, e_lshl, e_lcmp, e_i2l, e_i2b, e_i2s, e_dup_i, e_dup_r, e_dup2, e_if_eq, e_if_ne, e_if_lt, e_if_ge, e_if_gt, e_if_le, e_icmp_eq, e_icmp_ne, e_icmp_lt, e_icmp_ge, e_icmp_gt, e_icmp_le, e_ifnull_r, e_ifnull_n, e_goto, e_tsw, e_lsw, e_getf, e_puti, e_putz, e_puta, e_new, e_newa, e_anew, e_iald, e_sald, e_iast, e_aald, e_aast, e_alen, e_slen, e_inv, e_acp, e_min, e_max, e_abs, e_ins, e_oinit, e_inx, e_iret, e_lret, e_vret, vx_run_s, List.getElem?_cons_succ, List.getElem?_cons_zero, List.set_cons_succ, List.set_cons_zero, List.mem_cons, List.not_mem_nil, or_false, false_or, if_true, if_false, ite_true, ite_false, ↓reduceIte, reduceCtorEq, List.take_succ_cons, List.take_zero, List.drop_succ_cons, List.drop_zero, List.reverse_cons, List.reverse_nil, List.nil_append, List.cons_append, List.append_nil, List.length_cons, List.length_nil, Option.toList_some, Option.toList_none, vx_nl, vx_isob, true_and, and_true, Nat.reduceAdd, Nat.reduceEqDiff, Nat.reduceLeDiff, Nat.zero_add, Nat.add_zero, not_false_eq_true, not_true_eq_false, Nat.reduceLT, Nat.reduceMul, Nat.reduceSub, Nat.zero_le, vx_up_s, false_implies, true_implies, forall_const, implies_true, imp_self, Nat.le_refl, forall_eq, forall_eq_apply_imp_iff, and_imp, exists_and_left, exists_eq_left, Nat.one_ne_zero, eq_self, true_or, or_true, Option.some.injEq, Value.int.injEq, Value.long.injEq, bk_Wk_pushAll_0, bk_Wk_pushAll_5, bk_Wk_pushAll_23, bk_Wk_pushAll_32, bk_Wk_pushAll_54, bk_Wk_pushAll_60, w1]
        refine vx_cl1 (vw_isIn _ _ _ _) ?_
        simp only [e_nil, e_iconst, e_bipush, e_sipush, e_lconst, e_ldc_w, e_ldc2_w, e_iload, e_iload_n, e_lload, e_lload_n, e_aload, e_aload_n, e_istore, e_istore_n, e_astore, e_astore_n, e_lstore, e_iinc, e_iadd, e_isub, e_imul, e_iand, e_ior, e_ishl, e_ishr, e_iushr, e_idiv, e_irem, e_ldiv, e_lrem, e_ineg, e_lshl, e_lcmp, e_i2l, e_i2b, e_i2s, e_dup_i, e_dup_r, e_dup2, e_if_eq, e_if_ne, e_if_lt, e_if_ge, e_if_gt, e_if_le, e_icmp_eq, e_icmp_ne, e_icmp_lt, e_icmp_ge, e_icmp_gt, e_icmp_le, e_ifnull_r, e_ifnull_n, e_goto, e_tsw, e_lsw, e_getf, e_puti, e_putz, e_puta, e_new, e_newa, e_anew, e_iald, e_sald, e_iast, e_aald, e_aast, e_alen, e_slen, e_inv, e_acp, e_min, e_max, e_abs, e_ins, e_oinit, e_inx, e_iret, e_lret, e_vret, vx_run_s, List.getElem?_cons_succ, List.getElem?_cons_zero, List.set_cons_succ, List.set_cons_zero, List.mem_cons, List.not_mem_nil, or_false, false_or, if_true, if_false, ite_true, ite_false, ↓reduceIte, reduceCtorEq, List.take_succ_cons, List.take_zero, List.drop_succ_cons, List.drop_zero, List.reverse_cons, List.reverse_nil, List.nil_append, List.cons_append, List.append_nil, List.length_cons, List.length_nil, Option.toList_some, Option.toList_none, vx_nl, vx_isob, true_and, and_true, Nat.reduceAdd, Nat.reduceEqDiff, Nat.reduceLeDiff, Nat.zero_add, Nat.add_zero, not_false_eq_true, not_true_eq_false, Nat.reduceLT, Nat.reduceMul, Nat.reduceSub, Nat.zero_le, vx_up_s, false_implies, true_implies, forall_const, implies_true, imp_self, Nat.le_refl, forall_eq, forall_eq_apply_imp_iff, and_imp, exists_and_left, exists_eq_left, Nat.one_ne_zero, eq_self, true_or, or_true, Option.some.injEq, Value.int.injEq, Value.long.injEq, bk_Wk_pushAll_0, bk_Wk_pushAll_5, bk_Wk_pushAll_23, bk_Wk_pushAll_32, bk_Wk_pushAll_54, bk_Wk_pushAll_60, w1, vx_bI_0]
        refine ⟨fun q1 => ?_, fun q1 => ?_⟩
        · have hl : vw_in lk (nI (vw_ix Y law k)) = true := by simpa using q1
          have e : vw_go Y law lk q (k + 1) g = vw_go Y law lk q k g := if_pos hl
          have := h54 gk (by rw [e]; exact hgk)
          rw [e] at this
          exact this
        · refine vx_cl1 (vw_pushOne _ _ Y q (vw_go Y law lk q k g).1 rows gk vb lr lm (hW_g hw gk) hy (vw_go_inc hi k (by omega)) hgk hv _ hixl) ?_
          simp only [e_nil, e_iconst, e_bipush, e_sipush, e_lconst, e_ldc_w, e_ldc2_w, e_iload, e_iload_n, e_lload, e_lload_n, e_aload, e_aload_n, e_istore, e_istore_n, e_astore, e_astore_n, e_lstore, e_iinc, e_iadd, e_isub, e_imul, e_iand, e_ior, e_ishl, e_ishr, e_iushr, e_idiv, e_irem, e_ldiv, e_lrem, e_ineg, e_lshl, e_lcmp, e_i2l, e_i2b, e_i2s, e_dup_i, e_dup_r, e_dup2, e_if_eq, e_if_ne, e_if_lt, e_if_ge, e_if_gt, e_if_le, e_icmp_eq, e_icmp_ne, e_icmp_lt, e_icmp_ge, e_icmp_gt, e_icmp_le, e_ifnull_r, e_ifnull_n, e_goto, e_tsw, e_lsw, e_getf, e_puti, e_putz, e_puta, e_new, e_newa, e_anew, e_iald, e_sald, e_iast, e_aald, e_aast, e_alen, e_slen, e_inv, e_acp, e_min, e_max, e_abs, e_ins, e_oinit, e_inx, e_iret, e_lret, e_vret, vx_run_s, List.getElem?_cons_succ, List.getElem?_cons_zero, List.set_cons_succ, List.set_cons_zero, List.mem_cons, List.not_mem_nil, or_false, false_or, if_true, if_false, ite_true, ite_false, ↓reduceIte, reduceCtorEq, List.take_succ_cons, List.take_zero, List.drop_succ_cons, List.drop_zero, List.reverse_cons, List.reverse_nil, List.nil_append, List.cons_append, List.append_nil, List.length_cons, List.length_nil, Option.toList_some, Option.toList_none, vx_nl, vx_isob, true_and, and_true, Nat.reduceAdd, Nat.reduceEqDiff, Nat.reduceLeDiff, Nat.zero_add, Nat.add_zero, not_false_eq_true, not_true_eq_false, Nat.reduceLT, Nat.reduceMul, Nat.reduceSub, Nat.zero_le, vx_up_s, false_implies, true_implies, forall_const, implies_true, imp_self, Nat.le_refl, forall_eq, forall_eq_apply_imp_iff, and_imp, exists_and_left, exists_eq_left, Nat.one_ne_zero, eq_self, true_or, or_true, Option.some.injEq, Value.int.injEq, Value.long.injEq, bk_Wk_pushAll_0, bk_Wk_pushAll_5, bk_Wk_pushAll_23, bk_Wk_pushAll_32, bk_Wk_pushAll_54, bk_Wk_pushAll_60, w1, vx_bI_0, vx_up_up]
          have e : vw_go Y law lk q (k + 1) g = _ := if_neg q1
          have hgk' : ∀ b, b < yB Y → upd gk (vw_ix Y law k) (nI (vw_nx Y q (vw_go Y law lk q k g).1 (vw_ix Y law k))) b = nI ((vw_go Y law lk q (k + 1) g).1 b) := by
            rw [e]
            exact vw_upd_g hgk
          have h1 := h54 _ hgk'
          rw [e] at h1
          refine ⟨fun q2 => ?_, fun q2 => ?_⟩
          · simp only [Classical.not_not] at q2
            simp only [q2, not_true_eq_false, decide_false, Bool.or_false] at h1 ⊢
            exact h1
          · simp only [Classical.not_not] at q2
            simp only [q2, not_false_eq_true, decide_true, Bool.or_true] at h1
            rw [vx_bI_t (c := True) trivial] at h1
            exact h1
      refine vx_go hX [32] 9 ?_
      simp only [e_nil, e_iconst, e_bipush, e_sipush, e_lconst, e_ldc_w, e_ldc2_w, e_iload, e_iload_n, e_lload, e_lload_n, e_aload, e_aload_n, e_istore, e_istore_n, e_astore, e_astore_n, e_lstore, e_iinc, e_iadd, e_isub, e_imul, e_iand, e_ior, e_ishl, e_ishr, e_iushr, e_idiv, e_irem, e_ldiv, e_lrem, e_ineg, e_lshl, e_lcmp, e_i2l, e_i2b, e_i2s, e_dup_i, e_dup_r, e_dup2, e_if_eq, e_if_ne, e_if_lt, e_if_ge, e_if_gt, e_if_le, e_icmp_eq, e_icmp_ne, e_icmp_lt, e_icmp_ge, e_icmp_gt, e_icmp_le, e_ifnull_r, e_ifnull_n, e_goto, e_tsw, e_lsw, e_getf, e_puti, e_putz, e_puta, e_new, e_newa, e_anew, e_iald, e_sald, e_iast, e_aald, e_aast, e_alen, e_slen, e_inv, e_acp, e_min, e_max, e_abs, e_ins, e_oinit, e_inx, e_iret, e_lret, e_vret, vx_run_s, List.getElem?_cons_succ, List.getElem?_cons_zero, List.set_cons_succ, List.set_cons_zero, List.mem_cons, List.not_mem_nil, or_false, false_or, if_true, if_false, ite_true, ite_false, ↓reduceIte, reduceCtorEq, List.take_succ_cons, List.take_zero, List.drop_succ_cons, List.drop_zero, List.reverse_cons, List.reverse_nil, List.nil_append, List.cons_append, List.append_nil, List.length_cons, List.length_nil, Option.toList_some, Option.toList_none, vx_nl, vx_isob, true_and, and_true, Nat.reduceAdd, Nat.reduceEqDiff, Nat.reduceLeDiff, Nat.zero_add, Nat.add_zero, not_false_eq_true, not_true_eq_false, Nat.reduceLT, Nat.reduceMul, Nat.reduceSub, Nat.zero_le, vx_up_s, false_implies, true_implies, forall_const, implies_true, imp_self, Nat.le_refl, forall_eq, forall_eq_apply_imp_iff, and_imp, exists_and_left, exists_eq_left, Nat.one_ne_zero, eq_self, true_or, or_true, Option.some.injEq, Value.int.injEq, Value.long.injEq, bk_Wk_pushAll_0, bk_Wk_pushAll_5, bk_Wk_pushAll_23, bk_Wk_pushAll_32, bk_Wk_pushAll_54, bk_Wk_pushAll_60, w1]
      refine ⟨fun q1 => absurd q1 (nI_ge (by omega) (by omega)), fun _ => ⟨fun q1 => ?_, fun q1 => ?_⟩⟩
      · have e : vw_ix Y law k = yB Y - 1 - k := if_neg q1
        rw [e] at h32
        rw [show nI (yB Y) - 1 = nI (yB Y - 1) from nI_sub (b := 1) (by omega), nI_sub (by omega)]
        exact h32
      · have e : vw_ix Y law k = k := if_pos q1
        rw [e] at h32
        exact h32
  obtain ⟨w1, w2, w3, w4⟩ := id hw
  refine vx_go hX [5] 9 ?_
  simp only [e_nil, e_iconst, e_bipush, e_sipush, e_lconst, e_ldc_w, e_ldc2_w, e_iload, e_iload_n, e_lload, e_lload_n, e_aload, e_aload_n, e_istore, e_istore_n, e_astore, e_astore_n, e_lstore, e_iinc, e_iadd, e_isub, e_imul, e_iand, e_ior, e_ishl, e_ishr, e_iushr, e_idiv, e_irem, e_ldiv, e_lrem, e_ineg, e_lshl, e_lcmp, e_i2l, e_i2b, e_i2s, e_dup_i, e_dup_r, e_dup2, e_if_eq, e_if_ne, e_if_lt, e_if_ge, e_if_gt, e_if_le, e_icmp_eq, e_icmp_ne, e_icmp_lt, e_icmp_ge, e_icmp_gt, e_icmp_le, e_ifnull_r, e_ifnull_n, e_goto, e_tsw, e_lsw, e_getf, e_puti, e_putz, e_puta, e_new, e_newa, e_anew, e_iald, e_sald, e_iast, e_aald, e_aast, e_alen, e_slen, e_inv, e_acp, e_min, e_max, e_abs, e_ins, e_oinit, e_inx, e_iret, e_lret, e_vret, vx_run_s, List.getElem?_cons_succ, List.getElem?_cons_zero, List.set_cons_succ, List.set_cons_zero, List.mem_cons, List.not_mem_nil, or_false, false_or, if_true, if_false, ite_true, ite_false, ↓reduceIte, reduceCtorEq, List.take_succ_cons, List.take_zero, List.drop_succ_cons, List.drop_zero, List.reverse_cons, List.reverse_nil, List.nil_append, List.cons_append, List.append_nil, List.length_cons, List.length_nil, Option.toList_some, Option.toList_none, vx_nl, vx_isob, true_and, and_true, Nat.reduceAdd, Nat.reduceEqDiff, Nat.reduceLeDiff, Nat.zero_add, Nat.add_zero, not_false_eq_true, not_true_eq_false, Nat.reduceLT, Nat.reduceMul, Nat.reduceSub, Nat.zero_le, vx_up_s, false_implies, true_implies, forall_const, implies_true, imp_self, Nat.le_refl, forall_eq, forall_eq_apply_imp_iff, and_imp, exists_and_left, exists_eq_left, Nat.one_ne_zero, eq_self, true_or, or_true, Option.some.injEq, Value.int.injEq, Value.long.injEq, bk_Wk_pushAll_0, bk_Wk_pushAll_5, bk_Wk_pushAll_23, bk_Wk_pushAll_32, bk_Wk_pushAll_54, bk_Wk_pushAll_60, w1]
  have := loop (yB Y) 0 none gf (by omega) hg
  rw [vx_up_id w3] at this
  exact this
end
section
/-! Weeks: votes, and all Sundays -/
def hYd (h : vx_H) (y : Nat) (Y : vw_Y) (fg fk fp : Nat → Int32) : Prop := (y = 22 ∨ y = 26) ∧ h y = some (.inr (.inr (5, [.ref (y + 1), .ref (y + 2), .ref (y + 3), .int (nI (yI Y)), .int (nI (yB Y)), .int (nI (yN Y))]))) ∧ h (y + 1) = some (.inl (5, fg)) ∧ h (y + 2) = some (.inl (8, fk)) ∧ h (y + 3) = some (.inl (8, fp)) ∧
  (∀ b, b < yB Y → fg b = nI (yG Y b)) ∧ (∀ p, p < yN Y → fk p = nI (yK Y p)) ∧ (∀ p, p < yN Y → fp p = nI (yP Y p))
/-- nothing has changed but from a on to b -/
def vf (a b : Nat) (h h' : vx_H) : Prop := ∀ k, k < a ∨ b < k → h' k = h k
theorem vf.rf {a b : Nat} {h : vx_H} : vf a b h h := fun _ _ => rfl
theorem vf.tr {a b : Nat} {h h1 h2 : vx_H} (u : vf a b h h1) (w : vf a b h1 h2) : vf a b h h2 := fun k hk => (w k hk).trans (u k hk)
theorem vf.up {a b k : Nat} {h : vx_H} {c : vx_C} (h1 : a ≤ k) (h2 : k ≤ b) : vf a b h (vx_up h k c) := fun j hj => vx_up_n h c (by omega)
theorem vf.wk {a b a' b' : Nat} {h h' : vx_H} (u : vf a b h h') (h1 : a' ≤ a) (h2 : b ≤ b') : vf a' b' h h' := fun k hk => u k (by omega)
theorem hYd.mv {h h' : vx_H} {y : Nat} {Y : vw_Y} {fg fk fp : Nat → Int32} (u : hYd h y Y fg fk fp) (w : vf 18 21 h h') : hYd h' y Y fg fk fp := by
  obtain ⟨u0, u1, u2, u3, u4, u5⟩ := u
  exact ⟨u0, by rw [w y (by omega)]; exact u1, by rw [w (y + 1) (by omega)]; exact u2, by rw [w (y + 2) (by omega)]; exact u3, by rw [w (y + 3) (by omega)]; exact u4, u5⟩
/-- votes of those who stand just there -/
def vw_c1 (Y : vw_Y) (q : Int32) (x n : Nat) : Nat := vw_sum (fun i => if vw_in q (nI i) = false ∧ yP Y i + 1 = x then vw_vt (yK Y i) else 0) n
theorem vw_c1_le (Y : vw_Y) (q : Int32) (x n : Nat) : vw_c1 Y q x n ≤ 4 * n := vw_sum_le (fun p => by split; exact vw_vt_le _; omega) _
theorem vw_bt_s (Y : vw_Y) (q : Int32) (x : Nat) : vw_bt Y q 0 (x + 1) = vw_bt Y q 0 x + vw_c1 Y q (x + 1) (yN Y) := by
  unfold vw_bt vw_c1
  rw [← vw_sum_add]
  refine vw_sum_congr (fun p _ => ?_)
  by_cases hq : vw_in q (nI p) = false
  · rcases Nat.lt_trichotomy (yP Y p) x with a | a | a
    · simp [hq, a, show yP Y p < x + 1 by omega, show ¬ yP Y p = x by omega]
    · simp [hq, a]
    · simp [hq, show ¬ yP Y p < x + 1 by omega, show ¬ yP Y p < x by omega, show ¬ yP Y p = x by omega]
  · simp [hq]
theorem vw_bt_0 (Y : vw_Y) (q : Int32) : vw_bt Y q 0 0 = 0 := vw_sum_0 (fun p _ => by simp)
theorem vw_vt_I {k : Nat} (h : k ≤ 2) : (if nI k = 2 then (4 : Int32) else if nI k = 1 then 2 else 1) = nI (vw_vt k) := by
  have : k = 0 ∨ k = 1 ∨ k = 2 := by omega
  rcases this with rfl | rfl | rfl <;> decide
theorem vw_countVotes (h : vx_H) (sz : Nat) (y : Nat) (Y : vw_Y) (q : Int32) (fg fk fp rows gf vb : Nat → Int32) (bo inn lr lm : Int32) (w1 : h 18 = some (.inr (.inr (4, [.ref 19, .ref 20, .ref 21, .int bo, .int inn, .int lr, .int lm])))) (w4 : h 21 = some (.inl (31, vb))) (hd : hYd h y Y fg fk fp) (ho : yOk Y) :
    vx_Ok m_Wk_countVotes [.ref 18, .ref y, .int q] sz h (fun r h' => r = none ∧ ∃ vb', (∀ x, x ≤ 30 → vb' x = nI (vw_bt Y q 0 x)) ∧ h' = vx_up h 21 (.inl (31, vb'))) := by
  refine ok_Wk_countVotes [some (.ref 18), some (.ref y), some (.int q), none, none] (Nat.le_of_ble_eq_true rfl) rfl (fun lim z X hX => ?_)
  obtain ⟨o1, o2, o3, o4, o5⟩ := ho
  have loop2 : ∀ (n x : Nat) (w : Option Value) (vx : Nat → Int32), x + n = 31 → 1 ≤ x → (∀ j, j < x → vx j = nI (vw_bt Y q 0 j)) → (∀ j, x ≤ j → j ≤ 30 → vx j = nI (vw_c1 Y q j (yN Y))) →
      X 75 [some (.ref 18), some (.ref y), some (.int q), some (.int (nI x)), w] [] z (vx_up h 21 (.inl (31, vx))) := by
    intro n
    induction n with
    | zero =>
      intro x w vx hx h1 hlo hhi
      have e : x = 31 := by omega
      subst e
      refine vx_go hX [] 9 ?_
      simp only [e_nil, e_iconst, e_bipush, e_sipush, e_lconst, e_ldc_w, e_ldc2_w, e_iload, e_iload_n, e_lload, e_lload_n, e_aload, e_aload_n, e_istore, e_istore_n, e_astore, e_astore_n, e_lstore, e_iinc, e_iadd, e_isub, e_imul, e_iand, e_ior, e_ishl, e_ishr, e_iushr, e_idiv, e_irem, e_ldiv, e_lrem, e_ineg, e_lshl, e_lcmp, e_i2l, e_i2b, e_i2s, e_dup_i, e_dup_r, e_dup2, e_if_eq, e_if_ne, e_if_lt, e_if_ge, e_if_gt, e_if_le, e_icmp_eq, e_icmp_ne, e_icmp_lt, e_icmp_ge, e_icmp_gt, e_icmp_le, e_ifnull_r, e_ifnull_n, e_goto, e_tsw, e_lsw, e_getf, e_puti, e_putz, e_puta, e_new, e_newa, e_anew, e_iald, e_sald, e_iast, e_aald, e_aast, e_alen, e_slen, e_inv, e_acp, e_min, e_max, e_abs, e_ins, e_oinit, e_inx, e_iret, e_lret, e_vret, vx_run_s, List.getElem?_cons_succ, List.getElem?_cons_zero, List.set_cons_succ, List.set_cons_zero, List.mem_cons, List.not_mem_nil, or_false, false_or, if_true, if_false, ite_true, ite_false, ↓reduceIte, reduceCtorEq, List.take_succ_cons, List.take_zero, List.drop_succ_cons, List.drop_zero, List.reverse_cons, List.reverse_nil, List.nil_append, List.cons_append, List.append_nil, List.length_cons, List.length_nil, Option.toList_some, Option.toList_none, vx_nl, vx_isob, true_and, and_true, Nat.reduceAdd, Nat.reduceEqDiff, Nat.reduceLeDiff, Nat.zero_add, Nat.add_zero, not_false_eq_true, not_true_eq_false, Nat.reduceLT, Nat.reduceMul, Nat.reduceSub, Nat.zero_le, vx_up_s, false_implies, true_implies, forall_const, implies_true, imp_self, Nat.le_refl, forall_eq, forall_eq_apply_imp_iff, and_imp, exists_and_left, exists_eq_left, Nat.one_ne_zero, eq_self, true_or, or_true, Option.some.injEq, Value.int.injEq, Value.long.injEq, bk_Wk_countVotes_0, bk_Wk_countVotes_10, bk_Wk_countVotes_67, bk_Wk_countVotes_73, bk_Wk_countVotes_75, bk_Wk_countVotes_104]
      exact ⟨fun _ => ⟨vx, fun j hj => hlo j (by omega), rfl⟩, fun q => absurd (by decide) q⟩
    | succ n ih =>
      intro x w vx hx h1 hlo hhi
      have b1 : x < 2 ^ 31 := by omega
      have a1 := nI_toInt b1
      have em : nI x - 1 = nI (x - 1) := nI_sub (b := 1) h1
      have b2 : x - 1 < 2 ^ 31 := by omega
      refine vx_go hX [75] 9 ?_
      simp only [e_nil, e_iconst, e_bipush, e_sipush, e_lconst, e_ldc_w, e_ldc2_w, e_iload, e_iload_n, e_lload, e_lload_n, e_aload, e_aload_n, e_istore, e_istore_n, e_astore, e_astore_n, e_lstore, e_iinc, e_iadd, e_isub, e_imul, e_iand, e_ior, e_ishl, e_ishr, e_iushr, e_idiv, e_irem, e_ldiv, e_lrem, e_ineg, e_lshl, e_lcmp, e_i2l, e_i2b, e_i2s, e_dup_i, e_dup_r, e_dup2, e_if_eq, e_if_ne, e_if_lt, e_if_ge, e_if_gt, e_if_le, e_icmp_eq, e_icmp_ne, e_icmp_lt, e_icmp_ge, e_icmp_gt, e_icmp_le, e_ifnull_r, e_ifnull_n, e_goto, e_tsw, e_lsw, e_getf, e_puti, e_putz, e_puta, e_new, e_newa, e_anew, e_iald, e_sald, e_iast, e_aald, e_aast, e_alen, e_slen, e_inv, e_acp, e_min, e_max, e_abs, e_ins, e_oinit, e_inx, e_iret, e_lret, e_vret, vx_run_s, List.getElem?_cons_succ, List.getElem?_cons_zero, List.set_cons_succ, List.set_cons_zero, List.mem_cons, List.not_mem_nil, or_false, false_or, if_true, if_false, ite_true, ite_false, ↓reduceIte, reduceCtorEq, List.take_succ_cons, List.take_zero, List.drop_succ_cons, List.drop_zero, List.reverse_cons, List.reverse_nil, List.nil_append, List.cons_append, List.append_nil, List.length_cons, List.length_nil, Option.toList_some, Option.toList_none, vx_nl, vx_isob, true_and, and_true, Nat.reduceAdd, Nat.reduceEqDiff, Nat.reduceLeDiff, Nat.zero_add, Nat.add_zero, not_false_eq_true, not_true_eq_false, Nat.reduceLT, Nat.reduceMul, Nat.reduceSub, Nat.zero_le, vx_up_s, false_implies, true_implies, forall_const, implies_true, imp_self, Nat.le_refl, forall_eq, forall_eq_apply_imp_iff, and_imp, exists_and_left, exists_eq_left, Nat.one_ne_zero, eq_self, true_or, or_true, Option.some.injEq, Value.int.injEq, Value.long.injEq, bk_Wk_countVotes_0, bk_Wk_countVotes_10, bk_Wk_countVotes_67, bk_Wk_countVotes_73, bk_Wk_countVotes_75, bk_Wk_countVotes_104, vx_up_a, w1, em, nI_clamp, b1, b2, nI_1]
      refine ⟨fun q => by (exfalso; simp only [Int32.lt_iff_toInt_lt, Int32.le_iff_toInt_le, ← Int32.toInt_inj, Int32.reduceToInt] at q; omega), fun _ => ⟨vp_in_nI (by omega) (by decide), vp_in_nI (by omega) (by decide), vp_in_nI (by omega) (by decide), ?_⟩⟩
      have e1 : vx x + vx (x - 1) = nI (vw_bt Y q 0 x) := by
        rw [hhi x (Nat.le_refl _) (by omega), hlo (x - 1) (by omega), nI_add]
        have := vw_bt_s Y q (x - 1)
        rw [show x - 1 + 1 = x by omega] at this
        rw [this, Nat.add_comm]
      rw [vx_up_up, e1]
      refine ih (x + 1) w _ (by omega) (by omega) (fun j hj => ?_) (fun j h2 h3 => ?_)
      · by_cases ej : j = x
        · subst ej; simp [upd]
        · simp [upd, ej, hlo j (by omega)]
      · simp [upd, show ¬ j = x by omega, hhi j (by omega) h3]
  have loop1 : ∀ (n p : Nat) (w : Option Value) (vx : Nat → Int32), p + n = yN Y → (∀ j, j ≤ 30 → vx j = nI (vw_c1 Y q j p)) →
      X 10 [some (.ref 18), some (.ref y), some (.int q), some (.int (nI p)), w] [] z (vx_up h 21 (.inl (31, vx))) := by
    intro n
    induction n with
    | zero =>
      intro p w vx hp hv
      have e : p = yN Y := by omega
      subst e
      obtain ⟨u0, u1, u2, u3, u4, u5, u6, u7⟩ := hd.mv (vf.up (c := .inl (31, vx)) (k := 21) (by omega) (by omega))
      refine vx_go hX [75] 9 ?_
      simp only [e_nil, e_iconst, e_bipush, e_sipush, e_lconst, e_ldc_w, e_ldc2_w, e_iload, e_iload_n, e_lload, e_lload_n, e_aload, e_aload_n, e_istore, e_istore_n, e_astore, e_astore_n, e_lstore, e_iinc, e_iadd, e_isub, e_imul, e_iand, e_ior, e_ishl, e_ishr, e_iushr, e_idiv, e_irem, e_ldiv, e_lrem, e_ineg, e_lshl, e_lcmp, e_i2l, e_i2b, e_i2s, e_dup_i, e_dup_r, e_dup2, e_if_eq, e_if_ne, e_if_lt, e_if_ge, e_if_gt, e_if_le, e_icmp_eq, e_icmp_ne, e_icmp_lt, e_icmp_ge, e_icmp_gt, e_icmp_le, e_ifnull_r, e_ifnull_n, e_goto, e_tsw, e_lsw, e_getf, e_puti, e_putz, e_puta, e_new, e_newa, e_anew, e_iald, e_sald, e_iast, e_aald, e_aast, e_alen, e_slen, e_inv, e_acp, e_min, e_max, e_abs, e_ins, e_oinit, e_inx, e_iret, e_lret, e_vret, vx_run_s, List.getElem?_cons_succ, List.getElem?_cons_zero, List.set_cons_succ, List.set_cons_zero, List.mem_cons, List.not_mem_nil, or_false, false_or, if_true, if_false, ite_true, ite_false, ↓reduceIte, reduceCtorEq, List.take_succ_cons, List.take_zero, List.drop_succ_cons, List.drop_zero, List.reverse_cons, List.reverse_nil, List.nil_append, List.cons_append, List.append_nil, List.length_cons, List.length_nil, Option.toList_some, Option.toList_none, vx_nl, vx_isob, true_and, and_true, Nat.reduceAdd, Nat.reduceEqDiff, Nat.reduceLeDiff, Nat.zero_add, Nat.add_zero, not_false_eq_true, not_true_eq_false, Nat.reduceLT, Nat.reduceMul, Nat.reduceSub, Nat.zero_le, vx_up_s, false_implies, true_implies, forall_const, implies_true, imp_self, Nat.le_refl, forall_eq, forall_eq_apply_imp_iff, and_imp, exists_and_left, exists_eq_left, Nat.one_ne_zero, eq_self, true_or, or_true, Option.some.injEq, Value.int.injEq, Value.long.injEq, bk_Wk_countVotes_0, bk_Wk_countVotes_10, bk_Wk_countVotes_67, bk_Wk_countVotes_73, bk_Wk_countVotes_75, bk_Wk_countVotes_104, u1]
      refine ⟨fun _ => ?_, fun q => absurd (Int32.le_refl _) q⟩
      exact loop2 30 1 w vx (by omega) (by omega) (fun j hj => by
        have : j = 0 := by omega
        subst this
        rw [hv 0 (by omega), vw_bt_0]
        congr 1
        exact vw_sum_0 (fun p _ => by simp)) (fun j h1 h2 => hv j h2)
    | succ n ih =>
      intro p w vx hp hv
      obtain ⟨u0, u1, u2, u3, u4, u5, u6, u7⟩ := hd.mv (vf.up (c := .inl (31, vx)) (k := 21) (by omega) (by omega))
      have w1' : vx_up h 21 (.inl (31, vx)) 18 = _ := (vx_up_n h _ (by decide)).trans w1
      have b1 : p < 2 ^ 31 := by omega
      obtain ⟨p1, p2⟩ := o4 p (by omega)
      have ep : fp p = nI (yP Y p) := u7 p (by omega)
      have ek : fk p = nI (yK Y p) := u6 p (by omega)
      have h67 : ∀ vx' : Nat → Int32, (∀ j, j ≤ 30 → vx' j = nI (vw_c1 Y q j (p + 1))) → X 67 [some (.ref 18), some (.ref y), some (.int q), some (.int (nI p)), some (.int (nI (yP Y p)))] [] z (vx_up h 21 (.inl (31, vx'))) := by
        intro vx' hv'
        refine vx_go hX [10] 9 ?_
        simp only [e_nil, e_iconst, e_bipush, e_sipush, e_lconst, e_ldc_w, e_ldc2_w, e_iload, e_iload_n, e_lload, e_lload_n, e_aload, e_aload_n, e_istore, e_istore_n, e_astore, e_astore_n, e_lstore, e_iinc, e_iadd, e_isub, e_imul, e_iand, e_ior, e_ishl, e_ishr, e_iushr, e_idiv, e_irem, e_ldiv, e_lrem, e_ineg, e_lshl, e_lcmp, e_i2l, e_i2b, e_i2s, e_dup_i, e_dup_r, e_dup2, e_if_eq, e_if_ne, e_if_lt, e_if_ge, e_if_gt, e_if_le, e_icmp_eq, e_icmp_ne, e_icmp_lt, e_icmp_ge, e_icmp_gt, e_icmp_le, e_ifnull_r, e_ifnull_n, e_goto, e_tsw, e_lsw, e_getf, e_puti, e_putz, e_puta, e_new, e_newa, e_anew, e_iald, e_sald, e_iast, e_aald, e_aast, e_alen, e_slen, e_inv, e_acp, e_min, e_max, e_abs, e_ins, e_oinit, e_inx, e_iret, e_lret, e_vret, vx_run_s, List.getElem?_cons_succ, List.getElem?_cons_zero, List.set_cons_succ, List.set_cons_zero, List.mem_cons, List.not_mem_nil, or_false, false_or, if_true, if_false, ite_true, ite_false, ↓reduceIte, reduceCtorEq, List.take_succ_cons, List.take_zero, List.drop_succ_cons, List.drop_zero, List.reverse_cons, List.reverse_nil, List.nil_append, List.cons_append, List.append_nil, List.length_cons, List.length_nil, Option.toList_some, Option.toList_none, vx_nl, vx_isob, true_and, and_true, Nat.reduceAdd, Nat.reduceEqDiff, Nat.reduceLeDiff, Nat.zero_add, Nat.add_zero, not_false_eq_true, not_true_eq_false, Nat.reduceLT, Nat.reduceMul, Nat.reduceSub, Nat.zero_le, vx_up_s, false_implies, true_implies, forall_const, implies_true, imp_self, Nat.le_refl, forall_eq, forall_eq_apply_imp_iff, and_imp, exists_and_left, exists_eq_left, Nat.one_ne_zero, eq_self, true_or, or_true, Option.some.injEq, Value.int.injEq, Value.long.injEq, bk_Wk_countVotes_0, bk_Wk_countVotes_10, bk_Wk_countVotes_67, bk_Wk_countVotes_73, bk_Wk_countVotes_75, bk_Wk_countVotes_104, nI_1]
        exact ih (p + 1) _ vx' (by omega) hv'
      have skip : vw_in q (nI p) = true → ∀ j, j ≤ 30 → vx j = nI (vw_c1 Y q j (p + 1)) := by
        intro e j hj
        rw [hv j hj]
        unfold vw_c1
        rw [vw_sum]
        simp [e]
      refine vx_go hX [67] 9 ?_
      simp only [e_nil, e_iconst, e_bipush, e_sipush, e_lconst, e_ldc_w, e_ldc2_w, e_iload, e_iload_n, e_lload, e_lload_n, e_aload, e_aload_n, e_istore, e_istore_n, e_astore, e_astore_n, e_lstore, e_iinc, e_iadd, e_isub, e_imul, e_iand, e_ior, e_ishl, e_ishr, e_iushr, e_idiv, e_irem, e_ldiv, e_lrem, e_ineg, e_lshl, e_lcmp, e_i2l, e_i2b, e_i2s, e_dup_i, e_dup_r, e_dup2, e_if_eq, e_if_ne, e_if_lt, e_if_ge, e_if_gt, e_if_le, e_icmp_eq, e_icmp_ne, e_icmp_lt, e_icmp_ge, e_icmp_gt, e_icmp_le, e_ifnull_r, e_ifnull_n, e_goto, e_tsw, e_lsw, e_getf, e_puti, e_putz, e_puta, e_new, e_newa, e_anew, e_iald, e_sald, e_iast, e_aald, e_aast, e_alen, e_slen, e_inv, e_acp, e_min, e_max, e_abs, e_ins, e_oinit, e_inx, e_iret, e_lret, e_vret, vx_run_s, List.getElem?_cons_succ, List.getElem?_cons_zero, List.set_cons_succ, List.set_cons_zero, List.mem_cons, List.not_mem_nil, or_false, false_or, if_true, if_false, ite_true, ite_false, ↓reduceIte, reduceCtorEq, List.take_succ_cons, List.take_zero, List.drop_succ_cons, List.drop_zero, List.reverse_cons, List.reverse_nil, List.nil_append, List.cons_append, List.append_nil, List.length_cons, List.length_nil, Option.toList_some, Option.toList_none, vx_nl, vx_isob, true_and, and_true, Nat.reduceAdd, Nat.reduceEqDiff, Nat.reduceLeDiff, Nat.zero_add, Nat.add_zero, not_false_eq_true, not_true_eq_false, Nat.reduceLT, Nat.reduceMul, Nat.reduceSub, Nat.zero_le, vx_up_s, false_implies, true_implies, forall_const, implies_true, imp_self, Nat.le_refl, forall_eq, forall_eq_apply_imp_iff, and_imp, exists_and_left, exists_eq_left, Nat.one_ne_zero, eq_self, true_or, or_true, Option.some.injEq, Value.int.injEq, Value.long.injEq, bk_Wk_countVotes_0, bk_Wk_countVotes_10, bk_Wk_countVotes_67, bk_Wk_countVotes_73, bk_Wk_countVotes_75, bk_Wk_countVotes_104, u1, u4, nI_clamp, b1, ep]
      refine ⟨fun q1 => absurd q1 (nI_ge (by omega) (by omega)), fun _ => ⟨vp_in_nI (by omega) (by decide), ?_⟩⟩
      refine vx_cl1 (vw_isIn _ _ _ _) ?_
      simp only [e_nil, e_iconst, e_bipush, e_sipush, e_lconst, e_ldc_w, e_ldc2_w, e_iload, e_iload_n, e_lload, e_lload_n, e_aload, e_aload_n, e_istore, e_istore_n, e_astore, e_astore_n, e_lstore, e_iinc, e_iadd, e_isub, e_imul, e_iand, e_ior, e_ishl, e_ishr, e_iushr, e_idiv, e_irem, e_ldiv, e_lrem, e_ineg, e_lshl, e_lcmp, e_i2l, e_i2b, e_i2s, e_dup_i, e_dup_r, e_dup2, e_if_eq, e_if_ne, e_if_lt, e_if_ge, e_if_gt, e_if_le, e_icmp_eq, e_icmp_ne, e_icmp_lt, e_icmp_ge, e_icmp_gt, e_icmp_le, e_ifnull_r, e_ifnull_n, e_goto, e_tsw, e_lsw, e_getf, e_puti, e_putz, e_puta, e_new, e_newa, e_anew, e_iald, e_sald, e_iast, e_aald, e_aast, e_alen, e_slen, e_inv, e_acp, e_min, e_max, e_abs, e_ins, e_oinit, e_inx, e_iret, e_lret, e_vret, vx_run_s, List.getElem?_cons_succ, List.getElem?_cons_zero, List.set_cons_succ, List.set_cons_zero, List.mem_cons, List.not_mem_nil, or_false, false_or, if_true, if_false, ite_true, ite_false, ↓reduceIte, reduceCtorEq, List.take_succ_cons, List.take_zero, List.drop_succ_cons, List.drop_zero, List.reverse_cons, List.reverse_nil, List.nil_append, List.cons_append, List.append_nil, List.length_cons, List.length_nil, Option.toList_some, Option.toList_none, vx_nl, vx_isob, true_and, and_true, Nat.reduceAdd, Nat.reduceEqDiff, Nat.reduceLeDiff, Nat.zero_add, Nat.add_zero, not_false_eq_true, not_true_eq_false, Nat.reduceLT, Nat.reduceMul, Nat.reduceSub, Nat.zero_le, vx_up_s, false_implies, true_implies, forall_const, implies_true, imp_self, Nat.le_refl, forall_eq, forall_eq_apply_imp_iff, and_imp, exists_and_left, exists_eq_left, Nat.one_ne_zero, eq_self, true_or, or_true, Option.some.injEq, Value.int.injEq, Value.long.injEq, bk_Wk_countVotes_0, bk_Wk_countVotes_10, bk_Wk_countVotes_67, bk_Wk_countVotes_73, bk_Wk_countVotes_75, bk_Wk_countVotes_104, vx_bI_0, w1', u1, u3, nI_clamp, b1, ek, nI_1]
      refine ⟨fun q1 => h67 vx (skip (by simpa using q1)), fun q1 => ⟨fun q2 => absurd q2 (nI_pos (by omega)), fun _ => ⟨fun q2 => absurd q2 (nI_ge (b := 30) (by omega) (by omega)), fun _ => ?_⟩⟩⟩
      have b3 : yP Y p + 1 < 2 ^ 31 := by omega
      refine ⟨vp_in_nI (by omega) (by decide), vp_in_nI (by omega) (by decide), ?_⟩
      refine vx_cl1 (vw_votesOfKind _ _ _) ?_
      rw [vw_vt_I p2]
      simp only [e_nil, e_iconst, e_bipush, e_sipush, e_lconst, e_ldc_w, e_ldc2_w, e_iload, e_iload_n, e_lload, e_lload_n, e_aload, e_aload_n, e_istore, e_istore_n, e_astore, e_astore_n, e_lstore, e_iinc, e_iadd, e_isub, e_imul, e_iand, e_ior, e_ishl, e_ishr, e_iushr, e_idiv, e_irem, e_ldiv, e_lrem, e_ineg, e_lshl, e_lcmp, e_i2l, e_i2b, e_i2s, e_dup_i, e_dup_r, e_dup2, e_if_eq, e_if_ne, e_if_lt, e_if_ge, e_if_gt, e_if_le, e_icmp_eq, e_icmp_ne, e_icmp_lt, e_icmp_ge, e_icmp_gt, e_icmp_le, e_ifnull_r, e_ifnull_n, e_goto, e_tsw, e_lsw, e_getf, e_puti, e_putz, e_puta, e_new, e_newa, e_anew, e_iald, e_sald, e_iast, e_aald, e_aast, e_alen, e_slen, e_inv, e_acp, e_min, e_max, e_abs, e_ins, e_oinit, e_inx, e_iret, e_lret, e_vret, vx_run_s, List.getElem?_cons_succ, List.getElem?_cons_zero, List.set_cons_succ, List.set_cons_zero, List.mem_cons, List.not_mem_nil, or_false, false_or, if_true, if_false, ite_true, ite_false, ↓reduceIte, reduceCtorEq, List.take_succ_cons, List.take_zero, List.drop_succ_cons, List.drop_zero, List.reverse_cons, List.reverse_nil, List.nil_append, List.cons_append, List.append_nil, List.length_cons, List.length_nil, Option.toList_some, Option.toList_none, vx_nl, vx_isob, true_and, and_true, Nat.reduceAdd, Nat.reduceEqDiff, Nat.reduceLeDiff, Nat.zero_add, Nat.add_zero, not_false_eq_true, not_true_eq_false, Nat.reduceLT, Nat.reduceMul, Nat.reduceSub, Nat.zero_le, vx_up_s, false_implies, true_implies, forall_const, implies_true, imp_self, Nat.le_refl, forall_eq, forall_eq_apply_imp_iff, and_imp, exists_and_left, exists_eq_left, Nat.one_ne_zero, eq_self, true_or, or_true, Option.some.injEq, Value.int.injEq, Value.long.injEq, bk_Wk_countVotes_0, bk_Wk_countVotes_10, bk_Wk_countVotes_67, bk_Wk_countVotes_73, bk_Wk_countVotes_75, bk_Wk_countVotes_104, w1', nI_clamp, b1, b3, nI_1]
      refine ⟨vp_in_nI (by omega) (by decide), ?_⟩
      rw [vx_up_up, hv _ (by omega), nI_add]
      refine h67 _ (fun j hj => ?_)
      unfold vw_c1
      rw [vw_sum]
      by_cases ej : j = yP Y p + 1
      · subst ej; simp [upd, q1, vw_c1]
      · simp [upd, ej, Ne.symm ej, hv j hj, vw_c1]
  obtain ⟨u0, u1, u2, u3, u4, u5, u6, u7⟩ := id hd
  refine vx_go hX [10] 9 ?_
  simp only [e_nil, e_iconst, e_bipush, e_sipush, e_lconst, e_ldc_w, e_ldc2_w, e_iload, e_iload_n, e_lload, e_lload_n, e_aload, e_aload_n, e_istore, e_istore_n, e_astore, e_astore_n, e_lstore, e_iinc, e_iadd, e_isub, e_imul, e_iand, e_ior, e_ishl, e_ishr, e_iushr, e_idiv, e_irem, e_ldiv, e_lrem, e_ineg, e_lshl, e_lcmp, e_i2l, e_i2b, e_i2s, e_dup_i, e_dup_r, e_dup2, e_if_eq, e_if_ne, e_if_lt, e_if_ge, e_if_gt, e_if_le, e_icmp_eq, e_icmp_ne, e_icmp_lt, e_icmp_ge, e_icmp_gt, e_icmp_le, e_ifnull_r, e_ifnull_n, e_goto, e_tsw, e_lsw, e_getf, e_puti, e_putz, e_puta, e_new, e_newa, e_anew, e_iald, e_sald, e_iast, e_aald, e_aast, e_alen, e_slen, e_inv, e_acp, e_min, e_max, e_abs, e_ins, e_oinit, e_inx, e_iret, e_lret, e_vret, vx_run_s, List.getElem?_cons_succ, List.getElem?_cons_zero, List.set_cons_succ, List.set_cons_zero, List.mem_cons, List.not_mem_nil, or_false, false_or, if_true, if_false, ite_true, ite_false, ↓reduceIte, reduceCtorEq, List.take_succ_cons, List.take_zero, List.drop_succ_cons, List.drop_zero, List.reverse_cons, List.reverse_nil, List.nil_append, List.cons_append, List.append_nil, List.length_cons, List.length_nil, Option.toList_some, Option.toList_none, vx_nl, vx_isob, true_and, and_true, Nat.reduceAdd, Nat.reduceEqDiff, Nat.reduceLeDiff, Nat.zero_add, Nat.add_zero, not_false_eq_true, not_true_eq_false, Nat.reduceLT, Nat.reduceMul, Nat.reduceSub, Nat.zero_le, vx_up_s, false_implies, true_implies, forall_const, implies_true, imp_self, Nat.le_refl, forall_eq, forall_eq_apply_imp_iff, and_imp, exists_and_left, exists_eq_left, Nat.one_ne_zero, eq_self, true_or, or_true, Option.some.injEq, Value.int.injEq, Value.long.injEq, bk_Wk_countVotes_0, bk_Wk_countVotes_10, bk_Wk_countVotes_67, bk_Wk_countVotes_73, bk_Wk_countVotes_75, bk_Wk_countVotes_104, w1]
  refine vx_cl1 (vw_fill h _ 21 31 vb 0 w4 (by decide)) ?_
  simp only [e_nil, e_iconst, e_bipush, e_sipush, e_lconst, e_ldc_w, e_ldc2_w, e_iload, e_iload_n, e_lload, e_lload_n, e_aload, e_aload_n, e_istore, e_istore_n, e_astore, e_astore_n, e_lstore, e_iinc, e_iadd, e_isub, e_imul, e_iand, e_ior, e_ishl, e_ishr, e_iushr, e_idiv, e_irem, e_ldiv, e_lrem, e_ineg, e_lshl, e_lcmp, e_i2l, e_i2b, e_i2s, e_dup_i, e_dup_r, e_dup2, e_if_eq, e_if_ne, e_if_lt, e_if_ge, e_if_gt, e_if_le, e_icmp_eq, e_icmp_ne, e_icmp_lt, e_icmp_ge, e_icmp_gt, e_icmp_le, e_ifnull_r, e_ifnull_n, e_goto, e_tsw, e_lsw, e_getf, e_puti, e_putz, e_puta, e_new, e_newa, e_anew, e_iald, e_sald, e_iast, e_aald, e_aast, e_alen, e_slen, e_inv, e_acp, e_min, e_max, e_abs, e_ins, e_oinit, e_inx, e_iret, e_lret, e_vret, vx_run_s, List.getElem?_cons_succ, List.getElem?_cons_zero, List.set_cons_succ, List.set_cons_zero, List.mem_cons, List.not_mem_nil, or_false, false_or, if_true, if_false, ite_true, ite_false, ↓reduceIte, reduceCtorEq, List.take_succ_cons, List.take_zero, List.drop_succ_cons, List.drop_zero, List.reverse_cons, List.reverse_nil, List.nil_append, List.cons_append, List.append_nil, List.length_cons, List.length_nil, Option.toList_some, Option.toList_none, vx_nl, vx_isob, true_and, and_true, Nat.reduceAdd, Nat.reduceEqDiff, Nat.reduceLeDiff, Nat.zero_add, Nat.add_zero, not_false_eq_true, not_true_eq_false, Nat.reduceLT, Nat.reduceMul, Nat.reduceSub, Nat.zero_le, vx_up_s, false_implies, true_implies, forall_const, implies_true, imp_self, Nat.le_refl, forall_eq, forall_eq_apply_imp_iff, and_imp, exists_and_left, exists_eq_left, Nat.one_ne_zero, eq_self, true_or, or_true, Option.some.injEq, Value.int.injEq, Value.long.injEq, bk_Wk_countVotes_0, bk_Wk_countVotes_10, bk_Wk_countVotes_67, bk_Wk_countVotes_73, bk_Wk_countVotes_75, bk_Wk_countVotes_104, w1]
  exact loop1 (yN Y) 0 none _ (by omega) (fun j hj => by simp [show j < 31 by omega, vw_c1, vw_sum]; rfl)
end
section
/-! Weeks: reckon -/
def hW0 (h : vx_H) : Prop := ∃ (bo inn lr lm : Int32) (rows gf vb : Nat → Int32), h 18 = some (.inr (.inr (4, [.ref 19, .ref 20, .ref 21, .int bo, .int inn, .int lr, .int lm]))) ∧ h 19 = some (.inl (255, rows)) ∧ h 20 = some (.inl (5, gf)) ∧ h 21 = some (.inl (31, vb))
theorem hW.w0 {h : vx_H} {Y : vw_Y} {rows gf vb : Nat → Int32} {lr lm : Int32} (hw : hW h Y rows gf vb lr lm) : hW0 h := ⟨_, _, _, _, _, _, _, hw⟩
def hC (h : vx_H) (lf sf : Nat → Int32) (t : Nat) : Prop := h 15 = some (.inr (.inr (0, [.ref 16, .ref 17, .int (nI t)]))) ∧ h 16 = some (.inl (50, lf)) ∧ h 17 = some (.inl (50, sf)) ∧ t < 50 ∧ ∀ j, t ≤ j → j < 50 → lf j = lf t ∧ sf j = sf t
theorem hC.mv {h h' : vx_H} {lf sf : Nat → Int32} {t : Nat} (u : hC h lf sf t) (w : vf 18 21 h h') : hC h' lf sf t := by
  obtain ⟨u1, u2, u3, u4⟩ := u
  exact ⟨by rw [w 15 (by omega)]; exact u1, by rw [w 16 (by omega)]; exact u2, by rw [w 17 (by omega)]; exact u3, u4⟩
theorem va_cpy_in {f g : Nat → Int32} {sp dp n j : Nat} (h : j < n) : va_cpy f g sp dp n (dp + j) = f (sp + j) := by
  unfold va_cpy
  rw [if_pos ⟨by omega, by omega⟩]
  congr 1; omega
theorem va_cpy_out {f g : Nat → Int32} {sp dp n j : Nat} (h : j < dp ∨ dp + n ≤ j) : va_cpy f g sp dp n j = g j := by
  unfold va_cpy
  rw [if_neg (by omega)]
theorem vw_begin (h : vx_H) (sz : Nat) (y : Nat) (Y : vw_Y) (fg fk fp rows gf vb : Nat → Int32) (bo inn lr lm : Int32) (w1 : h 18 = some (.inr (.inr (4, [.ref 19, .ref 20, .ref 21, .int bo, .int inn, .int lr, .int lm])))) (w2 : h 19 = some (.inl (255, rows))) (w3 : h 20 = some (.inl (5, gf))) (w4 : h 21 = some (.inl (31, vb))) (hd : hYd h y Y fg fk fp) :
    vx_Ok m_Wk_begin [.ref 18, .ref y] sz h (fun r h' => r = none ∧ ∃ rows' gf', (∀ b, b < 5 → gf' b = fg b ∧ rows' b = fg b) ∧ hW h' Y rows' gf' vb (-1) (-1) ∧ vf 18 21 h h') := by
  refine ok_Wk_begin [some (.ref 18), some (.ref y)] (Nat.le_of_ble_eq_true rfl) rfl (fun lim z X hX => ?_)
  obtain ⟨u0, u1, u2, u3, u4, u5, u6, u7⟩ := hd
  refine vx_go hX [] 9 ?_
  have key : ∀ h' : vx_H, h' = vx_up (vx_up (vx_up h 18 (.inr (.inr (4, [.ref 19, .ref 20, .ref 21, .int (nI (yB Y)), .int (nI (yI Y)), .int (-1), .int (-1)])))) 20 (.inl (5, va_cpy fg gf (0 : Int32).toNatClampNeg (0 : Int32).toNatClampNeg (5 : Int32).toNatClampNeg))) 19 (.inl (255, va_cpy (va_cpy fg gf (0 : Int32).toNatClampNeg (0 : Int32).toNatClampNeg (5 : Int32).toNatClampNeg) rows (0 : Int32).toNatClampNeg (0 : Int32).toNatClampNeg (5 : Int32).toNatClampNeg)) →
      ∃ rows' gf', (∀ b, b < 5 → gf' b = fg b ∧ rows' b = fg b) ∧ hW h' Y rows' gf' vb (-1) (-1) ∧ vf 18 21 h h' := by
    rintro h' rfl
    have e0 : (0 : Int32).toNatClampNeg = 0 := rfl
    have e5 : (5 : Int32).toNatClampNeg = 5 := rfl
    rw [e0, e5]
    refine ⟨va_cpy (va_cpy fg gf 0 0 5) rows 0 0 5, va_cpy fg gf 0 0 5, fun b hb => ?_, ⟨?_, ?_, ?_, ?_⟩, ?_⟩
    rotate_left
    · simp [vx_up_a]
    · simp [vx_up_a]
    · simp [vx_up_a]
    · simp [vx_up_a, w4]
    · exact ((vf.up (by omega) (by omega)).tr (vf.up (by omega) (by omega))).tr (vf.up (by omega) (by omega))
    · have i1 : va_cpy fg gf 0 0 5 b = fg b := by
        have := va_cpy_in (f := fg) (g := gf) (sp := 0) (dp := 0) hb
        simpa using this
      have i2 : va_cpy (va_cpy fg gf 0 0 5) rows 0 0 5 b = fg b := by
        have := va_cpy_in (f := va_cpy fg gf 0 0 5) (g := rows) (sp := 0) (dp := 0) hb
        simp only [Nat.zero_add] at this
        rw [this, i1]
      exact ⟨i1, i2⟩
  rcases u0 with rfl | rfl
  · simp only [e_nil, e_iconst, e_bipush, e_sipush, e_lconst, e_ldc_w, e_ldc2_w, e_iload, e_iload_n, e_lload, e_lload_n, e_aload, e_aload_n, e_istore, e_istore_n, e_astore, e_astore_n, e_lstore, e_iinc, e_iadd, e_isub, e_imul, e_iand, e_ior, e_ishl, e_ishr, e_iushr, e_idiv, e_irem, e_ldiv, e_lrem, e_ineg, e_lshl, e_lcmp, e_i2l, e_i2b, e_i2s, e_dup_i, e_dup_r, e_dup2, e_if_eq, e_if_ne, e_if_lt, e_if_ge, e_if_gt, e_if_le, e_icmp_eq, e_icmp_ne, e_icmp_lt, e_icmp_ge, e_icmp_gt, e_icmp_le, e_ifnull_r, e_ifnull_n, e_goto, e_tsw, e_lsw, e_getf, e_puti, e_putz, e_puta, e_new, e_newa, e_anew, e_iald, e_sald, e_iast, e_aald, e_aast, e_alen, e_slen, e_inv, e_acp, e_min, e_max, e_abs, e_ins, e_oinit, e_inx, e_iret, e_lret, e_vret, vx_run_s, List.getElem?_cons_succ, List.getElem?_cons_zero, List.set_cons_succ, List.set_cons_zero, List.mem_cons, List.not_mem_nil, or_false, false_or, if_true, if_false, ite_true, ite_false, ↓reduceIte, reduceCtorEq, List.take_succ_cons, List.take_zero, List.drop_succ_cons, List.drop_zero, List.reverse_cons, List.reverse_nil, List.nil_append, List.cons_append, List.append_nil, List.length_cons, List.length_nil, Option.toList_some, Option.toList_none, vx_nl, vx_isob, true_and, and_true, Nat.reduceAdd, Nat.reduceEqDiff, Nat.reduceLeDiff, Nat.zero_add, Nat.add_zero, not_false_eq_true, not_true_eq_false, Nat.reduceLT, Nat.reduceMul, Nat.reduceSub, Nat.zero_le, vx_up_s, false_implies, true_implies, forall_const, implies_true, imp_self, Nat.le_refl, forall_eq, forall_eq_apply_imp_iff, and_imp, exists_and_left, exists_eq_left, Nat.one_ne_zero, eq_self, true_or, or_true, Option.some.injEq, Value.int.injEq, Value.long.injEq, bk_Wk_begin_0, w1, w2, w3, u1, u2, vx_up_a, vx_up_up]
    refine ⟨by decide, by decide, by decide, by decide, by decide, by decide, by decide, by decide, by decide, by decide, key _ ?_⟩
    rfl
  · simp only [e_nil, e_iconst, e_bipush, e_sipush, e_lconst, e_ldc_w, e_ldc2_w, e_iload, e_iload_n, e_lload, e_lload_n, e_aload, e_aload_n, e_istore, e_istore_n, e_astore, e_astore_n, e_lstore, e_iinc, e_iadd, e_isub, e_imul, e_iand, e_ior, e_ishl, e_ishr, e_iushr, e_idiv, e_irem, e_ldiv, e_lrem, e_ineg, e_lshl, e_lcmp, e_i2l, e_i2b, e_i2s, e_dup_i, e_dup_r, e_dup2, e_if_eq, e_if_ne, e_if_lt, e_if_ge, e_if_gt, e_if_le, e_icmp_eq, e_icmp_ne, e_icmp_lt, e_icmp_ge, e_icmp_gt, e_icmp_le, e_ifnull_r, e_ifnull_n, e_goto, e_tsw, e_lsw, e_getf, e_puti, e_putz, e_puta, e_new, e_newa, e_anew, e_iald, e_sald, e_iast, e_aald, e_aast, e_alen, e_slen, e_inv, e_acp, e_min, e_max, e_abs, e_ins, e_oinit, e_inx, e_iret, e_lret, e_vret, vx_run_s, List.getElem?_cons_succ, List.getElem?_cons_zero, List.set_cons_succ, List.set_cons_zero, List.mem_cons, List.not_mem_nil, or_false, false_or, if_true, if_false, ite_true, ite_false, ↓reduceIte, reduceCtorEq, List.take_succ_cons, List.take_zero, List.drop_succ_cons, List.drop_zero, List.reverse_cons, List.reverse_nil, List.nil_append, List.cons_append, List.append_nil, List.length_cons, List.length_nil, Option.toList_some, Option.toList_none, vx_nl, vx_isob, true_and, and_true, Nat.reduceAdd, Nat.reduceEqDiff, Nat.reduceLeDiff, Nat.zero_add, Nat.add_zero, not_false_eq_true, not_true_eq_false, Nat.reduceLT, Nat.reduceMul, Nat.reduceSub, Nat.zero_le, vx_up_s, false_implies, true_implies, forall_const, implies_true, imp_self, Nat.le_refl, forall_eq, forall_eq_apply_imp_iff, and_imp, exists_and_left, exists_eq_left, Nat.one_ne_zero, eq_self, true_or, or_true, Option.some.injEq, Value.int.injEq, Value.long.injEq, bk_Wk_begin_0, w1, w2, w3, u1, u2, vx_up_a, vx_up_up]
    refine ⟨by decide, by decide, by decide, by decide, by decide, by decide, by decide, by decide, by decide, by decide, key _ ?_⟩
    rfl
end
section
/-! Weeks: reckon, and what is read off it -/
/-- n Sundays are reckoned -/
def hRk (h : vx_H) (Y : vw_Y) (law : Int32) (lk st : Nat → Int32) (n : Nat) : Prop := ∃ (m : Nat) (rows gf vb : Nat → Int32), m ≤ n ∧ (n = 0 ∨ 1 ≤ m) ∧ hW h Y rows gf vb (nI m - 1) (nI (vw_lm Y law lk st n) - 1) ∧ ∀ j, j ≤ n → ∀ b, b < yB Y → rows (min j m * 5 + b) = nI (vw_ps Y law lk st j b)
theorem hRk.w0 {h : vx_H} {Y : vw_Y} {law : Int32} {lk st : Nat → Int32} {n : Nat} (u : hRk h Y law lk st n) : hW0 h := by
  obtain ⟨m, rows, gf, vb, -, -, hw, -⟩ := u
  exact hw.w0
theorem nI_s1 (n : Nat) : nI (n + 1) - 1 = nI n := nI_pred n
theorem nI_lt1 {n s : Nat} (hn : n < 2 ^ 30) (hs : s < 2 ^ 30) : nI n - 1 < nI s ↔ n ≤ s := by
  have e1 := pk_sub_toInt (a := n) (b := 1) hn (by decide)
  have e2 := nI_toInt (n := s) (by omega)
  rw [Int32.lt_iff_toInt_lt, show (1 : Int32) = nI 1 from rfl, e1, e2]
  omega
theorem vw_reckon (h : vx_H) (sz : Nat) (y : Nat) (Y : vw_Y) (fg fk fp lf sf : Nat → Int32) (t : Nat) (law lx sx : Int32) (n : Nat) (hn : n ≤ 50) (hw : hW0 h) (hd : hYd h y Y fg fk fp) (hc : hC h lf sf t) (ho : yOk Y) (hq : ∀ s, s < 50 → ¬ sf s ||| sx = -1) :
    vx_Ok m_Wk_reckon [.ref 18, .ref y, .ref 15, .int law, .int lx, .int sx, .int (nI n - 1)] sz h (fun r h' => r = none ∧ hRk h' Y law (fun s => lf s ||| lx) (fun s => sf s ||| sx) n ∧ vf 18 21 h h') := by
  refine ok_Wk_reckon [some (.ref 18), some (.ref y), some (.ref 15), some (.int law), some (.int lx), some (.int sx), some (.int (nI n - 1)), none, none, none, none] (Nat.le_of_ble_eq_true rfl) rfl (fun lim z X hX => ?_)
  generalize hlk : (fun s => lf s ||| lx) = lk at hX
  generalize hst : (fun s => sf s ||| sx) = st at hX
  have hinc : ∀ j, vw_inc Y (vw_ps Y law lk st j) := vw_ps_inc ho.2.2.2.2.1
  have loop : ∀ (k s : Nat) (cnt : Int32) (w9 w10 : Option Value) (hs : vx_H) (rows gf vb : Nat → Int32), s + k = n → hW hs Y rows gf vb (nI s - 1) (nI (vw_lm Y law lk st s) - 1) → vf 18 21 h hs → (∀ b, b < yB Y → gf b = nI (vw_ps Y law lk st s b)) → (∀ j, j ≤ s → ∀ b, b < yB Y → rows (j * 5 + b) = nI (vw_ps Y law lk st j b)) →
      (cnt = -1 ∨ ∀ x, x ≤ 30 → vb x = nI (vw_bt Y cnt 0 x)) → X 11 [some (.ref 18), some (.ref y), some (.ref 15), some (.int law), some (.int lx), some (.int sx), some (.int (nI n - 1)), some (.int cnt), some (.int (nI s)), w9, w10] [] z hs := by
    intro k
    induction k with
    | zero =>
      intro s cnt w9 w10 hs rows gf vb hk hws hv hg hr hcn
      have e : s = n := by omega
      subst e
      refine vx_go hX [] 9 ?_
      simp only [e_nil, e_iconst, e_bipush, e_sipush, e_lconst, e_ldc_w, e_ldc2_w, e_iload, e_iload_n, e_lload, e_lload_n, e_aload, e_aload_n, e_istore, e_istore_n, e_astore, e_astore_n, e_lstore, e_iinc, e_iadd, e_isub, e_imul, e_iand, e_ior, e_ishl, e_ishr, e_iushr, e_idiv, e_irem, e_ldiv, e_lrem, e_ineg, e_lshl, e_lcmp, e_i2l, e_i2b, e_i2s, e_dup_i, e_dup_r, e_dup2, e_if_eq, e_if_ne, e_if_lt, e_if_ge, e_if_gt, e_if_le, e_icmp_eq, e_icmp_ne, e_icmp_lt, e_icmp_ge, e_icmp_gt, e_icmp_le, e_ifnull_r, e_ifnull_n, e_goto, e_tsw, e_lsw, e_getf, e_puti, e_putz, e_puta, e_new, e_newa, e_anew, e_iald, e_sald, e_iast, e_aald, e_aast, e_alen, e_slen, e_inv, e_acp, e_min, e_max, e_abs, e_ins, e_oinit, e_inx, e_iret, e_lret, e_vret, vx_run_s, List.getElem?_cons_succ, List.getElem?_cons_zero, List.set_cons_succ, List.set_cons_zero, List.mem_cons, List.not_mem_nil, or_false, false_or, if_true, if_false, ite_true, ite_false, ↓reduceIte, reduceCtorEq, List.take_succ_cons, List.take_zero, List.drop_succ_cons, List.drop_zero, List.reverse_cons, List.reverse_nil, List.nil_append, List.cons_append, List.append_nil, List.length_cons, List.length_nil, Option.toList_some, Option.toList_none, vx_nl, vx_isob, true_and, and_true, Nat.reduceAdd, Nat.reduceEqDiff, Nat.reduceLeDiff, Nat.zero_add, Nat.add_zero, not_false_eq_true, not_true_eq_false, Nat.reduceLT, Nat.reduceMul, Nat.reduceSub, Nat.zero_le, vx_up_s, false_implies, true_implies, forall_const, implies_true, imp_self, Nat.le_refl, forall_eq, forall_eq_apply_imp_iff, and_imp, exists_and_left, exists_eq_left, Nat.one_ne_zero, eq_self, true_or, or_true, Option.some.injEq, Value.int.injEq, Value.long.injEq, bk_Wk_reckon_0, bk_Wk_reckon_11, bk_Wk_reckon_55, bk_Wk_reckon_111, bk_Wk_reckon_123, bk_Wk_reckon_129]
      refine ⟨fun _ => ⟨⟨s, rows, gf, vb, Nat.le_refl _, by omega, hws, fun j hj b hb => by rw [Nat.min_eq_left hj]; exact hr j hj b hb⟩, hv⟩, fun q => absurd ((nI_lt1 (by omega) (by omega)).mpr (Nat.le_refl s)) q⟩
    | succ k ih =>
      intro s cnt w9 w10 hs rows gf vb hk hws hv hg hr hcn
      have b1 : s < 2 ^ 31 := by omega
      obtain ⟨c1, c2, c3, c4, c5⟩ := hc.mv hv
      obtain ⟨w1, w2, w3, w4⟩ := id hws
      have eq1 : sf s ||| sx = st s := by rw [← hst]
      have el1 : lf s ||| lx = lk s := by rw [← hlk]
      have hne : ¬ st s = -1 := by rw [← eq1]; exact hq s (by omega)
      have h123 : ∀ (cnt' : Int32) (w10' : Option Value) (hs' : vx_H) (rows' gf' vb' : Nat → Int32), hW hs' Y rows' gf' vb' (nI (s + 1) - 1) (nI (vw_lm Y law lk st (s + 1)) - 1) → vf 18 21 h hs' → (∀ b, b < yB Y → gf' b = nI (vw_ps Y law lk st (s + 1) b)) → (∀ j, j ≤ s + 1 → ∀ b, b < yB Y → rows' (j * 5 + b) = nI (vw_ps Y law lk st j b)) → (∀ x, x ≤ 30 → vb' x = nI (vw_bt Y cnt' 0 x)) →
          X 123 [some (.ref 18), some (.ref y), some (.ref 15), some (.int law), some (.int lx), some (.int sx), some (.int (nI n - 1)), some (.int cnt'), some (.int (nI s)), some (.int (st s)), w10'] [] z hs' := by
        intro cnt' w10' hs' rows' gf' vb' a1 a2 a3 a4 a5
        refine vx_go hX [11] 9 ?_
        simp only [e_nil, e_iconst, e_bipush, e_sipush, e_lconst, e_ldc_w, e_ldc2_w, e_iload, e_iload_n, e_lload, e_lload_n, e_aload, e_aload_n, e_istore, e_istore_n, e_astore, e_astore_n, e_lstore, e_iinc, e_iadd, e_isub, e_imul, e_iand, e_ior, e_ishl, e_ishr, e_iushr, e_idiv, e_irem, e_ldiv, e_lrem, e_ineg, e_lshl, e_lcmp, e_i2l, e_i2b, e_i2s, e_dup_i, e_dup_r, e_dup2, e_if_eq, e_if_ne, e_if_lt, e_if_ge, e_if_gt, e_if_le, e_icmp_eq, e_icmp_ne, e_icmp_lt, e_icmp_ge, e_icmp_gt, e_icmp_le, e_ifnull_r, e_ifnull_n, e_goto, e_tsw, e_lsw, e_getf, e_puti, e_putz, e_puta, e_new, e_newa, e_anew, e_iald, e_sald, e_iast, e_aald, e_aast, e_alen, e_slen, e_inv, e_acp, e_min, e_max, e_abs, e_ins, e_oinit, e_inx, e_iret, e_lret, e_vret, vx_run_s, List.getElem?_cons_succ, List.getElem?_cons_zero, List.set_cons_succ, List.set_cons_zero, List.mem_cons, List.not_mem_nil, or_false, false_or, if_true, if_false, ite_true, ite_false, ↓reduceIte, reduceCtorEq, List.take_succ_cons, List.take_zero, List.drop_succ_cons, List.drop_zero, List.reverse_cons, List.reverse_nil, List.nil_append, List.cons_append, List.append_nil, List.length_cons, List.length_nil, Option.toList_some, Option.toList_none, vx_nl, vx_isob, true_and, and_true, Nat.reduceAdd, Nat.reduceEqDiff, Nat.reduceLeDiff, Nat.zero_add, Nat.add_zero, not_false_eq_true, not_true_eq_false, Nat.reduceLT, Nat.reduceMul, Nat.reduceSub, Nat.zero_le, vx_up_s, false_implies, true_implies, forall_const, implies_true, imp_self, Nat.le_refl, forall_eq, forall_eq_apply_imp_iff, and_imp, exists_and_left, exists_eq_left, Nat.one_ne_zero, eq_self, true_or, or_true, Option.some.injEq, Value.int.injEq, Value.long.injEq, bk_Wk_reckon_0, bk_Wk_reckon_11, bk_Wk_reckon_55, bk_Wk_reckon_111, bk_Wk_reckon_123, bk_Wk_reckon_129, nI_1]
        exact ih (s + 1) cnt' _ _ hs' rows' gf' vb' (by omega) a1 a2 a3 a4 (Or.inr a5)
      have h55 : ∀ (hs' : vx_H) (vb' : Nat → Int32), hW hs' Y rows gf vb' (nI s - 1) (nI (vw_lm Y law lk st s) - 1) → vf 18 21 h hs' → (∀ x, x ≤ 30 → vb' x = nI (vw_bt Y (st s) 0 x)) → X 55 [some (.ref 18), some (.ref y), some (.ref 15), some (.int law), some (.int lx), some (.int sx), some (.int (nI n - 1)), some (.int (st s)), some (.int (nI s)), some (.int (st s)), w10] [] z hs' := by
        intro hs' vb' hws' hv' hvb'
        obtain ⟨d1, d2, d3, d4, d5⟩ := hc.mv hv'
        obtain ⟨x1, x2, x3, x4⟩ := id hws'
        refine vx_go hX [123] 9 ?_
        simp only [e_nil, e_iconst, e_bipush, e_sipush, e_lconst, e_ldc_w, e_ldc2_w, e_iload, e_iload_n, e_lload, e_lload_n, e_aload, e_aload_n, e_istore, e_istore_n, e_astore, e_astore_n, e_lstore, e_iinc, e_iadd, e_isub, e_imul, e_iand, e_ior, e_ishl, e_ishr, e_iushr, e_idiv, e_irem, e_ldiv, e_lrem, e_ineg, e_lshl, e_lcmp, e_i2l, e_i2b, e_i2s, e_dup_i, e_dup_r, e_dup2, e_if_eq, e_if_ne, e_if_lt, e_if_ge, e_if_gt, e_if_le, e_icmp_eq, e_icmp_ne, e_icmp_lt, e_icmp_ge, e_icmp_gt, e_icmp_le, e_ifnull_r, e_ifnull_n, e_goto, e_tsw, e_lsw, e_getf, e_puti, e_putz, e_puta, e_new, e_newa, e_anew, e_iald, e_sald, e_iast, e_aald, e_aast, e_alen, e_slen, e_inv, e_acp, e_min, e_max, e_abs, e_ins, e_oinit, e_inx, e_iret, e_lret, e_vret, vx_run_s, List.getElem?_cons_succ, List.getElem?_cons_zero, List.set_cons_succ, List.set_cons_zero, List.mem_cons, List.not_mem_nil, or_false, false_or, if_true, if_false, ite_true, ite_false, ↓reduceIte, reduceCtorEq, List.take_succ_cons, List.take_zero, List.drop_succ_cons, List.drop_zero, List.reverse_cons, List.reverse_nil, List.nil_append, List.cons_append, List.append_nil, List.length_cons, List.length_nil, Option.toList_some, Option.toList_none, vx_nl, vx_isob, true_and, and_true, Nat.reduceAdd, Nat.reduceEqDiff, Nat.reduceLeDiff, Nat.zero_add, Nat.add_zero, not_false_eq_true, not_true_eq_false, Nat.reduceLT, Nat.reduceMul, Nat.reduceSub, Nat.zero_le, vx_up_s, false_implies, true_implies, forall_const, implies_true, imp_self, Nat.le_refl, forall_eq, forall_eq_apply_imp_iff, and_imp, exists_and_left, exists_eq_left, Nat.one_ne_zero, eq_self, true_or, or_true, Option.some.injEq, Value.int.injEq, Value.long.injEq, bk_Wk_reckon_0, bk_Wk_reckon_11, bk_Wk_reckon_55, bk_Wk_reckon_111, bk_Wk_reckon_123, bk_Wk_reckon_129, d1, d2, x1]
        refine ⟨vp_in_nI (by omega) (by decide), ?_⟩
        rw [nI_clamp b1, el1]
        refine ⟨_, vw_pushAll hs' _ Y (st s) law (lk s) (vw_ps Y law lk st s) rows gf vb' _ _ hws' ⟨ho.1, ho.2.1, ho.2.2.1⟩ (hinc s) hg hvb', ?_⟩
        rintro _ _ ⟨rfl, gf', hgf', rfl⟩
        obtain ⟨x1, x2, x3, x4⟩ := hW_g hws' gf'
        have d1' : vx_up hs' 20 (.inl (5, gf')) 15 = _ := (vx_up_n hs' _ (by decide)).trans d1
        have eg : ∀ b, b < yB Y → gf' b = nI (vw_ps Y law lk st (s + 1) b) := hgf'
        have em : (vw_go Y law (lk s) (st s) (yB Y) (vw_ps Y law lk st s)).2 = vw_mv Y law lk st s := rfl
        rw [em]
        have e5 : (5 : Int32).toNatClampNeg = 5 := rfl
        have e0 : (0 : Int32).toNatClampNeg = 0 := rfl
        have ei : (nI s + 1) * 5 = nI ((s + 1) * 5) := by rw [nI_1, show (5 : Int32) = nI 5 from rfl, pk_mul]
        have b3 : (s + 1) * 5 < 2 ^ 31 := by omega
        simp only [e_nil, e_iconst, e_bipush, e_sipush, e_lconst, e_ldc_w, e_ldc2_w, e_iload, e_iload_n, e_lload, e_lload_n, e_aload, e_aload_n, e_istore, e_istore_n, e_astore, e_astore_n, e_lstore, e_iinc, e_iadd, e_isub, e_imul, e_iand, e_ior, e_ishl, e_ishr, e_iushr, e_idiv, e_irem, e_ldiv, e_lrem, e_ineg, e_lshl, e_lcmp, e_i2l, e_i2b, e_i2s, e_dup_i, e_dup_r, e_dup2, e_if_eq, e_if_ne, e_if_lt, e_if_ge, e_if_gt, e_if_le, e_icmp_eq, e_icmp_ne, e_icmp_lt, e_icmp_ge, e_icmp_gt, e_icmp_le, e_ifnull_r, e_ifnull_n, e_goto, e_tsw, e_lsw, e_getf, e_puti, e_putz, e_puta, e_new, e_newa, e_anew, e_iald, e_sald, e_iast, e_aald, e_aast, e_alen, e_slen, e_inv, e_acp, e_min, e_max, e_abs, e_ins, e_oinit, e_inx, e_iret, e_lret, e_vret, vx_run_s, List.getElem?_cons_succ, List.getElem?_cons_zero, List.set_cons_succ, List.set_cons_zero, List.mem_cons, List.not_mem_nil, or_false, false_or, if_true, if_false, ite_true, ite_false, ↓reduceIte, reduceCtorEq, List.take_succ_cons, List.take_zero, List.drop_succ_cons, List.drop_zero, List.reverse_cons, List.reverse_nil, List.nil_append, List.cons_append, List.append_nil, List.length_cons, List.length_nil, Option.toList_some, Option.toList_none, vx_nl, vx_isob, true_and, and_true, Nat.reduceAdd, Nat.reduceEqDiff, Nat.reduceLeDiff, Nat.zero_add, Nat.add_zero, not_false_eq_true, not_true_eq_false, Nat.reduceLT, Nat.reduceMul, Nat.reduceSub, Nat.zero_le, vx_up_s, false_implies, true_implies, forall_const, implies_true, imp_self, Nat.le_refl, forall_eq, forall_eq_apply_imp_iff, and_imp, exists_and_left, exists_eq_left, Nat.one_ne_zero, eq_self, true_or, or_true, Option.some.injEq, Value.int.injEq, Value.long.injEq, bk_Wk_reckon_0, bk_Wk_reckon_11, bk_Wk_reckon_55, bk_Wk_reckon_111, bk_Wk_reckon_123, bk_Wk_reckon_129, x1, x2, x3, d1', vx_up_a, vx_bI_0, ei, e5, e0, nI_clamp, b3]
        refine ⟨by decide, nI_pos (by omega), by decide, by omega, ?_⟩
        generalize hhs : vx_up (vx_up (vx_up hs' 20 (.inl (5, gf'))) 18 (.inr (.inr (4, [.ref 19, .ref 20, .ref 21, .int (nI (yB Y)), .int (nI (yI Y)), .int (nI s), .int (nI (vw_lm Y law lk st s) - 1)])))) 19 (.inl (255, va_cpy gf' rows 0 ((s + 1) * 5) 5)) = hs2
        have hv2 : vf 18 21 h hs2 := by
          rw [← hhs]
          exact ((hv'.tr (vf.up (by omega) (by omega))).tr (vf.up (by omega) (by omega))).tr (vf.up (by omega) (by omega))
        have hr2 : ∀ j, j ≤ s + 1 → ∀ b, b < yB Y → va_cpy gf' rows 0 ((s + 1) * 5) 5 (j * 5 + b) = nI (vw_ps Y law lk st j b) := by
          intro j hj b hb
          have hB := ho.1
          by_cases ej : j = s + 1
          · subst ej
            rw [va_cpy_in (by omega), Nat.zero_add]
            exact eg b hb
          · rw [va_cpy_out (by omega)]
            exact hr j (by omega) b hb
        have hws2 : hW hs2 Y (va_cpy gf' rows 0 ((s + 1) * 5) 5) gf' vb' (nI s) (nI (vw_lm Y law lk st s) - 1) := by
          rw [← hhs]
          exact ⟨by simp [vx_up_a], by simp [vx_up_a], by simp [vx_up_a], by simp only [vx_up_a]; exact x4⟩
        refine ⟨fun q => ?_, fun q => ?_⟩
        · have hm : vw_mv Y law lk st s = false := by simpa using q
          have elm : vw_lm Y law lk st (s + 1) = vw_lm Y law lk st s := by
            show (if _ then _ else _) = _
            rw [if_neg q]
          refine ⟨fun q2 => ?_, fun q2 => ?_⟩
          · refine h123 (st s) _ hs2 _ gf' vb' ?_ hv2 eg hr2 hvb'
            rw [nI_s1, elm]
            exact hws2
          · have hts : t ≤ s := by
              rw [nI_ltI (by omega) (by omega)] at q2
              omega
            have hsame : ∀ j, s ≤ j → j < 50 → lk j = lk s ∧ st j = st s := by
              intro j h1 h2
              have f1 := c5 j (by omega) h2
              have f2 := c5 s hts (by omega)
              rw [← hlk, ← hst]
              exact ⟨by show lf j ||| lx = lf s ||| lx; rw [f1.1, f2.1], by show sf j ||| sx = sf s ||| sx; rw [f1.2, f2.2]⟩
            have hst2 := vw_steady hm hsame
            refine ⟨⟨s + 1, va_cpy gf' rows 0 ((s + 1) * 5) 5, gf', vb', by omega, by omega, ?_, fun j hj b hb => ?_⟩, hv2⟩
            · rw [nI_s1, vw_lm_stay n (m := s) (by omega) (fun j h1 h2 => (hst2 j h1 (by omega)).1)]
              exact hws2
            · by_cases hjs : j ≤ s + 1
              · rw [Nat.min_eq_left hjs]
                exact hr2 j hjs b hb
              · rw [Nat.min_eq_right (by omega), hr2 (s + 1) (Nat.le_refl _) b hb]
                have e1 := (hst2 (j - 1) (by omega) (by omega)).2
                rw [show j - 1 + 1 = j by omega] at e1
                rw [e1, (hst2 s (Nat.le_refl _) (by omega)).2]
        · have hm : vw_mv Y law lk st s = true := by simpa using q
          have elm : vw_lm Y law lk st (s + 1) = s + 1 := by
            show (if _ then _ else _) = _
            rw [if_pos hm]
          refine h123 (st s) _ _ _ gf' vb' ?_ (hv2.tr (vf.up (by omega) (by omega))) eg hr2 hvb'
          rw [elm, nI_s1]
          obtain ⟨z1, z2, z3, z4⟩ := hws2
          exact ⟨by simp [vx_up_a], by simp [vx_up_a, z2], by simp [vx_up_a, z3], by simp [vx_up_a, z4]⟩
      refine vx_go hX [55] 9 ?_
      simp only [e_nil, e_iconst, e_bipush, e_sipush, e_lconst, e_ldc_w, e_ldc2_w, e_iload, e_iload_n, e_lload, e_lload_n, e_aload, e_aload_n, e_istore, e_istore_n, e_astore, e_astore_n, e_lstore, e_iinc, e_iadd, e_isub, e_imul, e_iand, e_ior, e_ishl, e_ishr, e_iushr, e_idiv, e_irem, e_ldiv, e_lrem, e_ineg, e_lshl, e_lcmp, e_i2l, e_i2b, e_i2s, e_dup_i, e_dup_r, e_dup2, e_if_eq, e_if_ne, e_if_lt, e_if_ge, e_if_gt, e_if_le, e_icmp_eq, e_icmp_ne, e_icmp_lt, e_icmp_ge, e_icmp_gt, e_icmp_le, e_ifnull_r, e_ifnull_n, e_goto, e_tsw, e_lsw, e_getf, e_puti, e_putz, e_puta, e_new, e_newa, e_anew, e_iald, e_sald, e_iast, e_aald, e_aast, e_alen, e_slen, e_inv, e_acp, e_min, e_max, e_abs, e_ins, e_oinit, e_inx, e_iret, e_lret, e_vret, vx_run_s, List.getElem?_cons_succ, List.getElem?_cons_zero, List.set_cons_succ, List.set_cons_zero, List.mem_cons, List.not_mem_nil, or_false, false_or, if_true, if_false, ite_true, ite_false, ↓reduceIte, reduceCtorEq, List.take_succ_cons, List.take_zero, List.drop_succ_cons, List.drop_zero, List.reverse_cons, List.reverse_nil, List.nil_append, List.cons_append, List.append_nil, List.length_cons, List.length_nil, Option.toList_some, Option.toList_none, vx_nl, vx_isob, true_and, and_true, Nat.reduceAdd, Nat.reduceEqDiff, Nat.reduceLeDiff, Nat.zero_add, Nat.add_zero, not_false_eq_true, not_true_eq_false, Nat.reduceLT, Nat.reduceMul, Nat.reduceSub, Nat.zero_le, vx_up_s, false_implies, true_implies, forall_const, implies_true, imp_self, Nat.le_refl, forall_eq, forall_eq_apply_imp_iff, and_imp, exists_and_left, exists_eq_left, Nat.one_ne_zero, eq_self, true_or, or_true, Option.some.injEq, Value.int.injEq, Value.long.injEq, bk_Wk_reckon_0, bk_Wk_reckon_11, bk_Wk_reckon_55, bk_Wk_reckon_111, bk_Wk_reckon_123, bk_Wk_reckon_129, c1, c3, nI_clamp, b1, eq1]
      refine ⟨fun q => absurd ((nI_lt1 (by omega) (by omega)).mp q) (by omega), fun _ => ⟨fun q => absurd q (nI_ge (b := 50) (by omega) (by omega)), fun _ => ⟨vp_in_nI (by omega) (by decide), fun q => ?_, fun q => ?_⟩⟩⟩
      · subst q
        rcases hcn with hcn | hcn
        · exact absurd hcn hne
        · exact h55 hs vb hws hv hcn
      · simp only [e_nil, e_iconst, e_bipush, e_sipush, e_lconst, e_ldc_w, e_ldc2_w, e_iload, e_iload_n, e_lload, e_lload_n, e_aload, e_aload_n, e_istore, e_istore_n, e_astore, e_astore_n, e_lstore, e_iinc, e_iadd, e_isub, e_imul, e_iand, e_ior, e_ishl, e_ishr, e_iushr, e_idiv, e_irem, e_ldiv, e_lrem, e_ineg, e_lshl, e_lcmp, e_i2l, e_i2b, e_i2s, e_dup_i, e_dup_r, e_dup2, e_if_eq, e_if_ne, e_if_lt, e_if_ge, e_if_gt, e_if_le, e_icmp_eq, e_icmp_ne, e_icmp_lt, e_icmp_ge, e_icmp_gt, e_icmp_le, e_ifnull_r, e_ifnull_n, e_goto, e_tsw, e_lsw, e_getf, e_puti, e_putz, e_puta, e_new, e_newa, e_anew, e_iald, e_sald, e_iast, e_aald, e_aast, e_alen, e_slen, e_inv, e_acp, e_min, e_max, e_abs, e_ins, e_oinit, e_inx, e_iret, e_lret, e_vret, vx_run_s, List.getElem?_cons_succ, List.getElem?_cons_zero, List.set_cons_succ, List.set_cons_zero, List.mem_cons, List.not_mem_nil, or_false, false_or, if_true, if_false, ite_true, ite_false, ↓reduceIte, reduceCtorEq, List.take_succ_cons, List.take_zero, List.drop_succ_cons, List.drop_zero, List.reverse_cons, List.reverse_nil, List.nil_append, List.cons_append, List.append_nil, List.length_cons, List.length_nil, Option.toList_some, Option.toList_none, vx_nl, vx_isob, true_and, and_true, Nat.reduceAdd, Nat.reduceEqDiff, Nat.reduceLeDiff, Nat.zero_add, Nat.add_zero, not_false_eq_true, not_true_eq_false, Nat.reduceLT, Nat.reduceMul, Nat.reduceSub, Nat.zero_le, vx_up_s, false_implies, true_implies, forall_const, implies_true, imp_self, Nat.le_refl, forall_eq, forall_eq_apply_imp_iff, and_imp, exists_and_left, exists_eq_left, Nat.one_ne_zero, eq_self, true_or, or_true, Option.some.injEq, Value.int.injEq, Value.long.injEq, bk_Wk_reckon_0, bk_Wk_reckon_11, bk_Wk_reckon_55, bk_Wk_reckon_111, bk_Wk_reckon_123, bk_Wk_reckon_129, w1]
        refine ⟨_, vw_countVotes hs _ y Y (st s) fg fk fp rows gf vb _ _ _ _ w1 w4 (hd.mv hv) ho, ?_⟩
        rintro _ _ ⟨rfl, vb', hvb', rfl⟩
        simp only [e_nil, e_iconst, e_bipush, e_sipush, e_lconst, e_ldc_w, e_ldc2_w, e_iload, e_iload_n, e_lload, e_lload_n, e_aload, e_aload_n, e_istore, e_istore_n, e_astore, e_astore_n, e_lstore, e_iinc, e_iadd, e_isub, e_imul, e_iand, e_ior, e_ishl, e_ishr, e_iushr, e_idiv, e_irem, e_ldiv, e_lrem, e_ineg, e_lshl, e_lcmp, e_i2l, e_i2b, e_i2s, e_dup_i, e_dup_r, e_dup2, e_if_eq, e_if_ne, e_if_lt, e_if_ge, e_if_gt, e_if_le, e_icmp_eq, e_icmp_ne, e_icmp_lt, e_icmp_ge, e_icmp_gt, e_icmp_le, e_ifnull_r, e_ifnull_n, e_goto, e_tsw, e_lsw, e_getf, e_puti, e_putz, e_puta, e_new, e_newa, e_anew, e_iald, e_sald, e_iast, e_aald, e_aast, e_alen, e_slen, e_inv, e_acp, e_min, e_max, e_abs, e_ins, e_oinit, e_inx, e_iret, e_lret, e_vret, vx_run_s, List.getElem?_cons_succ, List.getElem?_cons_zero, List.set_cons_succ, List.set_cons_zero, List.mem_cons, List.not_mem_nil, or_false, false_or, if_true, if_false, ite_true, ite_false, ↓reduceIte, reduceCtorEq, List.take_succ_cons, List.take_zero, List.drop_succ_cons, List.drop_zero, List.reverse_cons, List.reverse_nil, List.nil_append, List.cons_append, List.append_nil, List.length_cons, List.length_nil, Option.toList_some, Option.toList_none, vx_nl, vx_isob, true_and, and_true, Nat.reduceAdd, Nat.reduceEqDiff, Nat.reduceLeDiff, Nat.zero_add, Nat.add_zero, not_false_eq_true, not_true_eq_false, Nat.reduceLT, Nat.reduceMul, Nat.reduceSub, Nat.zero_le, vx_up_s, false_implies, true_implies, forall_const, implies_true, imp_self, Nat.le_refl, forall_eq, forall_eq_apply_imp_iff, and_imp, exists_and_left, exists_eq_left, Nat.one_ne_zero, eq_self, true_or, or_true, Option.some.injEq, Value.int.injEq, Value.long.injEq, bk_Wk_reckon_0, bk_Wk_reckon_11, bk_Wk_reckon_55, bk_Wk_reckon_111, bk_Wk_reckon_123, bk_Wk_reckon_129]
        refine h55 _ vb' ⟨?_, ?_, ?_, ?_⟩ (hv.tr (vf.up (by omega) (by omega))) hvb'
        · rw [vx_up_n _ _ (by decide)]; exact w1
        · rw [vx_up_n _ _ (by decide)]; exact w2
        · rw [vx_up_n _ _ (by decide)]; exact w3
        · exact vx_up_s _ _ _
  obtain ⟨bo, inn, lr, lm, rows, gf, vb, w1, w2, w3, w4⟩ := hw
  refine vx_go hX [11] 9 ?_
  simp only [e_nil, e_iconst, e_bipush, e_sipush, e_lconst, e_ldc_w, e_ldc2_w, e_iload, e_iload_n, e_lload, e_lload_n, e_aload, e_aload_n, e_istore, e_istore_n, e_astore, e_astore_n, e_lstore, e_iinc, e_iadd, e_isub, e_imul, e_iand, e_ior, e_ishl, e_ishr, e_iushr, e_idiv, e_irem, e_ldiv, e_lrem, e_ineg, e_lshl, e_lcmp, e_i2l, e_i2b, e_i2s, e_dup_i, e_dup_r, e_dup2, e_if_eq, e_if_ne, e_if_lt, e_if_ge, e_if_gt, e_if_le, e_icmp_eq, e_icmp_ne, e_icmp_lt, e_icmp_ge, e_icmp_gt, e_icmp_le, e_ifnull_r, e_ifnull_n, e_goto, e_tsw, e_lsw, e_getf, e_puti, e_putz, e_puta, e_new, e_newa, e_anew, e_iald, e_sald, e_iast, e_aald, e_aast, e_alen, e_slen, e_inv, e_acp, e_min, e_max, e_abs, e_ins, e_oinit, e_inx, e_iret, e_lret, e_vret, vx_run_s, List.getElem?_cons_succ, List.getElem?_cons_zero, List.set_cons_succ, List.set_cons_zero, List.mem_cons, List.not_mem_nil, or_false, false_or, if_true, if_false, ite_true, ite_false, ↓reduceIte, reduceCtorEq, List.take_succ_cons, List.take_zero, List.drop_succ_cons, List.drop_zero, List.reverse_cons, List.reverse_nil, List.nil_append, List.cons_append, List.append_nil, List.length_cons, List.length_nil, Option.toList_some, Option.toList_none, vx_nl, vx_isob, true_and, and_true, Nat.reduceAdd, Nat.reduceEqDiff, Nat.reduceLeDiff, Nat.zero_add, Nat.add_zero, not_false_eq_true, not_true_eq_false, Nat.reduceLT, Nat.reduceMul, Nat.reduceSub, Nat.zero_le, vx_up_s, false_implies, true_implies, forall_const, implies_true, imp_self, Nat.le_refl, forall_eq, forall_eq_apply_imp_iff, and_imp, exists_and_left, exists_eq_left, Nat.one_ne_zero, eq_self, true_or, or_true, Option.some.injEq, Value.int.injEq, Value.long.injEq, bk_Wk_reckon_0, bk_Wk_reckon_11, bk_Wk_reckon_55, bk_Wk_reckon_111, bk_Wk_reckon_123, bk_Wk_reckon_129, w1]
  refine ⟨_, vw_begin h _ y Y fg fk fp rows gf vb bo inn lr lm w1 w2 w3 w4 hd, ?_⟩
  rintro _ hs ⟨rfl, rows', gf', hgr, hws, hv⟩
  simp only [e_nil, e_iconst, e_bipush, e_sipush, e_lconst, e_ldc_w, e_ldc2_w, e_iload, e_iload_n, e_lload, e_lload_n, e_aload, e_aload_n, e_istore, e_istore_n, e_astore, e_astore_n, e_lstore, e_iinc, e_iadd, e_isub, e_imul, e_iand, e_ior, e_ishl, e_ishr, e_iushr, e_idiv, e_irem, e_ldiv, e_lrem, e_ineg, e_lshl, e_lcmp, e_i2l, e_i2b, e_i2s, e_dup_i, e_dup_r, e_dup2, e_if_eq, e_if_ne, e_if_lt, e_if_ge, e_if_gt, e_if_le, e_icmp_eq, e_icmp_ne, e_icmp_lt, e_icmp_ge, e_icmp_gt, e_icmp_le, e_ifnull_r, e_ifnull_n, e_goto, e_tsw, e_lsw, e_getf, e_puti, e_putz, e_puta, e_new, e_newa, e_anew, e_iald, e_sald, e_iast, e_aald, e_aast, e_alen, e_slen, e_inv, e_acp, e_min, e_max, e_abs, e_ins, e_oinit, e_inx, e_iret, e_lret, e_vret, vx_run_s, List.getElem?_cons_succ, List.getElem?_cons_zero, List.set_cons_succ, List.set_cons_zero, List.mem_cons, List.not_mem_nil, or_false, false_or, if_true, if_false, ite_true, ite_false, ↓reduceIte, reduceCtorEq, List.take_succ_cons, List.take_zero, List.drop_succ_cons, List.drop_zero, List.reverse_cons, List.reverse_nil, List.nil_append, List.cons_append, List.append_nil, List.length_cons, List.length_nil, Option.toList_some, Option.toList_none, vx_nl, vx_isob, true_and, and_true, Nat.reduceAdd, Nat.reduceEqDiff, Nat.reduceLeDiff, Nat.zero_add, Nat.add_zero, not_false_eq_true, not_true_eq_false, Nat.reduceLT, Nat.reduceMul, Nat.reduceSub, Nat.zero_le, vx_up_s, false_implies, true_implies, forall_const, implies_true, imp_self, Nat.le_refl, forall_eq, forall_eq_apply_imp_iff, and_imp, exists_and_left, exists_eq_left, Nat.one_ne_zero, eq_self, true_or, or_true, Option.some.injEq, Value.int.injEq, Value.long.injEq, bk_Wk_reckon_0, bk_Wk_reckon_11, bk_Wk_reckon_55, bk_Wk_reckon_111, bk_Wk_reckon_123, bk_Wk_reckon_129]
  have e01 : nI 0 - 1 = (-1 : Int32) := by decide
  have hws0 : hW hs Y rows' gf' vb (nI 0 - 1) (nI (vw_lm Y law lk st 0) - 1) := by
    show hW hs Y rows' gf' vb (nI 0 - 1) (nI 0 - 1)
    rw [e01]
    exact hws
  refine loop n 0 (-1) none none hs rows' gf' vb (by omega) hws0 hv (fun b hb => ?_) (fun j hj b hb => ?_) (Or.inl rfl)
  · rw [(hgr b (by have := ho.1; omega)).1, hd.2.2.2.2.2.1 b hb]; rfl
  · have e : j = 0 := by omega
    subst e
    rw [Nat.zero_mul, Nat.zero_add, (hgr b (by have := ho.1; omega)).2, hd.2.2.2.2.2.1 b hb]; rfl
end
