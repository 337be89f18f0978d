section
-- ===== PART A: goes FIRST, ahead of the names: the tables' words, and 'selects' of the private methods out of them =====
/-- a private method of a class that the tables say can be made, by its rows of tables_1 -/
def lw_okq (q : MethodName × Nat) : Prop := (q.1.cls ≠ "java/lang/invoke/MethodHandle" ∧ q.1.cls ≠ "java/lang/invoke/VarHandle") ∧ Cond.instantiable q.1.cls q.2 ∈ tables_1 ∧ Cond.privateMethod q.1 ∈ tables_1 ∧ Cond.instanceMethod q.1 ∈ tables_1
theorem lw_p0 : lw_okq (⟨"KnotRing", "changeLength", "(I)I"⟩, 7) := ⟨⟨by decide +kernel, by decide +kernel⟩, List.mem_of_getElem? (i := 14) (by decide +kernel), List.mem_of_getElem? (i := 360) (by decide +kernel), List.mem_of_getElem? (i := 361) (by decide +kernel)⟩
theorem lw_p1 : lw_okq (⟨"KnotRing", "isCell", "(I)Z"⟩, 7) := ⟨⟨by decide +kernel, by decide +kernel⟩, List.mem_of_getElem? (i := 14) (by decide +kernel), List.mem_of_getElem? (i := 371) (by decide +kernel), List.mem_of_getElem? (i := 372) (by decide +kernel)⟩
theorem lw_p2 : lw_okq (⟨"KnotRing", "isCar", "(I)Z"⟩, 7) := ⟨⟨by decide +kernel, by decide +kernel⟩, List.mem_of_getElem? (i := 14) (by decide +kernel), List.mem_of_getElem? (i := 398) (by decide +kernel), List.mem_of_getElem? (i := 399) (by decide +kernel)⟩
theorem lw_p3 : lw_okq (⟨"KnotRing$Ring", "cellsOn", "(II)I"⟩, 15) := ⟨⟨by decide +kernel, by decide +kernel⟩, List.mem_of_getElem? (i := 167) (by decide +kernel), List.mem_of_getElem? (i := 410) (by decide +kernel), List.mem_of_getElem? (i := 411) (by decide +kernel)⟩
theorem lw_p4 : lw_okq (⟨"KnotRing$Reader", "newLabel", "()I"⟩, 16) := ⟨⟨by decide +kernel, by decide +kernel⟩, List.mem_of_getElem? (i := 22) (by decide +kernel), List.mem_of_getElem? (i := 433) (by decide +kernel), List.mem_of_getElem? (i := 434) (by decide +kernel)⟩
theorem lw_p5 : lw_okq (⟨"KnotRing$Reader", "readTest", "(III)Z"⟩, 16) := ⟨⟨by decide +kernel, by decide +kernel⟩, List.mem_of_getElem? (i := 22) (by decide +kernel), List.mem_of_getElem? (i := 438) (by decide +kernel), List.mem_of_getElem? (i := 439) (by decide +kernel)⟩
theorem lw_p6 : lw_okq (⟨"KnotRing$Reader", "readCase", "(III)Z"⟩, 16) := ⟨⟨by decide +kernel, by decide +kernel⟩, List.mem_of_getElem? (i := 22) (by decide +kernel), List.mem_of_getElem? (i := 442) (by decide +kernel), List.mem_of_getElem? (i := 443) (by decide +kernel)⟩
theorem lw_p7 : lw_okq (⟨"KnotRing$Reader", "take", "(I)Z"⟩, 16) := ⟨⟨by decide +kernel, by decide +kernel⟩, List.mem_of_getElem? (i := 22) (by decide +kernel), List.mem_of_getElem? (i := 446) (by decide +kernel), List.mem_of_getElem? (i := 447) (by decide +kernel)⟩
theorem lw_p8 : lw_okq (⟨"KnotRing$Reader", "next", "()I"⟩, 16) := ⟨⟨by decide +kernel, by decide +kernel⟩, List.mem_of_getElem? (i := 22) (by decide +kernel), List.mem_of_getElem? (i := 450) (by decide +kernel), List.mem_of_getElem? (i := 451) (by decide +kernel)⟩
theorem lw_p9 : lw_okq (⟨"KnotRing$Reader", "readBare", "(III)Z"⟩, 16) := ⟨⟨by decide +kernel, by decide +kernel⟩, List.mem_of_getElem? (i := 22) (by decide +kernel), List.mem_of_getElem? (i := 454) (by decide +kernel), List.mem_of_getElem? (i := 455) (by decide +kernel)⟩
theorem lw_p10 : lw_okq (⟨"KnotRing$Reader", "addClaim", "(III)V"⟩, 16) := ⟨⟨by decide +kernel, by decide +kernel⟩, List.mem_of_getElem? (i := 22) (by decide +kernel), List.mem_of_getElem? (i := 458) (by decide +kernel), List.mem_of_getElem? (i := 459) (by decide +kernel)⟩
theorem lw_p11 : lw_okq (⟨"KnotRing$Reader", "readComparison", "()Z"⟩, 16) := ⟨⟨by decide +kernel, by decide +kernel⟩, List.mem_of_getElem? (i := 22) (by decide +kernel), List.mem_of_getElem? (i := 462) (by decide +kernel), List.mem_of_getElem? (i := 463) (by decide +kernel)⟩
theorem lw_p12 : lw_okq (⟨"KnotRing$Reader", "readNumber", "()I"⟩, 16) := ⟨⟨by decide +kernel, by decide +kernel⟩, List.mem_of_getElem? (i := 22) (by decide +kernel), List.mem_of_getElem? (i := 469) (by decide +kernel), List.mem_of_getElem? (i := 470) (by decide +kernel)⟩
theorem lw_p13 : lw_okq (⟨"KnotRing$Reader", "join", "(II)V"⟩, 16) := ⟨⟨by decide +kernel, by decide +kernel⟩, List.mem_of_getElem? (i := 22) (by decide +kernel), List.mem_of_getElem? (i := 473) (by decide +kernel), List.mem_of_getElem? (i := 474) (by decide +kernel)⟩
theorem lw_p14 : lw_okq (⟨"KnotRing$Reader", "fix", "(II)V"⟩, 16) := ⟨⟨by decide +kernel, by decide +kernel⟩, List.mem_of_getElem? (i := 22) (by decide +kernel), List.mem_of_getElem? (i := 477) (by decide +kernel), List.mem_of_getElem? (i := 478) (by decide +kernel)⟩
theorem lw_p15 : lw_okq (⟨"KnotRing$Reader", "readAct", "()Z"⟩, 16) := ⟨⟨by decide +kernel, by decide +kernel⟩, List.mem_of_getElem? (i := 22) (by decide +kernel), List.mem_of_getElem? (i := 481) (by decide +kernel), List.mem_of_getElem? (i := 482) (by decide +kernel)⟩
def lw_privs_1 : List (MethodName × Nat) := [(⟨"KnotRing", "changeLength", "(I)I"⟩, 7), (⟨"KnotRing", "isCell", "(I)Z"⟩, 7), (⟨"KnotRing", "isCar", "(I)Z"⟩, 7), (⟨"KnotRing$Ring", "cellsOn", "(II)I"⟩, 15), (⟨"KnotRing$Reader", "newLabel", "()I"⟩, 16), (⟨"KnotRing$Reader", "readTest", "(III)Z"⟩, 16), (⟨"KnotRing$Reader", "readCase", "(III)Z"⟩, 16), (⟨"KnotRing$Reader", "take", "(I)Z"⟩, 16), (⟨"KnotRing$Reader", "next", "()I"⟩, 16), (⟨"KnotRing$Reader", "readBare", "(III)Z"⟩, 16), (⟨"KnotRing$Reader", "addClaim", "(III)V"⟩, 16), (⟨"KnotRing$Reader", "readComparison", "()Z"⟩, 16), (⟨"KnotRing$Reader", "readNumber", "()I"⟩, 16), (⟨"KnotRing$Reader", "join", "(II)V"⟩, 16), (⟨"KnotRing$Reader", "fix", "(II)V"⟩, 16), (⟨"KnotRing$Reader", "readAct", "()Z"⟩, 16)]
theorem lw_r1 : ∀ q ∈ lw_privs_1, lw_okq q := List.forall_mem_cons.mpr ⟨lw_p0, List.forall_mem_cons.mpr ⟨lw_p1, List.forall_mem_cons.mpr ⟨lw_p2, List.forall_mem_cons.mpr ⟨lw_p3, List.forall_mem_cons.mpr ⟨lw_p4, List.forall_mem_cons.mpr ⟨lw_p5, List.forall_mem_cons.mpr ⟨lw_p6, List.forall_mem_cons.mpr ⟨lw_p7, List.forall_mem_cons.mpr ⟨lw_p8, List.forall_mem_cons.mpr ⟨lw_p9, List.forall_mem_cons.mpr ⟨lw_p10, List.forall_mem_cons.mpr ⟨lw_p11, List.forall_mem_cons.mpr ⟨lw_p12, List.forall_mem_cons.mpr ⟨lw_p13, List.forall_mem_cons.mpr ⟨lw_p14, List.forall_mem_cons.mpr ⟨lw_p15, fun _ h => absurd h List.not_mem_nil⟩⟩⟩⟩⟩⟩⟩⟩⟩⟩⟩⟩⟩⟩⟩⟩
theorem lw_p16 : lw_okq (⟨"KnotRing$Reader", "endClause", "(II)V"⟩, 16) := ⟨⟨by decide +kernel, by decide +kernel⟩, List.mem_of_getElem? (i := 22) (by decide +kernel), List.mem_of_getElem? (i := 485) (by decide +kernel), List.mem_of_getElem? (i := 486) (by decide +kernel)⟩
theorem lw_p17 : lw_okq (⟨"KnotRing$Reader", "followLabels", "()V"⟩, 16) := ⟨⟨by decide +kernel, by decide +kernel⟩, List.mem_of_getElem? (i := 22) (by decide +kernel), List.mem_of_getElem? (i := 489) (by decide +kernel), List.mem_of_getElem? (i := 490) (by decide +kernel)⟩
theorem lw_p18 : lw_okq (⟨"KnotRing$Reader", "follow", "(I)I"⟩, 16) := ⟨⟨by decide +kernel, by decide +kernel⟩, List.mem_of_getElem? (i := 22) (by decide +kernel), List.mem_of_getElem? (i := 493) (by decide +kernel), List.mem_of_getElem? (i := 494) (by decide +kernel)⟩
theorem lw_p19 : lw_okq (⟨"KnotRing$Ring", "changeLanes", "()Z"⟩, 15) := ⟨⟨by decide +kernel, by decide +kernel⟩, List.mem_of_getElem? (i := 167) (by decide +kernel), List.mem_of_getElem? (i := 573) (by decide +kernel), List.mem_of_getElem? (i := 574) (by decide +kernel)⟩
theorem lw_p20 : lw_okq (⟨"KnotRing$Ring", "hasRoomBeside", "(LKnotRing$Car;)Z"⟩, 15) := ⟨⟨by decide +kernel, by decide +kernel⟩, List.mem_of_getElem? (i := 167) (by decide +kernel), List.mem_of_getElem? (i := 577) (by decide +kernel), List.mem_of_getElem? (i := 578) (by decide +kernel)⟩
theorem lw_p21 : lw_okq (⟨"KnotRing$Ring", "limitAt", "(I)I"⟩, 15) := ⟨⟨by decide +kernel, by decide +kernel⟩, List.mem_of_getElem? (i := 167) (by decide +kernel), List.mem_of_getElem? (i := 581) (by decide +kernel), List.mem_of_getElem? (i := 582) (by decide +kernel)⟩
theorem lw_p22 : lw_okq (⟨"KnotRing$Ring", "goOn", "(LKnotRing$Car;)V"⟩, 15) := ⟨⟨by decide +kernel, by decide +kernel⟩, List.mem_of_getElem? (i := 167) (by decide +kernel), List.mem_of_getElem? (i := 591) (by decide +kernel), List.mem_of_getElem? (i := 592) (by decide +kernel)⟩
theorem lw_p23 : lw_okq (⟨"KnotRing$Ring", "markFirst", "()V"⟩, 15) := ⟨⟨by decide +kernel, by decide +kernel⟩, List.mem_of_getElem? (i := 167) (by decide +kernel), List.mem_of_getElem? (i := 595) (by decide +kernel), List.mem_of_getElem? (i := 596) (by decide +kernel)⟩
theorem lw_p24 : lw_okq (⟨"KnotRing$Knots", "isHead", "(LKnotRing$Ring;I)Z"⟩, 4) := ⟨⟨by decide +kernel, by decide +kernel⟩, List.mem_of_getElem? (i := 93) (by decide +kernel), List.mem_of_getElem? (i := 612) (by decide +kernel), List.mem_of_getElem? (i := 613) (by decide +kernel)⟩
theorem lw_p25 : lw_okq (⟨"KnotRing$Knots", "isLeastOfSlowLane", "(LKnotRing$Ring;I)Z"⟩, 4) := ⟨⟨by decide +kernel, by decide +kernel⟩, List.mem_of_getElem? (i := 93) (by decide +kernel), List.mem_of_getElem? (i := 616) (by decide +kernel), List.mem_of_getElem? (i := 617) (by decide +kernel)⟩
theorem lw_p26 : lw_okq (⟨"KnotRing$Knots", "sizeBehind", "(LKnotRing$Ring;I)I"⟩, 4) := ⟨⟨by decide +kernel, by decide +kernel⟩, List.mem_of_getElem? (i := 93) (by decide +kernel), List.mem_of_getElem? (i := 620) (by decide +kernel), List.mem_of_getElem? (i := 621) (by decide +kernel)⟩
theorem lw_p27 : lw_okq (⟨"KnotRing$Knots", "insert", "(LKnotRing$Ring;II)V"⟩, 4) := ⟨⟨by decide +kernel, by decide +kernel⟩, List.mem_of_getElem? (i := 93) (by decide +kernel), List.mem_of_getElem? (i := 624) (by decide +kernel), List.mem_of_getElem? (i := 625) (by decide +kernel)⟩
theorem lw_p28 : lw_okq (⟨"KnotRing", "foretell", "(IZI)V"⟩, 7) := ⟨⟨by decide +kernel, by decide +kernel⟩, List.mem_of_getElem? (i := 14) (by decide +kernel), List.mem_of_getElem? (i := 650) (by decide +kernel), List.mem_of_getElem? (i := 651) (by decide +kernel)⟩
theorem lw_p29 : lw_okq (⟨"KnotRing$Ring", "takeBoardsAndLoops", "(LKnotRing$Ring;)V"⟩, 15) := ⟨⟨by decide +kernel, by decide +kernel⟩, List.mem_of_getElem? (i := 167) (by decide +kernel), List.mem_of_getElem? (i := 663) (by decide +kernel), List.mem_of_getElem? (i := 664) (by decide +kernel)⟩
theorem lw_p30 : lw_okq (⟨"KnotRing", "isCalmWith", "(III)Z"⟩, 7) := ⟨⟨by decide +kernel, by decide +kernel⟩, List.mem_of_getElem? (i := 14) (by decide +kernel), List.mem_of_getElem? (i := 685) (by decide +kernel), List.mem_of_getElem? (i := 686) (by decide +kernel)⟩
theorem lw_p31 : lw_okq (⟨"KnotRing$Car", "remembersLike", "(LKnotRing$Car;)Z"⟩, 16) := ⟨⟨by decide +kernel, by decide +kernel⟩, List.mem_of_getElem? (i := 176) (by decide +kernel), List.mem_of_getElem? (i := 702) (by decide +kernel), List.mem_of_getElem? (i := 703) (by decide +kernel)⟩
def lw_privs_2 : List (MethodName × Nat) := [(⟨"KnotRing$Reader", "endClause", "(II)V"⟩, 16), (⟨"KnotRing$Reader", "followLabels", "()V"⟩, 16), (⟨"KnotRing$Reader", "follow", "(I)I"⟩, 16), (⟨"KnotRing$Ring", "changeLanes", "()Z"⟩, 15), (⟨"KnotRing$Ring", "hasRoomBeside", "(LKnotRing$Car;)Z"⟩, 15), (⟨"KnotRing$Ring", "limitAt", "(I)I"⟩, 15), (⟨"KnotRing$Ring", "goOn", "(LKnotRing$Car;)V"⟩, 15), (⟨"KnotRing$Ring", "markFirst", "()V"⟩, 15), (⟨"KnotRing$Knots", "isHead", "(LKnotRing$Ring;I)Z"⟩, 4), (⟨"KnotRing$Knots", "isLeastOfSlowLane", "(LKnotRing$Ring;I)Z"⟩, 4), (⟨"KnotRing$Knots", "sizeBehind", "(LKnotRing$Ring;I)I"⟩, 4), (⟨"KnotRing$Knots", "insert", "(LKnotRing$Ring;II)V"⟩, 4), (⟨"KnotRing", "foretell", "(IZI)V"⟩, 7), (⟨"KnotRing$Ring", "takeBoardsAndLoops", "(LKnotRing$Ring;)V"⟩, 15), (⟨"KnotRing", "isCalmWith", "(III)Z"⟩, 7), (⟨"KnotRing$Car", "remembersLike", "(LKnotRing$Car;)Z"⟩, 16)]
theorem lw_r2 : ∀ q ∈ lw_privs_2, lw_okq q := List.forall_mem_cons.mpr ⟨lw_p16, List.forall_mem_cons.mpr ⟨lw_p17, List.forall_mem_cons.mpr ⟨lw_p18, List.forall_mem_cons.mpr ⟨lw_p19, List.forall_mem_cons.mpr ⟨lw_p20, List.forall_mem_cons.mpr ⟨lw_p21, List.forall_mem_cons.mpr ⟨lw_p22, List.forall_mem_cons.mpr ⟨lw_p23, List.forall_mem_cons.mpr ⟨lw_p24, List.forall_mem_cons.mpr ⟨lw_p25, List.forall_mem_cons.mpr ⟨lw_p26, List.forall_mem_cons.mpr ⟨lw_p27, List.forall_mem_cons.mpr ⟨lw_p28, List.forall_mem_cons.mpr ⟨lw_p29, List.forall_mem_cons.mpr ⟨lw_p30, List.forall_mem_cons.mpr ⟨lw_p31, fun _ h => absurd h List.not_mem_nil⟩⟩⟩⟩⟩⟩⟩⟩⟩⟩⟩⟩⟩⟩⟩⟩
theorem lw_p32 : lw_okq (⟨"KnotRingModel", "carAt", "(III)I"⟩, 21) := ⟨⟨by decide +kernel, by decide +kernel⟩, List.mem_of_getElem? (i := 766) (by decide +kernel), List.mem_of_getElem? (i := 850) (by decide +kernel), List.mem_of_getElem? (i := 851) (by decide +kernel)⟩
theorem lw_p33 : lw_okq (⟨"KnotRingModel", "of", "(III)I"⟩, 21) := ⟨⟨by decide +kernel, by decide +kernel⟩, List.mem_of_getElem? (i := 766) (by decide +kernel), List.mem_of_getElem? (i := 854) (by decide +kernel), List.mem_of_getElem? (i := 855) (by decide +kernel)⟩
theorem lw_p34 : lw_okq (⟨"KnotRingModel", "put", "(III)V"⟩, 21) := ⟨⟨by decide +kernel, by decide +kernel⟩, List.mem_of_getElem? (i := 766) (by decide +kernel), List.mem_of_getElem? (i := 858) (by decide +kernel), List.mem_of_getElem? (i := 859) (by decide +kernel)⟩
theorem lw_p35 : lw_okq (⟨"KnotRingModel", "isCar", "(I)Z"⟩, 21) := ⟨⟨by decide +kernel, by decide +kernel⟩, List.mem_of_getElem? (i := 766) (by decide +kernel), List.mem_of_getElem? (i := 873) (by decide +kernel), List.mem_of_getElem? (i := 874) (by decide +kernel)⟩
theorem lw_p36 : lw_okq (⟨"KnotRingModel", "gap", "(II)I"⟩, 21) := ⟨⟨by decide +kernel, by decide +kernel⟩, List.mem_of_getElem? (i := 766) (by decide +kernel), List.mem_of_getElem? (i := 883) (by decide +kernel), List.mem_of_getElem? (i := 884) (by decide +kernel)⟩
theorem lw_p37 : lw_okq (⟨"KnotRingModel", "ahead", "(II)I"⟩, 21) := ⟨⟨by decide +kernel, by decide +kernel⟩, List.mem_of_getElem? (i := 766) (by decide +kernel), List.mem_of_getElem? (i := 887) (by decide +kernel), List.mem_of_getElem? (i := 888) (by decide +kernel)⟩
theorem lw_p38 : lw_okq (⟨"KnotRingModel", "on", "(III)I"⟩, 21) := ⟨⟨by decide +kernel, by decide +kernel⟩, List.mem_of_getElem? (i := 766) (by decide +kernel), List.mem_of_getElem? (i := 891) (by decide +kernel), List.mem_of_getElem? (i := 892) (by decide +kernel)⟩
theorem lw_p39 : lw_okq (⟨"KnotRingModel", "other", "(II)I"⟩, 21) := ⟨⟨by decide +kernel, by decide +kernel⟩, List.mem_of_getElem? (i := 766) (by decide +kernel), List.mem_of_getElem? (i := 895) (by decide +kernel), List.mem_of_getElem? (i := 896) (by decide +kernel)⟩
theorem lw_p40 : lw_okq (⟨"KnotRingModel", "clauses", "()I"⟩, 21) := ⟨⟨by decide +kernel, by decide +kernel⟩, List.mem_of_getElem? (i := 766) (by decide +kernel), List.mem_of_getElem? (i := 911) (by decide +kernel), List.mem_of_getElem? (i := 912) (by decide +kernel)⟩
theorem lw_p41 : lw_okq (⟨"KnotRingModel", "test", "()Z"⟩, 21) := ⟨⟨by decide +kernel, by decide +kernel⟩, List.mem_of_getElem? (i := 766) (by decide +kernel), List.mem_of_getElem? (i := 915) (by decide +kernel), List.mem_of_getElem? (i := 916) (by decide +kernel)⟩
theorem lw_p42 : lw_okq (⟨"KnotRingModel", "look", "()I"⟩, 21) := ⟨⟨by decide +kernel, by decide +kernel⟩, List.mem_of_getElem? (i := 766) (by decide +kernel), List.mem_of_getElem? (i := 919) (by decide +kernel), List.mem_of_getElem? (i := 920) (by decide +kernel)⟩
theorem lw_p43 : lw_okq (⟨"KnotRingModel", "claim", "()Z"⟩, 21) := ⟨⟨by decide +kernel, by decide +kernel⟩, List.mem_of_getElem? (i := 766) (by decide +kernel), List.mem_of_getElem? (i := 923) (by decide +kernel), List.mem_of_getElem? (i := 924) (by decide +kernel)⟩
theorem lw_p44 : lw_okq (⟨"KnotRingModel", "isDigit", "(I)Z"⟩, 21) := ⟨⟨by decide +kernel, by decide +kernel⟩, List.mem_of_getElem? (i := 766) (by decide +kernel), List.mem_of_getElem? (i := 927) (by decide +kernel), List.mem_of_getElem? (i := 928) (by decide +kernel)⟩
theorem lw_p45 : lw_okq (⟨"KnotRingModel", "act", "()Z"⟩, 21) := ⟨⟨by decide +kernel, by decide +kernel⟩, List.mem_of_getElem? (i := 766) (by decide +kernel), List.mem_of_getElem? (i := 933) (by decide +kernel), List.mem_of_getElem? (i := 934) (by decide +kernel)⟩
theorem lw_p46 : lw_okq (⟨"KnotRingModel", "slower", "(II)I"⟩, 21) := ⟨⟨by decide +kernel, by decide +kernel⟩, List.mem_of_getElem? (i := 766) (by decide +kernel), List.mem_of_getElem? (i := 941) (by decide +kernel), List.mem_of_getElem? (i := 942) (by decide +kernel)⟩
theorem lw_p47 : lw_okq (⟨"KnotRingModel", "clause", "(IIIIII)I"⟩, 21) := ⟨⟨by decide +kernel, by decide +kernel⟩, List.mem_of_getElem? (i := 766) (by decide +kernel), List.mem_of_getElem? (i := 945) (by decide +kernel), List.mem_of_getElem? (i := 946) (by decide +kernel)⟩
def lw_privs_3 : List (MethodName × Nat) := [(⟨"KnotRingModel", "carAt", "(III)I"⟩, 21), (⟨"KnotRingModel", "of", "(III)I"⟩, 21), (⟨"KnotRingModel", "put", "(III)V"⟩, 21), (⟨"KnotRingModel", "isCar", "(I)Z"⟩, 21), (⟨"KnotRingModel", "gap", "(II)I"⟩, 21), (⟨"KnotRingModel", "ahead", "(II)I"⟩, 21), (⟨"KnotRingModel", "on", "(III)I"⟩, 21), (⟨"KnotRingModel", "other", "(II)I"⟩, 21), (⟨"KnotRingModel", "clauses", "()I"⟩, 21), (⟨"KnotRingModel", "test", "()Z"⟩, 21), (⟨"KnotRingModel", "look", "()I"⟩, 21), (⟨"KnotRingModel", "claim", "()Z"⟩, 21), (⟨"KnotRingModel", "isDigit", "(I)Z"⟩, 21), (⟨"KnotRingModel", "act", "()Z"⟩, 21), (⟨"KnotRingModel", "slower", "(II)I"⟩, 21), (⟨"KnotRingModel", "clause", "(IIIIII)I"⟩, 21)]
theorem lw_r3 : ∀ q ∈ lw_privs_3, lw_okq q := List.forall_mem_cons.mpr ⟨lw_p32, List.forall_mem_cons.mpr ⟨lw_p33, List.forall_mem_cons.mpr ⟨lw_p34, List.forall_mem_cons.mpr ⟨lw_p35, List.forall_mem_cons.mpr ⟨lw_p36, List.forall_mem_cons.mpr ⟨lw_p37, List.forall_mem_cons.mpr ⟨lw_p38, List.forall_mem_cons.mpr ⟨lw_p39, List.forall_mem_cons.mpr ⟨lw_p40, List.forall_mem_cons.mpr ⟨lw_p41, List.forall_mem_cons.mpr ⟨lw_p42, List.forall_mem_cons.mpr ⟨lw_p43, List.forall_mem_cons.mpr ⟨lw_p44, List.forall_mem_cons.mpr ⟨lw_p45, List.forall_mem_cons.mpr ⟨lw_p46, List.forall_mem_cons.mpr ⟨lw_p47, fun _ h => absurd h List.not_mem_nil⟩⟩⟩⟩⟩⟩⟩⟩⟩⟩⟩⟩⟩⟩⟩⟩
theorem lw_p48 : lw_okq (⟨"KnotRingModel", "testHolds", "(IIII)Z"⟩, 21) := ⟨⟨by decide +kernel, by decide +kernel⟩, List.mem_of_getElem? (i := 766) (by decide +kernel), List.mem_of_getElem? (i := 949) (by decide +kernel), List.mem_of_getElem? (i := 950) (by decide +kernel)⟩
theorem lw_p49 : lw_okq (⟨"KnotRingModel", "sign", "()I"⟩, 21) := ⟨⟨by decide +kernel, by decide +kernel⟩, List.mem_of_getElem? (i := 766) (by decide +kernel), List.mem_of_getElem? (i := 953) (by decide +kernel), List.mem_of_getElem? (i := 954) (by decide +kernel)⟩
theorem lw_p50 : lw_okq (⟨"KnotRingModel", "claimHolds", "(IIII)Z"⟩, 21) := ⟨⟨by decide +kernel, by decide +kernel⟩, List.mem_of_getElem? (i := 766) (by decide +kernel), List.mem_of_getElem? (i := 957) (by decide +kernel), List.mem_of_getElem? (i := 958) (by decide +kernel)⟩
theorem lw_p51 : lw_okq (⟨"KnotRingModel", "take", "()I"⟩, 21) := ⟨⟨by decide +kernel, by decide +kernel⟩, List.mem_of_getElem? (i := 766) (by decide +kernel), List.mem_of_getElem? (i := 961) (by decide +kernel), List.mem_of_getElem? (i := 962) (by decide +kernel)⟩
theorem lw_p52 : lw_okq (⟨"KnotRingModel", "digits", "()I"⟩, 21) := ⟨⟨by decide +kernel, by decide +kernel⟩, List.mem_of_getElem? (i := 766) (by decide +kernel), List.mem_of_getElem? (i := 965) (by decide +kernel), List.mem_of_getElem? (i := 966) (by decide +kernel)⟩
theorem lw_p53 : lw_okq (⟨"KnotRingModel", "tick", "(I)V"⟩, 21) := ⟨⟨by decide +kernel, by decide +kernel⟩, List.mem_of_getElem? (i := 766) (by decide +kernel), List.mem_of_getElem? (i := 991) (by decide +kernel), List.mem_of_getElem? (i := 992) (by decide +kernel)⟩
theorem lw_p54 : lw_okq (⟨"KnotRingModel", "note", "(II)V"⟩, 21) := ⟨⟨by decide +kernel, by decide +kernel⟩, List.mem_of_getElem? (i := 766) (by decide +kernel), List.mem_of_getElem? (i := 995) (by decide +kernel), List.mem_of_getElem? (i := 996) (by decide +kernel)⟩
theorem lw_p55 : lw_okq (⟨"KnotRingModel", "decide", "(II)V"⟩, 21) := ⟨⟨by decide +kernel, by decide +kernel⟩, List.mem_of_getElem? (i := 766) (by decide +kernel), List.mem_of_getElem? (i := 999) (by decide +kernel), List.mem_of_getElem? (i := 1000) (by decide +kernel)⟩
theorem lw_p56 : lw_okq (⟨"KnotRingModel", "hasRoom", "(II)Z"⟩, 21) := ⟨⟨by decide +kernel, by decide +kernel⟩, List.mem_of_getElem? (i := 766) (by decide +kernel), List.mem_of_getElem? (i := 1003) (by decide +kernel), List.mem_of_getElem? (i := 1004) (by decide +kernel)⟩
theorem lw_p57 : lw_okq (⟨"KnotRingModel", "limited", "(II)I"⟩, 21) := ⟨⟨by decide +kernel, by decide +kernel⟩, List.mem_of_getElem? (i := 766) (by decide +kernel), List.mem_of_getElem? (i := 1007) (by decide +kernel), List.mem_of_getElem? (i := 1008) (by decide +kernel)⟩
theorem lw_p58 : lw_okq (⟨"KnotRingModel", "goOn", "(II)V"⟩, 21) := ⟨⟨by decide +kernel, by decide +kernel⟩, List.mem_of_getElem? (i := 766) (by decide +kernel), List.mem_of_getElem? (i := 1011) (by decide +kernel), List.mem_of_getElem? (i := 1012) (by decide +kernel)⟩
theorem lw_p59 : lw_okq (⟨"KnotRingModel", "noteFirst", "(I)V"⟩, 21) := ⟨⟨by decide +kernel, by decide +kernel⟩, List.mem_of_getElem? (i := 766) (by decide +kernel), List.mem_of_getElem? (i := 1015) (by decide +kernel), List.mem_of_getElem? (i := 1016) (by decide +kernel)⟩
theorem lw_p60 : lw_okq (⟨"KnotRingModel", "isEven", "(I)Z"⟩, 21) := ⟨⟨by decide +kernel, by decide +kernel⟩, List.mem_of_getElem? (i := 766) (by decide +kernel), List.mem_of_getElem? (i := 1019) (by decide +kernel), List.mem_of_getElem? (i := 1020) (by decide +kernel)⟩
theorem lw_p61 : lw_okq (⟨"KnotRingModel", "findKnots", "(I)V"⟩, 21) := ⟨⟨by decide +kernel, by decide +kernel⟩, List.mem_of_getElem? (i := 766) (by decide +kernel), List.mem_of_getElem? (i := 1027) (by decide +kernel), List.mem_of_getElem? (i := 1028) (by decide +kernel)⟩
theorem lw_p62 : lw_okq (⟨"KnotRingModel", "isSlow", "(II)Z"⟩, 21) := ⟨⟨by decide +kernel, by decide +kernel⟩, List.mem_of_getElem? (i := 766) (by decide +kernel), List.mem_of_getElem? (i := 1031) (by decide +kernel), List.mem_of_getElem? (i := 1032) (by decide +kernel)⟩
theorem lw_p63 : lw_okq (⟨"KnotRingModel", "addKnot", "(III)V"⟩, 21) := ⟨⟨by decide +kernel, by decide +kernel⟩, List.mem_of_getElem? (i := 766) (by decide +kernel), List.mem_of_getElem? (i := 1035) (by decide +kernel), List.mem_of_getElem? (i := 1036) (by decide +kernel)⟩
def lw_privs_4 : List (MethodName × Nat) := [(⟨"KnotRingModel", "testHolds", "(IIII)Z"⟩, 21), (⟨"KnotRingModel", "sign", "()I"⟩, 21), (⟨"KnotRingModel", "claimHolds", "(IIII)Z"⟩, 21), (⟨"KnotRingModel", "take", "()I"⟩, 21), (⟨"KnotRingModel", "digits", "()I"⟩, 21), (⟨"KnotRingModel", "tick", "(I)V"⟩, 21), (⟨"KnotRingModel", "note", "(II)V"⟩, 21), (⟨"KnotRingModel", "decide", "(II)V"⟩, 21), (⟨"KnotRingModel", "hasRoom", "(II)Z"⟩, 21), (⟨"KnotRingModel", "limited", "(II)I"⟩, 21), (⟨"KnotRingModel", "goOn", "(II)V"⟩, 21), (⟨"KnotRingModel", "noteFirst", "(I)V"⟩, 21), (⟨"KnotRingModel", "isEven", "(I)Z"⟩, 21), (⟨"KnotRingModel", "findKnots", "(I)V"⟩, 21), (⟨"KnotRingModel", "isSlow", "(II)Z"⟩, 21), (⟨"KnotRingModel", "addKnot", "(III)V"⟩, 21)]
theorem lw_r4 : ∀ q ∈ lw_privs_4, lw_okq q := List.forall_mem_cons.mpr ⟨lw_p48, List.forall_mem_cons.mpr ⟨lw_p49, List.forall_mem_cons.mpr ⟨lw_p50, List.forall_mem_cons.mpr ⟨lw_p51, List.forall_mem_cons.mpr ⟨lw_p52, List.forall_mem_cons.mpr ⟨lw_p53, List.forall_mem_cons.mpr ⟨lw_p54, List.forall_mem_cons.mpr ⟨lw_p55, List.forall_mem_cons.mpr ⟨lw_p56, List.forall_mem_cons.mpr ⟨lw_p57, List.forall_mem_cons.mpr ⟨lw_p58, List.forall_mem_cons.mpr ⟨lw_p59, List.forall_mem_cons.mpr ⟨lw_p60, List.forall_mem_cons.mpr ⟨lw_p61, List.forall_mem_cons.mpr ⟨lw_p62, List.forall_mem_cons.mpr ⟨lw_p63, fun _ h => absurd h List.not_mem_nil⟩⟩⟩⟩⟩⟩⟩⟩⟩⟩⟩⟩⟩⟩⟩⟩
theorem lw_p64 : lw_okq (⟨"KnotRingModel", "behind", "(II)I"⟩, 21) := ⟨⟨by decide +kernel, by decide +kernel⟩, List.mem_of_getElem? (i := 766) (by decide +kernel), List.mem_of_getElem? (i := 1039) (by decide +kernel), List.mem_of_getElem? (i := 1040) (by decide +kernel)⟩
theorem lw_p65 : lw_okq (⟨"KnotRingModel", "copyRing", "(II)V"⟩, 21) := ⟨⟨by decide +kernel, by decide +kernel⟩, List.mem_of_getElem? (i := 766) (by decide +kernel), List.mem_of_getElem? (i := 1056) (by decide +kernel), List.mem_of_getElem? (i := 1057) (by decide +kernel)⟩
theorem lw_p66 : lw_okq (⟨"KnotRingModel", "wentAll", "(II)I"⟩, 21) := ⟨⟨by decide +kernel, by decide +kernel⟩, List.mem_of_getElem? (i := 766) (by decide +kernel), List.mem_of_getElem? (i := 1060) (by decide +kernel), List.mem_of_getElem? (i := 1061) (by decide +kernel)⟩
theorem lw_p67 : lw_okq (⟨"KnotRingModel", "knotsAfter", "(III)I"⟩, 21) := ⟨⟨by decide +kernel, by decide +kernel⟩, List.mem_of_getElem? (i := 766) (by decide +kernel), List.mem_of_getElem? (i := 1068) (by decide +kernel), List.mem_of_getElem? (i := 1069) (by decide +kernel)⟩
theorem lw_p68 : lw_okq (⟨"KnotRingModel", "isSame", "()Z"⟩, 21) := ⟨⟨by decide +kernel, by decide +kernel⟩, List.mem_of_getElem? (i := 766) (by decide +kernel), List.mem_of_getElem? (i := 1084) (by decide +kernel), List.mem_of_getElem? (i := 1085) (by decide +kernel)⟩
theorem lw_p69 : lw_okq (⟨"KnotRingModel", "row", "(IIII)I"⟩, 21) := ⟨⟨by decide +kernel, by decide +kernel⟩, List.mem_of_getElem? (i := 766) (by decide +kernel), List.mem_of_getElem? (i := 1107) (by decide +kernel), List.mem_of_getElem? (i := 1108) (by decide +kernel)⟩
def lw_privs_5 : List (MethodName × Nat) := [(⟨"KnotRingModel", "behind", "(II)I"⟩, 21), (⟨"KnotRingModel", "copyRing", "(II)V"⟩, 21), (⟨"KnotRingModel", "wentAll", "(II)I"⟩, 21), (⟨"KnotRingModel", "knotsAfter", "(III)I"⟩, 21), (⟨"KnotRingModel", "isSame", "()Z"⟩, 21), (⟨"KnotRingModel", "row", "(IIII)I"⟩, 21)]
theorem lw_r5 : ∀ q ∈ lw_privs_5, lw_okq q := List.forall_mem_cons.mpr ⟨lw_p64, List.forall_mem_cons.mpr ⟨lw_p65, List.forall_mem_cons.mpr ⟨lw_p66, List.forall_mem_cons.mpr ⟨lw_p67, List.forall_mem_cons.mpr ⟨lw_p68, List.forall_mem_cons.mpr ⟨lw_p69, fun _ h => absurd h List.not_mem_nil⟩⟩⟩⟩⟩⟩
def lw_privs : List (MethodName × Nat) := lw_privs_1 ++ (lw_privs_2 ++ (lw_privs_3 ++ (lw_privs_4 ++ (lw_privs_5))))
def lw_tbl : List Cond := k2_sels lw_privs ++ tables_1
theorem lw_privs_ok : ∀ q ∈ lw_privs, lw_okq q := by
  show ∀ q ∈ lw_privs_1 ++ (lw_privs_2 ++ (lw_privs_3 ++ (lw_privs_4 ++ (lw_privs_5)))), lw_okq q
  exact List.forall_mem_append.mpr ⟨lw_r1, List.forall_mem_append.mpr ⟨lw_r2, List.forall_mem_append.mpr ⟨lw_r3, List.forall_mem_append.mpr ⟨lw_r4, lw_r5⟩⟩⟩⟩
end
section
def RX0 : String := "KnotRing$Car"
def TX0 : u_T := fun k => match k with
  | 0 => ("KnotRing$Car", "cell", "I", false)
  | 1 => ("KnotRing$Car", "lane", "I", false)
  | 2 => ("KnotRing$Car", "pace", "I", false)
  | 3 => ("KnotRing$Car", "habit", "I", false)
  | 4 => ("KnotRing$Car", "late", "I", false)
  | 5 => ("KnotRing$Car", "went", "I", false)
  | 6 => ("KnotRing$Car", "changes", "I", false)
  | 7 => ("KnotRing$Car", "tapped", "Z", false)
  | 8 => ("KnotRing$Car", "noted", "I", false)
  | 9 => ("KnotRing$Car", "notes", "[I", true)
  | 10 => ("KnotRing$Car", "gap", "I", false)
  | 11 => ("KnotRing$Car", "ahead", "I", false)
  | 12 => ("KnotRing$Car", "lead", "I", false)
  | 13 => ("KnotRing$Car", "other", "I", false)
  | 14 => ("KnotRing$Car", "wanted", "I", false)
  | _ => ("KnotRing$Car", "would", "Z", false)
def tyX0 : Nat → FieldType := fun k => match k with
  | 0 => .int
  | 1 => .int
  | 2 => .int
  | 3 => .int
  | 4 => .int
  | 5 => .int
  | 6 => .int
  | 7 => .boolean
  | 8 => .int
  | 9 => .array .int
  | 10 => .int
  | 11 => .int
  | 12 => .int
  | 13 => .int
  | 14 => .int
  | _ => .boolean
abbrev wsX00 : List Cond := u_ws RX0 TX0 16
theorem nmX0 : ∀ a, a < 16 → ∀ b, b < 16 → a ≠ b → (TX0 a).2.1 ≠ (TX0 b).2.1 := by decide +kernel
theorem tyX0_ok : ∀ k, k < 16 → parseFieldDescriptor (TX0 k).2.2.1 = some (tyX0 k) := by decide +kernel
abbrev cX0_init : ByteArray := prog_2_method_1_code
def yX0_init : MethodName := ⟨RX0, "<init>", "()V"⟩
abbrev cX0_begin : ByteArray := prog_2_method_2_code
def yX0_begin : MethodName := ⟨RX0, "begin", "(III)V"⟩
abbrev cX0_takeFrom : ByteArray := prog_2_method_3_code
def yX0_takeFrom : MethodName := ⟨RX0, "takeFrom", "(LKnotRing$Car;)V"⟩
abbrev cX0_note : ByteArray := prog_2_method_4_code
def yX0_note : MethodName := ⟨RX0, "note", "()V"⟩
abbrev cX0_placeOf : ByteArray := prog_2_method_5_code
def yX0_placeOf : MethodName := ⟨RX0, "placeOf", "(I)I"⟩
abbrev cX0_decide : ByteArray := prog_2_method_6_code
def yX0_decide : MethodName := ⟨RX0, "decide", "(LKnotRing$Habit;)V"⟩
abbrev cX0_settlePace : ByteArray := prog_2_method_7_code
def yX0_settlePace : MethodName := ⟨RX0, "settlePace", "(I)V"⟩
abbrev cX0_isLike : ByteArray := prog_2_method_8_code
def yX0_isLike : MethodName := ⟨RX0, "isLike", "(LKnotRing$Car;)Z"⟩
abbrev cX0_remembersLike : ByteArray := prog_2_method_9_code
def yX0_remembersLike : MethodName := ⟨RX0, "remembersLike", "(LKnotRing$Car;)Z"⟩
def RX1 : String := "KnotRing$Habit"
def TX1 : u_T := fun k => match k with
  | 0 => ("KnotRing$Habit", "clauses", "I", true)
  | 1 => ("KnotRing$Habit", "subject", "[I", true)
  | 2 => ("KnotRing$Habit", "relation", "[I", true)
  | 3 => ("KnotRing$Habit", "number", "[I", true)
  | 4 => ("KnotRing$Habit", "ifSo", "[I", true)
  | 5 => ("KnotRing$Habit", "ifNot", "[I", true)
  | 6 => ("KnotRing$Habit", "sign", "[I", true)
  | 7 => ("KnotRing$Habit", "digit", "[I", true)
  | _ => ("KnotRing$Habit", "change", "[I", true)
def tyX1 : Nat → FieldType := fun k => match k with
  | 0 => .int
  | 1 => .array .int
  | 2 => .array .int
  | 3 => .array .int
  | 4 => .array .int
  | 5 => .array .int
  | 6 => .array .int
  | 7 => .array .int
  | _ => .array .int
abbrev wsX10 : List Cond := u_ws RX1 TX1 9
theorem nmX1 : ∀ a, a < 9 → ∀ b, b < 9 → a ≠ b → (TX1 a).2.1 ≠ (TX1 b).2.1 := by decide +kernel
theorem tyX1_ok : ∀ k, k < 9 → parseFieldDescriptor (TX1 k).2.2.1 = some (tyX1 k) := by decide +kernel
abbrev cX1_init : ByteArray := prog_3_method_1_code
def yX1_init : MethodName := ⟨RX1, "<init>", "(LKnotRing$Reader;)V"⟩
abbrev cX1_clauseFor : ByteArray := prog_3_method_2_code
def yX1_clauseFor : MethodName := ⟨RX1, "clauseFor", "(IIII)I"⟩
abbrev cX1_isSo : ByteArray := prog_3_method_3_code
def yX1_isSo : MethodName := ⟨RX1, "isSo", "(III)Z"⟩
abbrev cX1_paceBy : ByteArray := prog_3_method_4_code
def yX1_paceBy : MethodName := ⟨RX1, "paceBy", "(II)I"⟩
abbrev cX1_changesBy : ByteArray := prog_3_method_5_code
def yX1_changesBy : MethodName := ⟨RX1, "changesBy", "(I)Z"⟩
def RX2 : String := "KnotRing$Knots"
def TX2 : u_T := fun k => match k with
  | 0 => ("KnotRing$Knots", "head", "[I", true)
  | 1 => ("KnotRing$Knots", "size", "[I", true)
  | 2 => ("KnotRing$Knots", "found", "I", false)
  | _ => ("KnotRing$Knots", "behind", "[I", true)
def tyX2 : Nat → FieldType := fun k => match k with
  | 0 => .array .int
  | 1 => .array .int
  | 2 => .int
  | _ => .array .int
abbrev wsX20 : List Cond := u_ws RX2 TX2 4
theorem nmX2 : ∀ a, a < 4 → ∀ b, b < 4 → a ≠ b → (TX2 a).2.1 ≠ (TX2 b).2.1 := by decide +kernel
theorem tyX2_ok : ∀ k, k < 4 → parseFieldDescriptor (TX2 k).2.2.1 = some (tyX2 k) := by decide +kernel
abbrev cX2_init : ByteArray := prog_4_method_1_code
def yX2_init : MethodName := ⟨RX2, "<init>", "()V"⟩
abbrev cX2_findIn : ByteArray := prog_4_method_2_code
def yX2_findIn : MethodName := ⟨RX2, "findIn", "(LKnotRing$Ring;)I"⟩
abbrev cX2_carsIn : ByteArray := prog_4_method_3_code
def yX2_carsIn : MethodName := ⟨RX2, "carsIn", "(LKnotRing$Ring;)I"⟩
abbrev cX2_isHead : ByteArray := prog_4_method_4_code
def yX2_isHead : MethodName := ⟨RX2, "isHead", "(LKnotRing$Ring;I)Z"⟩
abbrev cX2_isLeastOfSlowLane : ByteArray := prog_4_method_5_code
def yX2_isLeastOfSlowLane : MethodName := ⟨RX2, "isLeastOfSlowLane", "(LKnotRing$Ring;I)Z"⟩
abbrev cX2_sizeBehind : ByteArray := prog_4_method_6_code
def yX2_sizeBehind : MethodName := ⟨RX2, "sizeBehind", "(LKnotRing$Ring;I)I"⟩
abbrev cX2_insert : ByteArray := prog_4_method_7_code
def yX2_insert : MethodName := ⟨RX2, "insert", "(LKnotRing$Ring;II)V"⟩
abbrev cX2_comesAhead : ByteArray := prog_4_method_8_code
def yX2_comesAhead : MethodName := ⟨RX2, "comesAhead", "(LKnotRing$Car;LKnotRing$Car;)Z"⟩
def RX3 : String := "KnotRing$Reader"
def TX3 : u_T := fun k => match k with
  | 0 => ("KnotRing$Reader", "tape", "[I", true)
  | 1 => ("KnotRing$Reader", "size", "I", false)
  | 2 => ("KnotRing$Reader", "place", "I", false)
  | 3 => ("KnotRing$Reader", "claims", "I", false)
  | 4 => ("KnotRing$Reader", "clauses", "I", false)
  | 5 => ("KnotRing$Reader", "labels", "I", false)
  | 6 => ("KnotRing$Reader", "subject", "[I", true)
  | 7 => ("KnotRing$Reader", "relation", "[I", true)
  | 8 => ("KnotRing$Reader", "number", "[I", true)
  | 9 => ("KnotRing$Reader", "ifSo", "[I", true)
  | 10 => ("KnotRing$Reader", "ifNot", "[I", true)
  | 11 => ("KnotRing$Reader", "sign", "[I", true)
  | 12 => ("KnotRing$Reader", "digit", "[I", true)
  | 13 => ("KnotRing$Reader", "change", "[I", true)
  | 14 => ("KnotRing$Reader", "joined", "[I", true)
  | _ => ("KnotRing$Reader", "fixed", "[I", true)
def tyX3 : Nat → FieldType := fun k => match k with
  | 0 => .array .int
  | 1 => .int
  | 2 => .int
  | 3 => .int
  | 4 => .int
  | 5 => .int
  | 6 => .array .int
  | 7 => .array .int
  | 8 => .array .int
  | 9 => .array .int
  | 10 => .array .int
  | 11 => .array .int
  | 12 => .array .int
  | 13 => .array .int
  | 14 => .array .int
  | _ => .array .int
abbrev wsX30 : List Cond := u_ws RX3 TX3 16
theorem nmX3 : ∀ a, a < 16 → ∀ b, b < 16 → a ≠ b → (TX3 a).2.1 ≠ (TX3 b).2.1 := by decide +kernel
theorem tyX3_ok : ∀ k, k < 16 → parseFieldDescriptor (TX3 k).2.2.1 = some (tyX3 k) := by decide +kernel
abbrev cX3_init : ByteArray := prog_5_method_1_code
def yX3_init : MethodName := ⟨RX3, "<init>", "()V"⟩
abbrev cX3_append : ByteArray := prog_5_method_2_code
def yX3_append : MethodName := ⟨RX3, "append", "(I)V"⟩
abbrev cX3_readHabit : ByteArray := prog_5_method_3_code
def yX3_readHabit : MethodName := ⟨RX3, "readHabit", "()Z"⟩
abbrev cX3_endClause : ByteArray := prog_5_method_4_code
def yX3_endClause : MethodName := ⟨RX3, "endClause", "(II)V"⟩
abbrev cX3_readAct : ByteArray := prog_5_method_5_code
def yX3_readAct : MethodName := ⟨RX3, "readAct", "()Z"⟩
abbrev cX3_readTest : ByteArray := prog_5_method_6_code
def yX3_readTest : MethodName := ⟨RX3, "readTest", "(III)Z"⟩
abbrev cX3_readCase : ByteArray := prog_5_method_7_code
def yX3_readCase : MethodName := ⟨RX3, "readCase", "(III)Z"⟩
abbrev cX3_readBare : ByteArray := prog_5_method_8_code
def yX3_readBare : MethodName := ⟨RX3, "readBare", "(III)Z"⟩
abbrev cX3_readComparison : ByteArray := prog_5_method_9_code
def yX3_readComparison : MethodName := ⟨RX3, "readComparison", "()Z"⟩
abbrev cX3_readNumber : ByteArray := prog_5_method_10_code
def yX3_readNumber : MethodName := ⟨RX3, "readNumber", "()I"⟩
abbrev cX3_next : ByteArray := prog_5_method_11_code
def yX3_next : MethodName := ⟨RX3, "next", "()I"⟩
abbrev cX3_take : ByteArray := prog_5_method_12_code
def yX3_take : MethodName := ⟨RX3, "take", "(I)Z"⟩
abbrev cX3_isDigit : ByteArray := prog_5_method_13_code
def yX3_isDigit : MethodName := ⟨RX3, "isDigit", "(I)Z"⟩
abbrev cX3_addClaim : ByteArray := prog_5_method_14_code
def yX3_addClaim : MethodName := ⟨RX3, "addClaim", "(III)V"⟩
abbrev cX3_newLabel : ByteArray := prog_5_method_15_code
def yX3_newLabel : MethodName := ⟨RX3, "newLabel", "()I"⟩
abbrev cX3_join : ByteArray := prog_5_method_16_code
def yX3_join : MethodName := ⟨RX3, "join", "(II)V"⟩
abbrev cX3_fix : ByteArray := prog_5_method_17_code
def yX3_fix : MethodName := ⟨RX3, "fix", "(II)V"⟩
abbrev cX3_followLabels : ByteArray := prog_5_method_18_code
def yX3_followLabels : MethodName := ⟨RX3, "followLabels", "()V"⟩
abbrev cX3_follow : ByteArray := prog_5_method_19_code
def yX3_follow : MethodName := ⟨RX3, "follow", "(I)I"⟩
def RX4 : String := "KnotRing$Ring"
def TX4 : u_T := fun k => match k with
  | 0 => ("KnotRing$Ring", "length", "I", false)
  | 1 => ("KnotRing$Ring", "most", "I", false)
  | 2 => ("KnotRing$Ring", "now", "I", false)
  | 3 => ("KnotRing$Ring", "firstStood", "I", false)
  | 4 => ("KnotRing$Ring", "cars", "I", false)
  | 5 => ("KnotRing$Ring", "boards", "I", false)
  | 6 => ("KnotRing$Ring", "loops", "I", false)
  | 7 => ("KnotRing$Ring", "car", "[LKnotRing$Car;", true)
  | 8 => ("KnotRing$Ring", "habits", "[LKnotRing$Habit;", true)
  | 9 => ("KnotRing$Ring", "boardFrom", "[I", true)
  | 10 => ("KnotRing$Ring", "boardTo", "[I", true)
  | 11 => ("KnotRing$Ring", "boardLimit", "[I", true)
  | 12 => ("KnotRing$Ring", "loopCell", "[I", true)
  | 13 => ("KnotRing$Ring", "loopCars", "[I", true)
  | _ => ("KnotRing$Ring", "loopPaces", "[I", true)
def tyX4 : Nat → FieldType := fun k => match k with
  | 0 => .int
  | 1 => .int
  | 2 => .int
  | 3 => .int
  | 4 => .int
  | 5 => .int
  | 6 => .int
  | 7 => .array (.object "KnotRing$Car")
  | 8 => .array (.object "KnotRing$Habit")
  | 9 => .array .int
  | 10 => .array .int
  | 11 => .array .int
  | 12 => .array .int
  | 13 => .array .int
  | _ => .array .int
abbrev wsX40 : List Cond := u_ws RX4 TX4 15
theorem nmX4 : ∀ a, a < 15 → ∀ b, b < 15 → a ≠ b → (TX4 a).2.1 ≠ (TX4 b).2.1 := by decide +kernel
theorem tyX4_ok : ∀ k, k < 15 → parseFieldDescriptor (TX4 k).2.2.1 = some (tyX4 k) := by decide +kernel
abbrev cX4_init : ByteArray := prog_6_method_1_code
def yX4_init : MethodName := ⟨RX4, "<init>", "(LKnotRing$Habit;)V"⟩
abbrev cX4_takeFrom : ByteArray := prog_6_method_2_code
def yX4_takeFrom : MethodName := ⟨RX4, "takeFrom", "(LKnotRing$Ring;)V"⟩
abbrev cX4_takeBoardsAndLoops : ByteArray := prog_6_method_3_code
def yX4_takeBoardsAndLoops : MethodName := ⟨RX4, "takeBoardsAndLoops", "(LKnotRing$Ring;)V"⟩
abbrev cX4_addCar : ByteArray := prog_6_method_4_code
def yX4_addCar : MethodName := ⟨RX4, "addCar", "(III)I"⟩
abbrev cX4_addBoard : ByteArray := prog_6_method_5_code
def yX4_addBoard : MethodName := ⟨RX4, "addBoard", "(III)I"⟩
abbrev cX4_addLoop : ByteArray := prog_6_method_6_code
def yX4_addLoop : MethodName := ⟨RX4, "addLoop", "(I)I"⟩
abbrev cX4_isTaken : ByteArray := prog_6_method_7_code
def yX4_isTaken : MethodName := ⟨RX4, "isTaken", "(II)Z"⟩
abbrev cX4_isEven : ByteArray := prog_6_method_8_code
def yX4_isEven : MethodName := ⟨RX4, "isEven", "()Z"⟩
abbrev cX4_isLike : ByteArray := prog_6_method_9_code
def yX4_isLike : MethodName := ⟨RX4, "isLike", "(LKnotRing$Ring;)Z"⟩
abbrev cX4_cellsGone : ByteArray := prog_6_method_10_code
def yX4_cellsGone : MethodName := ⟨RX4, "cellsGone", "(I)I"⟩
abbrev cX4_cellsOn : ByteArray := prog_6_method_11_code
def yX4_cellsOn : MethodName := ⟨RX4, "cellsOn", "(II)I"⟩
abbrev cX4_lookFrom : ByteArray := prog_6_method_12_code
def yX4_lookFrom : MethodName := ⟨RX4, "lookFrom", "(I)V"⟩
abbrev cX4_lookFromAll : ByteArray := prog_6_method_13_code
def yX4_lookFromAll : MethodName := ⟨RX4, "lookFromAll", "()V"⟩
abbrev cX4_run : ByteArray := prog_6_method_14_code
def yX4_run : MethodName := ⟨RX4, "run", "(I)V"⟩
abbrev cX4_tick : ByteArray := prog_6_method_15_code
def yX4_tick : MethodName := ⟨RX4, "tick", "()V"⟩
abbrev cX4_changeLanes : ByteArray := prog_6_method_16_code
def yX4_changeLanes : MethodName := ⟨RX4, "changeLanes", "()Z"⟩
abbrev cX4_hasRoomBeside : ByteArray := prog_6_method_17_code
def yX4_hasRoomBeside : MethodName := ⟨RX4, "hasRoomBeside", "(LKnotRing$Car;)Z"⟩
abbrev cX4_limitAt : ByteArray := prog_6_method_18_code
def yX4_limitAt : MethodName := ⟨RX4, "limitAt", "(I)I"⟩
abbrev cX4_goOn : ByteArray := prog_6_method_19_code
def yX4_goOn : MethodName := ⟨RX4, "goOn", "(LKnotRing$Car;)V"⟩
abbrev cX4_markFirst : ByteArray := prog_6_method_20_code
def yX4_markFirst : MethodName := ⟨RX4, "markFirst", "()V"⟩
def RX5 : String := "KnotRing$Sheet"
def TX5 : u_T := fun k => match k with
  | 0 => ("KnotRing$Sheet", "lane", "I", false)
  | 1 => ("KnotRing$Sheet", "size", "I", false)
  | _ => ("KnotRing$Sheet", "items", "[I", true)
def tyX5 : Nat → FieldType := fun k => match k with
  | 0 => .int
  | 1 => .int
  | _ => .array .int
abbrev wsX50 : List Cond := u_ws RX5 TX5 3
theorem nmX5 : ∀ a, a < 3 → ∀ b, b < 3 → a ≠ b → (TX5 a).2.1 ≠ (TX5 b).2.1 := by decide +kernel
theorem tyX5_ok : ∀ k, k < 3 → parseFieldDescriptor (TX5 k).2.2.1 = some (tyX5 k) := by decide +kernel
abbrev cX5_init : ByteArray := prog_7_method_1_code
def yX5_init : MethodName := ⟨RX5, "<init>", "()V"⟩
abbrev cX5_begin : ByteArray := prog_7_method_2_code
def yX5_begin : MethodName := ⟨RX5, "begin", "(II)V"⟩
abbrev cX5_lookedAt : ByteArray := prog_7_method_3_code
def yX5_lookedAt : MethodName := ⟨RX5, "lookedAt", "(III)I"⟩
abbrev cX5_hasItems : ByteArray := prog_7_method_4_code
def yX5_hasItems : MethodName := ⟨RX5, "hasItems", "(II)Z"⟩
abbrev cX5_put : ByteArray := prog_7_method_5_code
def yX5_put : MethodName := ⟨RX5, "put", "(II)V"⟩
def RX6 : String := "KnotRing"
def TX6 : u_T := fun k => match k with
  | 0 => ("KnotRing", "reader", "LKnotRing$Reader;", true)
  | 1 => ("KnotRing", "here", "LKnotRing$Ring;", true)
  | 2 => ("KnotRing", "foretold", "LKnotRing$Ring;", true)
  | 3 => ("KnotRing", "images", "[LKnotRing$Ring;", true)
  | 4 => ("KnotRing", "imaged", "[Z", true)
  | 5 => ("KnotRing", "knots", "LKnotRing$Knots;", true)
  | _ => ("KnotRing", "sheets", "[LKnotRing$Sheet;", true)
def tyX6 : Nat → FieldType := fun k => match k with
  | 0 => .object "KnotRing$Reader"
  | 1 => .object "KnotRing$Ring"
  | 2 => .object "KnotRing$Ring"
  | 3 => .array (.object "KnotRing$Ring")
  | 4 => .array .boolean
  | 5 => .object "KnotRing$Knots"
  | _ => .array (.object "KnotRing$Sheet")
abbrev wsX60 : List Cond := u_ws RX6 TX6 7
theorem nmX6 : ∀ a, a < 7 → ∀ b, b < 7 → a ≠ b → (TX6 a).2.1 ≠ (TX6 b).2.1 := by decide +kernel
theorem tyX6_ok : ∀ k, k < 7 → parseFieldDescriptor (TX6 k).2.2.1 = some (tyX6 k) := by decide +kernel
abbrev cX6_init : ByteArray := prog_1_method_1_code
def yX6_init : MethodName := ⟨RX6, "<init>", "()V"⟩
abbrev cX6_ring : ByteArray := prog_1_method_2_code
def yX6_ring : MethodName := ⟨RX6, "ring", "(II)I"⟩
abbrev cX6_changeLength : ByteArray := prog_1_method_3_code
def yX6_changeLength : MethodName := ⟨RX6, "changeLength", "(I)I"⟩
abbrev cX6_car : ByteArray := prog_1_method_4_code
def yX6_car : MethodName := ⟨RX6, "car", "(III)I"⟩
abbrev cX6_evenly : ByteArray := prog_1_method_5_code
def yX6_evenly : MethodName := ⟨RX6, "evenly", "(II)I"⟩
abbrev cX6_set : ByteArray := prog_1_method_6_code
def yX6_set : MethodName := ⟨RX6, "set", "(III)I"⟩
abbrev cX6_told : ByteArray := prog_1_method_7_code
def yX6_told : MethodName := ⟨RX6, "told", "(II)I"⟩
abbrev cX6_type : ByteArray := prog_1_method_8_code
def yX6_type : MethodName := ⟨RX6, "type", "(JI)I"⟩
abbrev cX6_habit : ByteArray := prog_1_method_9_code
def yX6_habit : MethodName := ⟨RX6, "habit", "(I)I"⟩
abbrev cX6_holds : ByteArray := prog_1_method_10_code
def yX6_holds : MethodName := ⟨RX6, "holds", "(I)I"⟩
abbrev cX6_board : ByteArray := prog_1_method_11_code
def yX6_board : MethodName := ⟨RX6, "board", "(III)I"⟩
abbrev cX6_loop : ByteArray := prog_1_method_12_code
def yX6_loop : MethodName := ⟨RX6, "loop", "(I)I"⟩
abbrev cX6_looped : ByteArray := prog_1_method_13_code
def yX6_looped : MethodName := ⟨RX6, "looped", "(II)I"⟩
abbrev cX6_tap : ByteArray := prog_1_method_14_code
def yX6_tap : MethodName := ⟨RX6, "tap", "(I)I"⟩
abbrev cX6_ticks : ByteArray := prog_1_method_15_code
def yX6_ticks : MethodName := ⟨RX6, "ticks", "(I)I"⟩
abbrev cX6_count : ByteArray := prog_1_method_16_code
def yX6_count : MethodName := ⟨RX6, "count", "(I)I"⟩
abbrev cX6_knot : ByteArray := prog_1_method_17_code
def yX6_knot : MethodName := ⟨RX6, "knot", "(II)I"⟩
abbrev cX6_first : ByteArray := prog_1_method_18_code
def yX6_first : MethodName := ⟨RX6, "first", "()I"⟩
abbrev cX6_cost : ByteArray := prog_1_method_19_code
def yX6_cost : MethodName := ⟨RX6, "cost", "(III)I"⟩
abbrev cX6_after : ByteArray := prog_1_method_20_code
def yX6_after : MethodName := ⟨RX6, "after", "(II)I"⟩
abbrev cX6_calmed : ByteArray := prog_1_method_21_code
def yX6_calmed : MethodName := ⟨RX6, "calmed", "(II)I"⟩
abbrev cX6_isCalmWith : ByteArray := prog_1_method_22_code
def yX6_isCalmWith : MethodName := ⟨RX6, "isCalmWith", "(III)Z"⟩
abbrev cX6_round : ByteArray := prog_1_method_23_code
def yX6_round : MethodName := ⟨RX6, "round", "(I)I"⟩
abbrev cX6_evens : ByteArray := prog_1_method_24_code
def yX6_evens : MethodName := ⟨RX6, "evens", "(I)I"⟩
abbrev cX6_image : ByteArray := prog_1_method_25_code
def yX6_image : MethodName := ⟨RX6, "image", "(I)I"⟩
abbrev cX6_restore : ByteArray := prog_1_method_26_code
def yX6_restore : MethodName := ⟨RX6, "restore", "(I)I"⟩
abbrev cX6_paces : ByteArray := prog_1_method_27_code
def yX6_paces : MethodName := ⟨RX6, "paces", "(III)I"⟩
abbrev cX6_taps : ByteArray := prog_1_method_28_code
def yX6_taps : MethodName := ⟨RX6, "taps", "(II)I"⟩
abbrev cX6_foretell : ByteArray := prog_1_method_29_code
def yX6_foretell : MethodName := ⟨RX6, "foretell", "(IZI)V"⟩
abbrev cX6_sheet : ByteArray := prog_1_method_30_code
def yX6_sheet : MethodName := ⟨RX6, "sheet", "(III)I"⟩
abbrev cX6_drop : ByteArray := prog_1_method_31_code
def yX6_drop : MethodName := ⟨RX6, "drop", "(I)I"⟩
abbrev cX6_item : ByteArray := prog_1_method_32_code
def yX6_item : MethodName := ⟨RX6, "item", "(IIII)I"⟩
abbrev cX6_copy : ByteArray := prog_1_method_33_code
def yX6_copy : MethodName := ⟨RX6, "copy", "(IIIII)I"⟩
abbrev cX6_within : ByteArray := prog_1_method_34_code
def yX6_within : MethodName := ⟨RX6, "within", "(III)Z"⟩
abbrev cX6_isPace : ByteArray := prog_1_method_35_code
def yX6_isPace : MethodName := ⟨RX6, "isPace", "(I)Z"⟩
abbrev cX6_isSheet : ByteArray := prog_1_method_36_code
def yX6_isSheet : MethodName := ⟨RX6, "isSheet", "(I)Z"⟩
abbrev cX6_byteOf : ByteArray := prog_1_method_37_code
def yX6_byteOf : MethodName := ⟨RX6, "byteOf", "(JI)I"⟩
abbrev cX6_isCell : ByteArray := prog_1_method_38_code
def yX6_isCell : MethodName := ⟨RX6, "isCell", "(I)Z"⟩
abbrev cX6_isCar : ByteArray := prog_1_method_39_code
def yX6_isCar : MethodName := ⟨RX6, "isCar", "(I)Z"⟩
def RX7 : String := "KnotRingModel"
def TX7 : u_T := fun k => match k with
  | 0 => ("KnotRingModel", "z", "[I", true)
  | 1 => ("KnotRingModel", "isKept", "[Z", true)
  | 2 => ("KnotRingModel", "tape", "[I", true)
  | 3 => ("KnotRingModel", "taped", "I", false)
  | 4 => ("KnotRingModel", "items", "[I", true)
  | 5 => ("KnotRingModel", "lanes", "[I", true)
  | 6 => ("KnotRingModel", "sizes", "[I", true)
  | 7 => ("KnotRingModel", "seen", "[I", true)
  | 8 => ("KnotRingModel", "wants", "[I", true)
  | 9 => ("KnotRingModel", "would", "[Z", true)
  | 10 => ("KnotRingModel", "place", "I", false)
  | 11 => ("KnotRingModel", "from", "I", false)
  | 12 => ("KnotRingModel", "end", "I", false)
  | 13 => ("KnotRingModel", "cases", "[Z", true)
  | 14 => ("KnotRingModel", "claims", "[Z", true)
  | 15 => ("KnotRingModel", "turned", "[Z", true)
  | 16 => ("KnotRingModel", "wanted", "I", false)
  | 17 => ("KnotRingModel", "changes", "Z", false)
  | 18 => ("KnotRingModel", "heads", "[I", true)
  | 19 => ("KnotRingModel", "manies", "[I", true)
  | _ => ("KnotRingModel", "knots", "I", false)
def tyX7 : Nat → FieldType := fun k => match k with
  | 0 => .array .int
  | 1 => .array .boolean
  | 2 => .array .int
  | 3 => .int
  | 4 => .array .int
  | 5 => .array .int
  | 6 => .array .int
  | 7 => .array .int
  | 8 => .array .int
  | 9 => .array .boolean
  | 10 => .int
  | 11 => .int
  | 12 => .int
  | 13 => .array .boolean
  | 14 => .array .boolean
  | 15 => .array .boolean
  | 16 => .int
  | 17 => .boolean
  | 18 => .array .int
  | 19 => .array .int
  | _ => .int
abbrev wsX70 : List Cond := u_ws RX7 TX7 21
theorem nmX7 : ∀ a, a < 21 → ∀ b, b < 21 → a ≠ b → (TX7 a).2.1 ≠ (TX7 b).2.1 := by decide +kernel
theorem tyX7_ok : ∀ k, k < 21 → parseFieldDescriptor (TX7 k).2.2.1 = some (tyX7 k) := by decide +kernel
abbrev cX7_init : ByteArray := prog_9_method_1_code
def yX7_init : MethodName := ⟨RX7, "<init>", "()V"⟩
abbrev cX7_in : ByteArray := prog_9_method_2_code
def yX7_in : MethodName := ⟨RX7, "in", "(JJJ)Z"⟩
abbrev cX7_copyRing : ByteArray := prog_9_method_3_code
def yX7_copyRing : MethodName := ⟨RX7, "copyRing", "(II)V"⟩
abbrev cX7_at : ByteArray := prog_9_method_4_code
def yX7_at : MethodName := ⟨RX7, "at", "(III)I"⟩
abbrev cX7_of : ByteArray := prog_9_method_5_code
def yX7_of : MethodName := ⟨RX7, "of", "(III)I"⟩
abbrev cX7_isCar : ByteArray := prog_9_method_6_code
def yX7_isCar : MethodName := ⟨RX7, "isCar", "(I)Z"⟩
abbrev cX7_on : ByteArray := prog_9_method_7_code
def yX7_on : MethodName := ⟨RX7, "on", "(III)I"⟩
abbrev cX7_carAt : ByteArray := prog_9_method_8_code
def yX7_carAt : MethodName := ⟨RX7, "carAt", "(III)I"⟩
abbrev cX7_ahead : ByteArray := prog_9_method_9_code
def yX7_ahead : MethodName := ⟨RX7, "ahead", "(II)I"⟩
abbrev cX7_gap : ByteArray := prog_9_method_10_code
def yX7_gap : MethodName := ⟨RX7, "gap", "(II)I"⟩
abbrev cX7_other : ByteArray := prog_9_method_11_code
def yX7_other : MethodName := ⟨RX7, "other", "(II)I"⟩
abbrev cX7_slower : ByteArray := prog_9_method_12_code
def yX7_slower : MethodName := ⟨RX7, "slower", "(II)I"⟩
abbrev cX7_ring : ByteArray := prog_9_method_13_code
def yX7_ring : MethodName := ⟨RX7, "ring", "(II)I"⟩
abbrev cX7_put : ByteArray := prog_9_method_14_code
def yX7_put : MethodName := ⟨RX7, "put", "(III)V"⟩
abbrev cX7_car : ByteArray := prog_9_method_15_code
def yX7_car : MethodName := ⟨RX7, "car", "(III)I"⟩
abbrev cX7_evenly : ByteArray := prog_9_method_16_code
def yX7_evenly : MethodName := ⟨RX7, "evenly", "(II)I"⟩
abbrev cX7_set : ByteArray := prog_9_method_17_code
def yX7_set : MethodName := ⟨RX7, "set", "(III)I"⟩
abbrev cX7_told : ByteArray := prog_9_method_18_code
def yX7_told : MethodName := ⟨RX7, "told", "(II)I"⟩
abbrev cX7_type : ByteArray := prog_9_method_19_code
def yX7_type : MethodName := ⟨RX7, "type", "(JI)I"⟩
abbrev cX7_look : ByteArray := prog_9_method_20_code
def yX7_look : MethodName := ⟨RX7, "look", "()I"⟩
abbrev cX7_isDigit : ByteArray := prog_9_method_21_code
def yX7_isDigit : MethodName := ⟨RX7, "isDigit", "(I)Z"⟩
abbrev cX7_claim : ByteArray := prog_9_method_22_code
def yX7_claim : MethodName := ⟨RX7, "claim", "()Z"⟩
abbrev cX7_test : ByteArray := prog_9_method_23_code
def yX7_test : MethodName := ⟨RX7, "test", "()Z"⟩
abbrev cX7_act : ByteArray := prog_9_method_24_code
def yX7_act : MethodName := ⟨RX7, "act", "()Z"⟩
abbrev cX7_clauses : ByteArray := prog_9_method_25_code
def yX7_clauses : MethodName := ⟨RX7, "clauses", "()I"⟩
abbrev cX7_habit : ByteArray := prog_9_method_26_code
def yX7_habit : MethodName := ⟨RX7, "habit", "(I)I"⟩
abbrev cX7_sign : ByteArray := prog_9_method_27_code
def yX7_sign : MethodName := ⟨RX7, "sign", "()I"⟩
abbrev cX7_take : ByteArray := prog_9_method_28_code
def yX7_take : MethodName := ⟨RX7, "take", "()I"⟩
abbrev cX7_digits : ByteArray := prog_9_method_29_code
def yX7_digits : MethodName := ⟨RX7, "digits", "()I"⟩
abbrev cX7_claimHolds : ByteArray := prog_9_method_30_code
def yX7_claimHolds : MethodName := ⟨RX7, "claimHolds", "(IIII)Z"⟩
abbrev cX7_testHolds : ByteArray := prog_9_method_31_code
def yX7_testHolds : MethodName := ⟨RX7, "testHolds", "(IIII)Z"⟩
abbrev cX7_clause : ByteArray := prog_9_method_32_code
def yX7_clause : MethodName := ⟨RX7, "clause", "(IIIIII)I"⟩
abbrev cX7_holds : ByteArray := prog_9_method_33_code
def yX7_holds : MethodName := ⟨RX7, "holds", "(I)I"⟩
abbrev cX7_board : ByteArray := prog_9_method_34_code
def yX7_board : MethodName := ⟨RX7, "board", "(III)I"⟩
abbrev cX7_loop : ByteArray := prog_9_method_35_code
def yX7_loop : MethodName := ⟨RX7, "loop", "(I)I"⟩
abbrev cX7_looped : ByteArray := prog_9_method_36_code
def yX7_looped : MethodName := ⟨RX7, "looped", "(II)I"⟩
abbrev cX7_tap : ByteArray := prog_9_method_37_code
def yX7_tap : MethodName := ⟨RX7, "tap", "(I)I"⟩
abbrev cX7_note : ByteArray := prog_9_method_38_code
def yX7_note : MethodName := ⟨RX7, "note", "(II)V"⟩
abbrev cX7_decide : ByteArray := prog_9_method_39_code
def yX7_decide : MethodName := ⟨RX7, "decide", "(II)V"⟩
abbrev cX7_hasRoom : ByteArray := prog_9_method_40_code
def yX7_hasRoom : MethodName := ⟨RX7, "hasRoom", "(II)Z"⟩
abbrev cX7_limited : ByteArray := prog_9_method_41_code
def yX7_limited : MethodName := ⟨RX7, "limited", "(II)I"⟩
abbrev cX7_goOn : ByteArray := prog_9_method_42_code
def yX7_goOn : MethodName := ⟨RX7, "goOn", "(II)V"⟩
abbrev cX7_tick : ByteArray := prog_9_method_43_code
def yX7_tick : MethodName := ⟨RX7, "tick", "(I)V"⟩
abbrev cX7_isEven : ByteArray := prog_9_method_44_code
def yX7_isEven : MethodName := ⟨RX7, "isEven", "(I)Z"⟩
abbrev cX7_noteFirst : ByteArray := prog_9_method_45_code
def yX7_noteFirst : MethodName := ⟨RX7, "noteFirst", "(I)V"⟩
abbrev cX7_ticks : ByteArray := prog_9_method_46_code
def yX7_ticks : MethodName := ⟨RX7, "ticks", "(I)I"⟩
abbrev cX7_isSlow : ByteArray := prog_9_method_47_code
def yX7_isSlow : MethodName := ⟨RX7, "isSlow", "(II)Z"⟩
abbrev cX7_behind : ByteArray := prog_9_method_48_code
def yX7_behind : MethodName := ⟨RX7, "behind", "(II)I"⟩
abbrev cX7_addKnot : ByteArray := prog_9_method_49_code
def yX7_addKnot : MethodName := ⟨RX7, "addKnot", "(III)V"⟩
abbrev cX7_findKnots : ByteArray := prog_9_method_50_code
def yX7_findKnots : MethodName := ⟨RX7, "findKnots", "(I)V"⟩
abbrev cX7_count : ByteArray := prog_9_method_51_code
def yX7_count : MethodName := ⟨RX7, "count", "(I)I"⟩
abbrev cX7_knot : ByteArray := prog_9_method_52_code
def yX7_knot : MethodName := ⟨RX7, "knot", "(II)I"⟩
abbrev cX7_first : ByteArray := prog_9_method_53_code
def yX7_first : MethodName := ⟨RX7, "first", "()I"⟩
abbrev cX7_wentAll : ByteArray := prog_9_method_54_code
def yX7_wentAll : MethodName := ⟨RX7, "wentAll", "(II)I"⟩
abbrev cX7_cost : ByteArray := prog_9_method_55_code
def yX7_cost : MethodName := ⟨RX7, "cost", "(III)I"⟩
abbrev cX7_knotsAfter : ByteArray := prog_9_method_56_code
def yX7_knotsAfter : MethodName := ⟨RX7, "knotsAfter", "(III)I"⟩
abbrev cX7_after : ByteArray := prog_9_method_57_code
def yX7_after : MethodName := ⟨RX7, "after", "(II)I"⟩
abbrev cX7_bits : ByteArray := prog_9_method_58_code
def yX7_bits : MethodName := ⟨RX7, "bits", "(I)I"⟩
abbrev cX7_calmed : ByteArray := prog_9_method_59_code
def yX7_calmed : MethodName := ⟨RX7, "calmed", "(II)I"⟩
abbrev cX7_isSame : ByteArray := prog_9_method_60_code
def yX7_isSame : MethodName := ⟨RX7, "isSame", "()Z"⟩
abbrev cX7_round : ByteArray := prog_9_method_61_code
def yX7_round : MethodName := ⟨RX7, "round", "(I)I"⟩
abbrev cX7_evens : ByteArray := prog_9_method_62_code
def yX7_evens : MethodName := ⟨RX7, "evens", "(I)I"⟩
abbrev cX7_image : ByteArray := prog_9_method_63_code
def yX7_image : MethodName := ⟨RX7, "image", "(I)I"⟩
abbrev cX7_restore : ByteArray := prog_9_method_64_code
def yX7_restore : MethodName := ⟨RX7, "restore", "(I)I"⟩
abbrev cX7_isSheet : ByteArray := prog_9_method_65_code
def yX7_isSheet : MethodName := ⟨RX7, "isSheet", "(I)Z"⟩
abbrev cX7_row : ByteArray := prog_9_method_66_code
def yX7_row : MethodName := ⟨RX7, "row", "(IIII)I"⟩
abbrev cX7_paces : ByteArray := prog_9_method_67_code
def yX7_paces : MethodName := ⟨RX7, "paces", "(III)I"⟩
abbrev cX7_taps : ByteArray := prog_9_method_68_code
def yX7_taps : MethodName := ⟨RX7, "taps", "(II)I"⟩
abbrev cX7_sheet : ByteArray := prog_9_method_69_code
def yX7_sheet : MethodName := ⟨RX7, "sheet", "(III)I"⟩
abbrev cX7_drop : ByteArray := prog_9_method_70_code
def yX7_drop : MethodName := ⟨RX7, "drop", "(I)I"⟩
abbrev cX7_item : ByteArray := prog_9_method_71_code
def yX7_item : MethodName := ⟨RX7, "item", "(IIII)I"⟩
abbrev cX7_copy : ByteArray := prog_9_method_72_code
def yX7_copy : MethodName := ⟨RX7, "copy", "(IIIII)I"⟩
def RJx8e188 : String := "java/lang/Cloneable"
def TJx8e188 : u_T := fun k => match k with
  | _ => ("", "", "", false)
def tyJx8e188 : Nat → FieldType := fun k => match k with
  | _ => .int
abbrev wsJx8e1880 : List Cond := u_ws RJx8e188 TJx8e188 0
theorem nmJx8e188 : ∀ a, a < 0 → ∀ b, b < 0 → a ≠ b → (TJx8e188 a).2.1 ≠ (TJx8e188 b).2.1 := by decide +kernel
theorem tyJx8e188_ok : ∀ k, k < 0 → parseFieldDescriptor (TJx8e188 k).2.2.1 = some (tyJx8e188 k) := by decide +kernel
def RJ6 : String := "java/lang/Integer"
def TJ6 : u_T := fun k => match k with
  | _ => ("", "", "", false)
def tyJ6 : Nat → FieldType := fun k => match k with
  | _ => .int
abbrev wsJ60 : List Cond := u_ws RJ6 TJ6 0
theorem nmJ6 : ∀ a, a < 0 → ∀ b, b < 0 → a ≠ b → (TJ6 a).2.1 ≠ (TJ6 b).2.1 := by decide +kernel
theorem tyJ6_ok : ∀ k, k < 0 → parseFieldDescriptor (TJ6 k).2.2.1 = some (tyJ6 k) := by decide +kernel
abbrev cJ6_bitCount_0f7a4 : ByteArray := prog_11_method_49_code
def yJ6_bitCount_0f7a4 : MethodName := ⟨RJ6, "bitCount", "(I)I"⟩
def RJ9 : String := "java/lang/Math"
def TJ9 : u_T := fun k => match k with
  | _ => ("", "", "", false)
def tyJ9 : Nat → FieldType := fun k => match k with
  | _ => .int
abbrev wsJ90 : List Cond := u_ws RJ9 TJ9 0
theorem nmJ9 : ∀ a, a < 0 → ∀ b, b < 0 → a ≠ b → (TJ9 a).2.1 ≠ (TJ9 b).2.1 := by decide +kernel
theorem tyJ9_ok : ∀ k, k < 0 → parseFieldDescriptor (TJ9 k).2.2.1 = some (tyJ9 k) := by decide +kernel
abbrev cJ9_max_7cf53 : ByteArray := prog_12_method_65_code
def yJ9_max_7cf53 : MethodName := ⟨RJ9, "max", "(II)I"⟩
abbrev cJ9_min_7cf53 : ByteArray := prog_12_method_69_code
def yJ9_min_7cf53 : MethodName := ⟨RJ9, "min", "(II)I"⟩
def RJ10 : String := "java/lang/System"
def TJ10 : u_T := fun k => match k with
  | _ => ("", "", "", false)
def tyJ10 : Nat → FieldType := fun k => match k with
  | _ => .int
abbrev wsJ100 : List Cond := u_ws RJ10 TJ10 0
theorem nmJ10 : ∀ a, a < 0 → ∀ b, b < 0 → a ≠ b → (TJ10 a).2.1 ≠ (TJ10 b).2.1 := by decide +kernel
theorem tyJ10_ok : ∀ k, k < 0 → parseFieldDescriptor (TJ10 k).2.2.1 = some (tyJ10 k) := by decide +kernel
def RJ7 : String := "java/util/Arrays"
def TJ7 : u_T := fun k => match k with
  | _ => ("", "", "", false)
def tyJ7 : Nat → FieldType := fun k => match k with
  | _ => .int
abbrev wsJ70 : List Cond := u_ws RJ7 TJ7 0
theorem nmJ7 : ∀ a, a < 0 → ∀ b, b < 0 → a ≠ b → (TJ7 a).2.1 ≠ (TJ7 b).2.1 := by decide +kernel
theorem tyJ7_ok : ∀ k, k < 0 → parseFieldDescriptor (TJ7 k).2.2.1 = some (tyJ7 k) := by decide +kernel
abbrev cJ7_fill_53178 : ByteArray := prog_14_method_103_code
def yJ7_fill_53178 : MethodName := ⟨RJ7, "fill", "([II)V"⟩
abbrev cJ7_copyOf_59c91 : ByteArray := prog_14_method_123_code
def yJ7_copyOf_59c91 : MethodName := ⟨RJ7, "copyOf", "([II)[I"⟩
def RL : String := "KnotRingLaw"
abbrev cL_law : ByteArray := code
def yL_law : MethodName := ⟨RL, "law", "([I)Z"⟩
abbrev vwCl : List vw_C := [(RX0, TX0, 16), (RX1, TX1, 9), (RX2, TX2, 4), (RX3, TX3, 16), (RX4, TX4, 15), (RX5, TX5, 3), (RX6, TX6, 7), (RX7, TX7, 21)]
end
section
/-! an abstract machine: ints as whole numbers in range, references as numbers of cells made since the law's entry (0: null), a heap as shapes, references, numbers -/
abbrev AV : Type := Int ⊕ Int ⊕ Nat
abbrev kI (x : Int) : AV := .inl x
abbrev kJ (x : Int) : AV := .inr (.inl x)
abbrev kR (a : Nat) : AV := .inr (.inr a)
abbrev HD : Type := Nat → Int → Int
abbrev HG : Type := Nat × (Nat → Nat × Nat) × (Nat → Int → Nat)
abbrev MI : Type := MethodName × ByteArray × Nat × Option FieldType
abbrev EE : Type := Launch × va_G × (Nat → ClassId) × Nat
abbrev PQ : Type := Option AV → HG → HD → Prop
def kw (x : Int) : Int := (Int32.ofInt x).toInt
def kN (x : Int) : Prop := -2147483648 ≤ x ∧ x ≤ 2147483647
def kNJ (x : Int) : Prop := -9223372036854775808 ≤ x ∧ x ≤ 9223372036854775807
theorem kw_id {x : Int} (h1 : -2147483648 ≤ x) (h2 : x ≤ 2147483647) : kw x = x := Int32.toInt_ofInt_of_le (by omega) (by omega)
theorem kw_N (x : Int) : kN (kw x) := by
  have h1 := Int32.le_toInt (Int32.ofInt x)
  have h2 := Int32.toInt_lt (Int32.ofInt x)
  exact ⟨by unfold kw; omega, by unfold kw; omega⟩
theorem kw_of (x : Int) : Int32.ofInt (kw x) = Int32.ofInt x := Int32.ofInt_toInt _
theorem kT {x : Int} (h : kN x) : (Int32.ofInt x).toInt = x := Int32.toInt_ofInt_of_le (by have := h.1; omega) (by have := h.2; omega)
theorem kTJ {x : Int} (h : kNJ x) : (Int64.ofInt x).toInt = x := Int64.toInt_ofInt_of_le (by have := h.1; omega) (by have := h.2; omega)
theorem kT_N (x : Int32) : kN x.toInt := ⟨by have := Int32.le_toInt x; omega, by have := Int32.toInt_lt x; omega⟩
theorem kT_NJ (x : Int64) : kNJ x.toInt := ⟨by have := Int64.le_toInt x; omega, by have := Int64.toInt_lt x; omega⟩
theorem kN_J {x : Int} (h : kN x) : kNJ x := ⟨by have := h.1; omega, by have := h.2; omega⟩
theorem kT_lt {x y : Int} (hx : kN x) (hy : kN y) : Int32.ofInt x < Int32.ofInt y ↔ x < y := by rw [Int32.lt_iff_toInt_lt, kT hx, kT hy]
theorem kT_le {x y : Int} (hx : kN x) (hy : kN y) : Int32.ofInt x ≤ Int32.ofInt y ↔ x ≤ y := by rw [Int32.le_iff_toInt_le, kT hx, kT hy]
theorem kT_eq {x y : Int} (hx : kN x) (hy : kN y) : Int32.ofInt x = Int32.ofInt y ↔ x = y := by
  rw [← Int32.toInt_inj, kT hx, kT hy]
theorem kT_cl {x : Int} (h : kN x) : (Int32.ofInt x).toNatClampNeg = x.toNat := Int32.toNatClampNeg_ofInt_of_le (by have := h.1; omega) (by have := h.2; omega)
theorem kT_in {x : Int} {n : Nat} (h : kN x) (h0 : 0 ≤ x) (h1 : x < n) : vp_in (Int32.ofInt x) n := by
  intro q
  rcases q with q | q
  · have : Int32.ofInt x < Int32.ofInt 0 := q
    rw [kT_lt h ⟨by omega, by omega⟩] at this
    omega
  · rw [kT_cl h] at q
    omega
def kVN : AV → Prop
  | .inl x => kN x
  | .inr (.inl x) => kNJ x
  | .inr (.inr _) => True
def toV (B : Nat) : AV → Value
  | .inl x => .int (Int32.ofInt x)
  | .inr (.inl x) => .long (Int64.ofInt x)
  | .inr (.inr a) => if a = 0 then .null else .ref (B + a)
theorem toV_i (B : Nat) (x : Int) : toV B (kI x) = .int (Int32.ofInt x) := rfl
theorem toV_j (B : Nat) (x : Int) : toV B (kJ x) = .long (Int64.ofInt x) := rfl
theorem toV_r {B a : Nat} (h : 1 ≤ a) : toV B (kR a) = .ref (B + a) := by
  show (if a = 0 then Value.null else .ref (B + a)) = _
  rw [if_neg (by omega)]
theorem toV_cat (B : Nat) (v : AV) : (toV B v).category = (match v with | .inr (.inl _) => 2 | _ => 1) := by
  rcases v with x | x | a
  · rfl
  · rfl
  · show (if a = 0 then Value.null else .ref (B + a)).category = 1
    by_cases h : a = 0
    · rw [if_pos h]; rfl
    · rw [if_neg h]; rfl
/-- the kinds: 0..7 the classes, 8 int[], 9 boolean[], 10.. arrays of references -/
def kNF (k : Nat) : Nat := match k with
  | 0 => 16
  | 1 => 9
  | 2 => 4
  | 3 => 16
  | 4 => 15
  | 5 => 3
  | 6 => 7
  | _ => 21
def kTy (k i : Nat) : FieldType := match k with
  | 0 => tyX0 i
  | 1 => tyX1 i
  | 2 => tyX2 i
  | 3 => tyX3 i
  | 4 => tyX4 i
  | 5 => tyX5 i
  | 6 => tyX6 i
  | _ => tyX7 i
def kIsR : FieldType → Bool
  | .object _ => true
  | .array _ => true
  | _ => false
def kRf (k i : Nat) : Bool := kIsR (kTy k i)
def kFs (B k : Nat) (r : Nat → Nat) (x : Nat → Int) : List Value := (List.range (kNF k)).map fun i => if kRf k i then toV B (kR (r i)) else toV B (kI (x i))
def kCell (dA : Nat → ClassId) (B : Nat) (sh : Nat × Nat) (r : Nat → Nat) (x : Nat → Int) : va_E :=
  if sh.1 < 8 then .inr (sh.1, kFs B sh.1 r x)
  else if sh.1 < 10 then .inl (dA sh.1, sh.2, .inl (fun i => Int32.ofInt (x i)))
  else .inl (dA sh.1, sh.2, .inr (.inr (.inr (.inr (fun i => if r i = 0 then none else some (B + r i))))))
def kA (B : Nat) : Nat → Prop := fun q => B + 1 ≤ q
def kH (E : EE) (G : HG) (d : HD) (H : Heap) : Prop :=
  (∀ a, 1 ≤ a → a ≤ G.1 → va_at E.2.1 vwCl (E.2.2.2 + a, kCell E.2.2.1 E.2.2.2 (G.2.1 a) (fun i => G.2.2 a i) (fun i => d a i)) H) ∧ H.size = E.2.2.2 + 1 + G.1 ∧ ∀ a i, kN (d a i)
def isO (G : HG) (a k : Nat) : Prop := 1 ≤ a ∧ a ≤ G.1 ∧ (G.2.1 a).1 = k
def isA (G : HG) (a k n : Nat) : Prop := 1 ≤ a ∧ a ≤ G.1 ∧ G.2.1 a = (k, n) ∧ n ≤ 1000000
/-- the tables' words that every method may lean on -/
def gT : List Cond := lw_tbl.filter goodWord
theorem gT_good : GoodIn gT gT := fun w h => ⟨h, good_of_word (List.mem_filter.mp h).2⟩
theorem gT_of {w : Cond} (h : w ∈ tables_1) (g : goodWord w = true) : w ∈ gT := List.mem_filter.mpr ⟨List.mem_append_right _ h, g⟩
def kWS (mi : MI) : List Cond := .code mi.1 mi.2.1 mi.2.2.1 mi.2.2.2 :: gT
def kTys (dA : Nat → ClassId) : List (ClassId × FieldType) := [(dA 8, .int), (dA 9, .boolean), (dA 10, .object RX0), (dA 11, .object RX1), (dA 12, .object RX4), (dA 13, .object RX5)]
def kNestF : List (String × Nat × String × String × String × String) := [("KnotRing$Habit", 22, "KnotRing$Reader", "claims", "I", "KnotRing"), ("KnotRing$Habit", 9, "KnotRing$Reader", "clauses", "I", "KnotRing"), ("KnotRing", 161, "KnotRing$Reader", "clauses", "I", "KnotRing"), ("KnotRing$Habit", 18, "KnotRing$Reader", "subject", "[I", "KnotRing"), ("KnotRing$Habit", 32, "KnotRing$Reader", "relation", "[I", "KnotRing"), ("KnotRing$Habit", 36, "KnotRing$Reader", "number", "[I", "KnotRing"), ("KnotRing$Habit", 40, "KnotRing$Reader", "ifSo", "[I", "KnotRing"), ("KnotRing$Habit", 44, "KnotRing$Reader", "ifNot", "[I", "KnotRing"), ("KnotRing$Habit", 48, "KnotRing$Reader", "sign", "[I", "KnotRing"), ("KnotRing$Habit", 52, "KnotRing$Reader", "digit", "[I", "KnotRing"), ("KnotRing$Habit", 56, "KnotRing$Reader", "change", "[I", "KnotRing"), ("KnotRing$Ring", 146, "KnotRing$Car", "would", "Z", "KnotRing")]
def kNestM : List (String × Nat × MethodName × String) := [("KnotRing", 11, ⟨"KnotRing$Reader", "<init>", "()V"⟩, "KnotRing"), ("KnotRing", 28, ⟨"KnotRing$Knots", "<init>", "()V"⟩, "KnotRing"), ("KnotRing$Ring", 64, ⟨"KnotRing$Car", "<init>", "()V"⟩, "KnotRing"), ("KnotRing", 54, ⟨"KnotRing$Sheet", "<init>", "()V"⟩, "KnotRing")]
def kNw (U : State) : Prop := (∀ q ∈ kNestF, va_Nw (.fieldLinkNest q.1 q.2.1 q.2.2.1 q.2.2.2.1 q.2.2.2.2.1 q.2.2.2.2.2) U) ∧ ∀ q ∈ kNestM, va_Nw (.methodLinkNest q.1 q.2.1 q.2.2.1 q.2.2.2) U
def kK (E : EE) (U : State) : Prop := va_K E.2.1 vwCl (kTys E.2.2.1) U ∧ kNw U ∧ (va_AO RX0 U ∧ va_AO RX1 U ∧ va_AO RX4 U ∧ va_AO RX5 U) ∧ va_Nw (.castable "[I" "java/lang/Cloneable") U
theorem kK.moved {E : EE} {s U : State} (hW : s.WarmedH U.vm) (h : kK E s) : kK E U := by
  obtain ⟨h1, ⟨h2, h3⟩, ⟨h4, h5, h6, h7⟩, h8⟩ := h
  refine ⟨va_K.moved hW.alike h1, ⟨fun q hq => va_Nw.warmF hW (h2 q hq), fun q hq => va_Nw.warmM hW (h3 q hq)⟩, ⟨h4.moved hW.alike, h5.moved hW.alike, h6.moved hW.alike, h7.moved hW.alike⟩, ?_⟩
  exact va_Nw.warmC hW h8
theorem kK.same {E : EE} {u U : State} (h : u.vm = U.vm) (hk : kK E u) : kK E U := by
  obtain ⟨h1, ⟨h2, h3⟩, ⟨h4, h5, h6, h7⟩, h8⟩ := hk
  have ha : u.vm.Alike U.vm := by rw [h]; exact Vm.Alike.refl _
  exact ⟨va_K.moved ha h1, ⟨fun q hq => va_Nw.same rfl h (h2 q hq), fun q hq => va_Nw.same rfl h (h3 q hq)⟩, ⟨h4.moved ha, h5.moved ha, h6.moved ha, h7.moved ha⟩, va_Nw.same rfl h h8⟩
def kCx (E : EE) (mi : MI) (p : Program) (s : State) (m : MethodId) (args : Array Value) (meth : Method) (c : Code) : Prop :=
  p.tables.exec = Jvm.exec ∧ c.code = mi.2.1 ∧ meth.sig.returnType = mi.2.2.2 ∧ c.maxLocals = mi.2.2.1 ∧ s.vm.findClass mi.1.cls = some m.cls ∧ (∀ w ∈ gT, w.before args s = true) ∧ meth.locks = false ∧ meth.name = mi.1.name ∧ kK E s
def kLo (B : Nat) (L : List (Option AV)) (ls : Array Slot) : Prop := ls.size = L.length ∧ lv_wf ls ∧ ∀ (i : Nat) (v : AV), L[i]? = some (some v) → ls[i]? = some (.val (toV B v)) ∧ kVN v
def kQc (E : EE) (Q : PQ) : Array Value → State → Outcome → State → Prop := fun _ st oc t =>
  ∃ (r : Option AV) (G : HG) (d : HD), oc = .returned (r.map (toV E.2.2.2)) ∧ Q r G d ∧ (∀ v, r = some v → kVN v) ∧ kH E G d t.heap ∧ va_F (kA E.2.2.2) st t
def kRm (k bc bs : Nat) : Room := { frames := k, cells := bc, slots := bs, locals := 60 * k }
def AW (E : EE) (mi : MI) (k bc bs pc : Nat) (L : List (Option AV)) (S : List AV) (G : HG) (d : HD) (Q : PQ) : Prop :=
  ∀ (p : Program) (e : Env) (s : State) (m : MethodId) (args : Array Value) (below : List Frame) (meth : Method) (c : Code) (H : Heap) (locs : List Loc) (cells slots mc ms : Nat) (ls : Array Slot),
    kCx E mi p s m args meth c → kH E G d H → va_S (kA E.2.2.2) s.heap H locs → E.2.2.2 + 1 ≤ s.heap.size → kLo E.2.2.2 L ls → L.length = mi.2.2.1 → (∀ v ∈ S, kVN v) → cells + bc ≤ mc → slots + bs ≤ ms →
    W p E.1 e (kRm k mc ms) s m args below meth c H locs cells slots (MQ below (kQc E Q) args s mc ms (kA E.2.2.2)) (F0 m pc ls (S.map (toV E.2.2.2)))
def kPc (E : EE) (av : List AV) (G : HG) (d : HD) : Array Value → State → Prop := fun v U => v = (av.map (toV E.2.2.2)).toArray ∧ kH E G d U.heap ∧ kK E U ∧ (∀ x ∈ av, kVN x)
def AM (E : EE) (mi : MI) (k bc bs : Nat) (av : List AV) (G : HG) (d : HD) (Q : PQ) : Prop :=
  Met E.1 mi.1 (kWS mi) (kRm k bc bs) (kPc E av G d) (kQc E Q) bc bs (kA E.2.2.2)
/-! the entry -/
def kSl : List AV → List (Option AV)
  | [] => []
  | .inr (.inl x) :: r => some (kJ x) :: none :: kSl r
  | v :: r => some v :: kSl r
def kEn (av : List AV) (n : Nat) : List (Option AV) := kSl av ++ List.replicate (n - (kSl av).length) none
theorem kSl_len (B : Nat) : ∀ av : List AV, (kSl av).length = (lg_sl (av.map (toV B))).length
  | [] => rfl
  | .inr (.inl x) :: r => by
    have ih := kSl_len B r
    simp [kSl, lg_sl, toV, Value.category] at ih ⊢
    exact ih
  | .inl x :: r => by
    have ih := kSl_len B r
    simp [kSl, lg_sl, toV, Value.category] at ih ⊢
    exact ih
  | .inr (.inr a) :: r => by
    have ih := kSl_len B r
    have hc : (toV B (kR a)).category = 1 := toV_cat B _
    simp only [kSl, lg_sl, List.map_cons, List.flatMap_cons, hc, List.length_cons] at ih ⊢
    simp at ih ⊢
    omega
theorem kSl_at (B : Nat) : ∀ (av : List AV) (j i : Nat) (v : AV), (∀ x ∈ av, kVN x) → (kSl av)[i]? = some (some v) → (j + i, toV B v) ∈ lv_args j (av.map (toV B)) ∧ kVN v
  | [], j, i, v, _, h => by simp [kSl] at h
  | .inr (.inl x) :: r, j, i, v, hv, h => by
    have hc : (toV B (kJ x)).category = 2 := rfl
    match i, h with
    | 0, h =>
      simp [kSl] at h
      subst h
      exact ⟨by simp [lv_args], hv _ List.mem_cons_self⟩
    | 1, h => simp [kSl] at h
    | i + 2, h =>
      have h' : (kSl r)[i]? = some (some v) := by simpa [kSl] using h
      obtain ⟨g1, g2⟩ := kSl_at B r (j + 2) i v (fun x hx => hv x (List.mem_cons_of_mem _ hx)) h'
      refine ⟨?_, g2⟩
      simp only [List.map_cons, lv_args, hc, if_true]
      have e : j + (i + 2) = j + 2 + i := by omega
      rw [e]
      exact List.mem_cons_of_mem _ g1
  | .inl x :: r, j, i, v, hv, h => by
    have hc : ¬ (toV B (kI x)).category = 2 := fun q => by cases q
    match i, h with
    | 0, h =>
      simp [kSl] at h
      subst h
      exact ⟨by simp [lv_args], hv _ List.mem_cons_self⟩
    | i + 1, h =>
      have h' : (kSl r)[i]? = some (some v) := by simpa [kSl] using h
      obtain ⟨g1, g2⟩ := kSl_at B r (j + 1) i v (fun x hx => hv x (List.mem_cons_of_mem _ hx)) h'
      refine ⟨?_, g2⟩
      simp only [List.map_cons, lv_args, if_neg hc]
      have e : j + (i + 1) = j + 1 + i := by omega
      rw [e]
      exact List.mem_cons_of_mem _ g1
  | .inr (.inr a) :: r, j, i, v, hv, h => by
    have hc : ¬ (toV B (kR a)).category = 2 := fun q => by rw [toV_cat] at q; cases q
    match i, h with
    | 0, h =>
      simp [kSl] at h
      subst h
      exact ⟨by simp [lv_args], hv _ List.mem_cons_self⟩
    | i + 1, h =>
      have h' : (kSl r)[i]? = some (some v) := by simpa [kSl] using h
      obtain ⟨g1, g2⟩ := kSl_at B r (j + 1) i v (fun x hx => hv x (List.mem_cons_of_mem _ hx)) h'
      refine ⟨?_, g2⟩
      simp only [List.map_cons, lv_args, if_neg hc]
      have e : j + (i + 1) = j + 1 + i := by omega
      rw [e]
      exact List.mem_cons_of_mem _ g1
theorem kEn_lo (B : Nat) {av : List AV} {n : Nat} (hv : ∀ x ∈ av, kVN x) (h : (kSl av).length ≤ n) : kLo B (kEn av n) ((lg_sl (av.map (toV B)) ++ List.replicate (n - (lg_sl (av.map (toV B))).length) Slot.unset).toArray) := by
  have hl := lv_entry (av.map (toV B)) (n := n) (by rw [← kSl_len]; exact h)
  refine ⟨by rw [hl.1]; simp [kEn]; omega, hl.2.1, fun i v hi => ?_⟩
  unfold kEn at hi
  by_cases hlt : i < (kSl av).length
  · rw [List.getElem?_append_left hlt] at hi
    obtain ⟨g1, g2⟩ := kSl_at B av 0 i v hv hi
    rw [Nat.zero_add] at g1
    exact ⟨hl.2.2 _ g1, g2⟩
  · rw [List.getElem?_append_right (by omega), List.getElem?_replicate] at hi
    split at hi <;> simp at hi
theorem AM.of {E : EE} {mi : MI} {k bc bs : Nat} {av : List AV} {G : HG} {d : HD} {Q : PQ} (hy : plainName mi.1.cls = true) (hn : (kSl av).length ≤ mi.2.2.1) (K : AW E mi k bc bs 0 (kEn av mi.2.2.1) [] G d Q) : AM E mi k bc bs av G d Q := by
  refine Met.ofW (cc := mi.2.1) (maxL := mi.2.2.1) (ret := mi.2.2.2) hy rfl ?_
  intro p e s m args below meth c s₁ Bd hml hv
  obtain ⟨rfl, hH, hK, hvn⟩ := hv
  have hts := atoms_spec (ws := kWS mi) Bd.pre
  rw [lg_entry_eq]
  exact K p e s m _ below meth c s.heap [] 0 0 bc bs _ ⟨Bd.exec, Bd.bytes, Bd.returns, hml, findClass_of_methodNamed Bd.named, fun w hw => hts w (List.mem_cons_of_mem _ hw), Bd.notSynchronized, (name_of_methodNamed Bd.named Bd.method).1, hK⟩ hH va_S.rf (by rw [hH.2.1]; omega) (kEn_lo _ hvn hn) (by simp [kEn]; omega) (fun v h => by cases h) (by omega) (by omega)
end
section
section RU
variable {E : EE} {mi : MI} {k bc bs pc : Nat} {L : List (Option AV)} {S : List AV} {G : HG} {d : HD} {Q : PQ}
theorem kv1 {v : AV} {S : List AV} (h : kVN v) (hv : ∀ x ∈ S, kVN x) : ∀ x ∈ v :: S, kVN x := List.forall_mem_cons.mpr ⟨h, hv⟩
theorem kvh {v : AV} {S : List AV} (hv : ∀ x ∈ v :: S, kVN x) : kVN v := hv _ List.mem_cons_self
theorem kvt {v : AV} {S : List AV} (hv : ∀ x ∈ v :: S, kVN x) : ∀ x ∈ S, kVN x := fun x h => hv x (List.mem_cons_of_mem _ h)
theorem AW.eqL {L' : List (Option AV)} (e : L = L') (h : AW E mi k bc bs pc L' S G d Q) : AW E mi k bc bs pc L S G d Q := e ▸ h
theorem AW.eqS {S' : List AV} (e : S = S') (h : AW E mi k bc bs pc L S' G d Q) : AW E mi k bc bs pc L S G d Q := e ▸ h
theorem AW.eqd {d' : HD} (e : d = d') (h : AW E mi k bc bs pc L S G d' Q) : AW E mi k bc bs pc L S G d Q := e ▸ h
/-- ints that a frame holds are in range -/
theorem AW.nm {x : Int} (i : Nat) (hl : L[i]? = some (some (kI x))) (h : kN x → AW E mi k bc bs pc L S G d Q) : AW E mi k bc bs pc L S G d Q := by
  intro p e s m args below meth c H locs cells slots mc ms ls C hH hS hB hL hn hv h1 h2
  exact h (hL.2.2 i _ hl).2 p e s m args below meth c H locs cells slots mc ms ls C hH hS hB hL hn hv h1 h2
theorem AW.nmS {x : Int} (h : kN x → AW E mi k bc bs pc L (kI x :: S) G d Q) : AW E mi k bc bs pc L (kI x :: S) G d Q := by
  intro p e s m args below meth c H locs cells slots mc ms ls C hH hS hB hL hn hv h1 h2
  exact h (kvh hv) p e s m args below meth c H locs cells slots mc ms ls C hH hS hB hL hn hv h1 h2
theorem AW.nmd (h : (∀ a i, kN (d a i)) → AW E mi k bc bs pc L S G d Q) : AW E mi k bc bs pc L S G d Q := by
  intro p e s m args below meth c H locs cells slots mc ms ls C hH hS hB hL hn hv h1 h2
  exact h hH.2.2 p e s m args below meth c H locs cells slots mc ms ls C hH hS hB hL hn hv h1 h2
/-- fewer budgets asked -/
theorem AW.more {bc' bs' : Nat} (hc : bc' ≤ bc) (hs : bs' ≤ bs) (h : AW E mi k bc' bs' pc L S G d Q) : AW E mi k bc bs pc L S G d Q := by
  intro p e s m args below meth c H locs cells slots mc ms ls C hH hS hB hL hn hv h1 h2
  exact h p e s m args below meth c H locs cells slots mc ms ls C hH hS hB hL hn hv (by omega) (by omega)
/-- a place that no longer matters -/
def kForget (L L' : List (Option AV)) : Prop := L.length = L'.length ∧ ∀ (i : Nat) (v : AV), L'[i]? = some (some v) → L[i]? = some (some v)
theorem AW.fgt {L' : List (Option AV)} (hf : kForget L L') (h : AW E mi k bc bs pc L' S G d Q) : AW E mi k bc bs pc L S G d Q := by
  intro p e s m args below meth c H locs cells slots mc ms ls C hH hS hB hL hn hv h1 h2
  exact h p e s m args below meth c H locs cells slots mc ms ls C hH hS hB ⟨hL.1.trans hf.1, hL.2.1, fun i v hi => hL.2.2 i v (hf.2 i v hi)⟩ (hf.1 ▸ hn) hv h1 h2
theorem kF0 : kForget [] [] := ⟨rfl, fun i v h => by simp at h⟩
theorem kFk {o : Option AV} {L L' : List (Option AV)} (h : kForget L L') : kForget (o :: L) (o :: L') := ⟨by simp [h.1], fun i v hi => by
  cases i with
  | zero => simpa using hi
  | succ j => simp only [List.getElem?_cons_succ] at hi ⊢; exact h.2 j v hi⟩
theorem kFn {o : Option AV} {L L' : List (Option AV)} (h : kForget L L') : kForget (o :: L) (none :: L') := ⟨by simp [h.1], fun i v hi => by
  cases i with
  | zero => simp at hi
  | succ j => simp only [List.getElem?_cons_succ] at hi ⊢; exact h.2 j v hi⟩
/-! locals -/
def kFull (B : Nat) (L : List (Option AV)) : List (Nat × Value) := (List.range L.length).filterMap fun j => (L[j]?.join).map fun v => (j, toV B v)
theorem kFull_mem {B : Nat} {L : List (Option AV)} {j : Nat} {v : AV} (h : L[j]? = some (some v)) : (j, toV B v) ∈ kFull B L := by
  refine List.mem_filterMap.mpr ⟨j, List.mem_range.mpr (List.getElem?_eq_some_iff.mp h).1, ?_⟩
  simp [h]
theorem kFull_has {B : Nat} {L : List (Option AV)} {ls : Array Slot} (h : kLo B L ls) : lv_has ls L.length (kFull B L) := by
  refine ⟨h.1, h.2.1, fun q hq => ?_⟩
  obtain ⟨j, -, hj⟩ := List.mem_filterMap.mp hq
  cases hx : L[j]? with
  | none => simp [hx] at hj
  | some o =>
    cases o with
    | none => simp [hx] at hj
    | some v =>
      simp [hx] at hj
      subst hj
      exact (h.2.2 j v hx).1
def kNoJ (L : List (Option AV)) (i : Nat) : Bool := match i with
  | 0 => true
  | j + 1 => match L[j]? with
    | some (some (.inr (.inl _))) => false
    | _ => true
theorem kFull_back {B : Nat} {L : List (Option AV)} {ls' : Array Slot} {i : Nat} {v : AV} {lv : List (Nat × Value)} (hlv : ∀ q ∈ kFull B L, q ∈ lv) (h0 : ∀ (j : Nat) (w : AV), L[j]? = some (some w) → kVN w) (hn : kNoJ L i = true) (hi : i < L.length) (hv : kVN v) (h : lv_has ls' L.length ((i, toV B v) :: lv.filter (fun q => !(q.1 == i) && !(q.1 + 1 == i && q.2.category == 2)))) : kLo B (L.set i (some v)) ls' := by
  refine ⟨by rw [h.1]; simp, h.2.1, fun j w hj => ?_⟩
  by_cases hji : j = i
  · subst hji
    rw [List.getElem?_set_self hi] at hj
    cases hj
    exact ⟨h.2.2 _ List.mem_cons_self, hv⟩
  · rw [List.getElem?_set_ne (fun q => hji q.symm)] at hj
    refine ⟨h.2.2 (j, toV B w) (List.mem_cons_of_mem _ (List.mem_filter.mpr ⟨hlv _ (kFull_mem hj), ?_⟩)), h0 j w hj⟩
    have h1 : (j == i) = false := by simp [hji]
    simp only [h1, Bool.not_false, Bool.true_and, Bool.not_eq_true']
    by_cases hk : j + 1 = i
    · subst hk
      simp only [kNoJ, hj] at hn
      rcases w with x | x | a
      · simp [toV_cat]
      · simp at hn
      · simp [toV_cat]
    · simp [hk]

theorem A_iload_n {n : Fin 4} {i : Nat} {x : Int} (hd : decode mi.2.1 pc = .ok (.iload_n n, 1)) (hi : (n : Nat) = i) (hl : L[i]? = some (some (kI x))) (K : AW E mi k bc bs (pc + 1) L (kI x :: S) G d Q) : AW E mi k bc bs pc L S G d Q := by
  intro p e s m args below meth c H locs cells slots mc ms ls C hH hS hB hL hn hv h1 h2
  exact lv_iload_n C.1 C.2.1 hd hi (hL.2.2 i _ hl).1 (K p e s m args below meth c H locs cells slots mc ms ls C hH hS hB hL hn (kv1 (hL.2.2 i _ hl).2 hv) h1 h2)

theorem A_iload {i : Nat} {x : Int} (hd : decode mi.2.1 pc = .ok (.iload i, 2)) (hl : L[i]? = some (some (kI x))) (K : AW E mi k bc bs (pc + 2) L (kI x :: S) G d Q) : AW E mi k bc bs pc L S G d Q := by
  intro p e s m args below meth c H locs cells slots mc ms ls C hH hS hB hL hn hv h1 h2
  exact lv_iload C.1 C.2.1 hd (hL.2.2 i _ hl).1 (K p e s m args below meth c H locs cells slots mc ms ls C hH hS hB hL hn (kv1 (hL.2.2 i _ hl).2 hv) h1 h2)

theorem A_lload_n {n : Fin 4} {i : Nat} {x : Int} (hd : decode mi.2.1 pc = .ok (.lload_n n, 1)) (hi : (n : Nat) = i) (hl : L[i]? = some (some (kJ x))) (K : AW E mi k bc bs (pc + 1) L (kJ x :: S) G d Q) : AW E mi k bc bs pc L S G d Q := by
  intro p e s m args below meth c H locs cells slots mc ms ls C hH hS hB hL hn hv h1 h2
  exact lv_lload_n C.1 C.2.1 hd hi (hL.2.2 i _ hl).1 (K p e s m args below meth c H locs cells slots mc ms ls C hH hS hB hL hn (kv1 (hL.2.2 i _ hl).2 hv) h1 h2)

theorem A_lload {i : Nat} {x : Int} (hd : decode mi.2.1 pc = .ok (.lload i, 2)) (hl : L[i]? = some (some (kJ x))) (K : AW E mi k bc bs (pc + 2) L (kJ x :: S) G d Q) : AW E mi k bc bs pc L S G d Q := by
  intro p e s m args below meth c H locs cells slots mc ms ls C hH hS hB hL hn hv h1 h2
  exact lv_lload C.1 C.2.1 hd (hL.2.2 i _ hl).1 (K p e s m args below meth c H locs cells slots mc ms ls C hH hS hB hL hn (kv1 (hL.2.2 i _ hl).2 hv) h1 h2)

theorem A_aload_n {n : Fin 4} {i : Nat} {x : Nat} (hd : decode mi.2.1 pc = .ok (.aload_n n, 1)) (hi : (n : Nat) = i) (hl : L[i]? = some (some (kR x))) (K : AW E mi k bc bs (pc + 1) L (kR x :: S) G d Q) : AW E mi k bc bs pc L S G d Q := by
  intro p e s m args below meth c H locs cells slots mc ms ls C hH hS hB hL hn hv h1 h2
  have K' := (K p e s m args below meth c H locs cells slots mc ms ls C hH hS hB hL hn (kv1 (hL.2.2 i _ hl).2 hv) h1 h2)
  have hl' := (hL.2.2 i _ hl).1
  by_cases h : x = 0
  · subst h
    exact lv_aload_nN C.1 C.2.1 hd hi hl' K'
  · have e : toV E.2.2.2 (kR x) = .ref (E.2.2.2 + x) := toV_r (by omega)
    rw [List.map_cons, e] at K'
    rw [e] at hl'
    exact lv_aload_n C.1 C.2.1 hd hi hl' K'

theorem A_aload {i : Nat} {x : Nat} (hd : decode mi.2.1 pc = .ok (.aload i, 2)) (hl : L[i]? = some (some (kR x))) (K : AW E mi k bc bs (pc + 2) L (kR x :: S) G d Q) : AW E mi k bc bs pc L S G d Q := by
  intro p e s m args below meth c H locs cells slots mc ms ls C hH hS hB hL hn hv h1 h2
  have K' := (K p e s m args below meth c H locs cells slots mc ms ls C hH hS hB hL hn (kv1 (hL.2.2 i _ hl).2 hv) h1 h2)
  have hl' := (hL.2.2 i _ hl).1
  by_cases h : x = 0
  · subst h
    exact lv_aloadN C.1 C.2.1 hd hl' K'
  · have e : toV E.2.2.2 (kR x) = .ref (E.2.2.2 + x) := toV_r (by omega)
    rw [List.map_cons, e] at K'
    rw [e] at hl'
    exact lv_aload C.1 C.2.1 hd hl' K'

theorem A_istore_n {n : Fin 4} {i : Nat} {x : Int} (hd : decode mi.2.1 pc = .ok (.istore_n n, 1)) (hi : (n : Nat) = i) (hlt : i < L.length) (hj : kNoJ L i = true) (K : AW E mi k bc bs (pc + 1) (L.set i (some (kI x))) S G d Q) : AW E mi k bc bs pc L (kI x :: S) G d Q := by
  intro p e s m args below meth c H locs cells slots mc ms ls C hH hS hB hL hn hv h1 h2
  refine lv_istore_n C.1 C.2.1 hd hi (kFull_has hL) hlt rfl (fun ls' h' => ?_)
  exact K p e s m args below meth c H locs cells slots mc ms ls' C hH hS hB (kFull_back (v := kI x) (fun q h => h) (fun j w h => (hL.2.2 j w h).2) hj hlt (kvh hv) h') (by rw [List.length_set]; exact hn) (kvt hv) h1 h2

theorem A_astore_n {n : Fin 4} {i : Nat} {x : Nat} (hd : decode mi.2.1 pc = .ok (.astore_n n, 1)) (hi : (n : Nat) = i) (hlt : i < L.length) (hj : kNoJ L i = true) (hx : 1 ≤ x) (K : AW E mi k bc bs (pc + 1) (L.set i (some (kR x))) S G d Q) : AW E mi k bc bs pc L (kR x :: S) G d Q := by
  intro p e s m args below meth c H locs cells slots mc ms ls C hH hS hB hL hn hv h1 h2
  have eV : toV E.2.2.2 (kR x) = .ref (E.2.2.2 + x) := toV_r hx
  rw [List.map_cons, eV]
  refine lv_astore_n C.1 C.2.1 hd hi (kFull_has hL) hlt rfl (fun ls' h' => ?_)
  rw [← eV] at h'
  exact K p e s m args below meth c H locs cells slots mc ms ls' C hH hS hB (kFull_back (v := kR x) (fun q h => h) (fun j w h => (hL.2.2 j w h).2) hj hlt (kvh hv) h') (by rw [List.length_set]; exact hn) (kvt hv) h1 h2

theorem A_istore {i : Nat} {x : Int} (hd : decode mi.2.1 pc = .ok (.istore i, 2)) (hlt : i < L.length) (hj : kNoJ L i = true) (K : AW E mi k bc bs (pc + 2) (L.set i (some (kI x))) S G d Q) : AW E mi k bc bs pc L (kI x :: S) G d Q := by
  intro p e s m args below meth c H locs cells slots mc ms ls C hH hS hB hL hn hv h1 h2
  refine lv_istore C.1 C.2.1 hd (kFull_has hL) hlt rfl (fun ls' h' => ?_)
  exact K p e s m args below meth c H locs cells slots mc ms ls' C hH hS hB (kFull_back (v := kI x) (fun q h => h) (fun j w h => (hL.2.2 j w h).2) hj hlt (kvh hv) h') (by rw [List.length_set]; exact hn) (kvt hv) h1 h2

theorem A_astore {i : Nat} {x : Nat} (hd : decode mi.2.1 pc = .ok (.astore i, 2)) (hlt : i < L.length) (hj : kNoJ L i = true) (hx : 1 ≤ x) (K : AW E mi k bc bs (pc + 2) (L.set i (some (kR x))) S G d Q) : AW E mi k bc bs pc L (kR x :: S) G d Q := by
  intro p e s m args below meth c H locs cells slots mc ms ls C hH hS hB hL hn hv h1 h2
  have eV : toV E.2.2.2 (kR x) = .ref (E.2.2.2 + x) := toV_r hx
  rw [List.map_cons, eV]
  refine lv_astore C.1 C.2.1 hd (kFull_has hL) hlt rfl (fun ls' h' => ?_)
  rw [← eV] at h'
  exact K p e s m args below meth c H locs cells slots mc ms ls' C hH hS hB (kFull_back (v := kR x) (fun q h => h) (fun j w h => (hL.2.2 j w h).2) hj hlt (kvh hv) h') (by rw [List.length_set]; exact hn) (kvt hv) h1 h2

theorem A_iinc {i : Nat} {n x : Int} (hd : decode mi.2.1 pc = .ok (.iinc i n, 3)) (hl : L[i]? = some (some (kI x))) (hj : kNoJ L i = true) (K : AW E mi k bc bs (pc + 3) (L.set i (some (kI (kw (x + n))))) S G d Q) : AW E mi k bc bs pc L S G d Q := by
  intro p e s m args below meth c H locs cells slots mc ms ls C hH hS hB hL hn hv h1 h2
  have hlt := (List.getElem?_eq_some_iff.mp hl).1
  have hf := kFull_has hL
  have hf' : lv_has ls L.length ((i, Value.int (Int32.ofInt x)) :: kFull E.2.2.2 L) := ⟨hf.1, hf.2.1, List.forall_mem_cons.mpr ⟨(hL.2.2 i _ hl).1, hf.2.2⟩⟩
  refine lv_iinc (k := 0) (v := Int32.ofInt (kw (x + n))) C.1 C.2.1 hd hf' rfl (by rw [kw_of, Int32.ofInt_add]) hlt rfl (fun ls' h' => ?_)
  exact K p e s m args below meth c H locs cells slots mc ms ls' C hH hS hB (kFull_back (v := kI (kw (x + n))) (fun q h => List.mem_cons_of_mem _ h) (fun j w h => (hL.2.2 j w h).2) hj hlt (kw_N _) h') (by rw [List.length_set]; exact hn) hv h1 h2

theorem A_iconst {n : Int} (hd : decode mi.2.1 pc = .ok (.iconst n, 1)) (hN : kN n) (K : AW E mi k bc bs (pc + 1) L (kI n :: S) G d Q) : AW E mi k bc bs pc L S G d Q := by
  intro p e s m args below meth c H locs cells slots mc ms ls C hH hS hB hL hn hv h1 h2
  exact lv_iconst C.1 C.2.1 hd rfl (K p e s m args below meth c H locs cells slots mc ms ls C hH hS hB hL hn (kv1 hN hv) h1 h2)

theorem A_bipush {n : Int} (hd : decode mi.2.1 pc = .ok (.bipush n, 2)) (hN : kN n) (he : (Int8.ofInt n).toInt32 = Int32.ofInt n) (K : AW E mi k bc bs (pc + 2) L (kI n :: S) G d Q) : AW E mi k bc bs pc L S G d Q := by
  intro p e s m args below meth c H locs cells slots mc ms ls C hH hS hB hL hn hv h1 h2
  exact lv_bipush C.1 C.2.1 hd he (K p e s m args below meth c H locs cells slots mc ms ls C hH hS hB hL hn (kv1 hN hv) h1 h2)

theorem A_sipush {n : Int} (hd : decode mi.2.1 pc = .ok (.sipush n, 3)) (hN : kN n) (he : (Int16.ofInt n).toInt32 = Int32.ofInt n) (K : AW E mi k bc bs (pc + 3) L (kI n :: S) G d Q) : AW E mi k bc bs pc L S G d Q := by
  intro p e s m args below meth c H locs cells slots mc ms ls C hH hS hB hL hn hv h1 h2
  exact lv_sipush C.1 C.2.1 hd he (K p e s m args below meth c H locs cells slots mc ms ls C hH hS hB hL hn (kv1 hN hv) h1 h2)

theorem A_lconst {n : Fin 2} {x : Int} (hd : decode mi.2.1 pc = .ok (.lconst n, 1)) (hN : kNJ x) (he : Int64.ofNat (n : Nat) = Int64.ofInt x) (K : AW E mi k bc bs (pc + 1) L (kJ x :: S) G d Q) : AW E mi k bc bs pc L S G d Q := by
  intro p e s m args below meth c H locs cells slots mc ms ls C hH hS hB hL hn hv h1 h2
  exact lv_lconst C.1 C.2.1 hd he (K p e s m args below meth c H locs cells slots mc ms ls C hH hS hB hL hn (kv1 hN hv) h1 h2)

theorem A_ldc {i : Nat} {x : Int} {v : Int32} (hd : decode mi.2.1 pc = .ok (.ldc i, 2)) (hw : Cond.constant mi.1.cls i v ∈ gT) (he : v = Int32.ofInt x) (hN : kN x) (K : AW E mi k bc bs (pc + 2) L (kI x :: S) G d Q) : AW E mi k bc bs pc L S G d Q := by
  intro p e s m args below meth c H locs cells slots mc ms ls C hH hS hB hL hn hv h1 h2
  subst he
  exact lv_ldc C.1 C.2.1 C.2.2.2.2.1 (C.2.2.2.2.2.1 _ hw) hd (K p e s m args below meth c H locs cells slots mc ms ls C hH hS hB hL hn (kv1 hN hv) h1 h2)

theorem A_ldcw {i : Nat} {x : Int} {v : Int32} (hd : decode mi.2.1 pc = .ok (.ldc_w i, 3)) (hw : Cond.constant mi.1.cls i v ∈ gT) (he : v = Int32.ofInt x) (hN : kN x) (K : AW E mi k bc bs (pc + 3) L (kI x :: S) G d Q) : AW E mi k bc bs pc L S G d Q := by
  intro p e s m args below meth c H locs cells slots mc ms ls C hH hS hB hL hn hv h1 h2
  subst he
  exact lv_ldcw C.1 C.2.1 C.2.2.2.2.1 (C.2.2.2.2.2.1 _ hw) hd (K p e s m args below meth c H locs cells slots mc ms ls C hH hS hB hL hn (kv1 hN hv) h1 h2)

theorem A_ldc2 {i : Nat} {x : Int} {v : Int64} (hd : decode mi.2.1 pc = .ok (.ldc2_w i, 3)) (hw : Cond.constantLong mi.1.cls i v ∈ gT) (he : v = Int64.ofInt x) (hN : kNJ x) (K : AW E mi k bc bs (pc + 3) L (kJ x :: S) G d Q) : AW E mi k bc bs pc L S G d Q := by
  intro p e s m args below meth c H locs cells slots mc ms ls C hH hS hB hL hn hv h1 h2
  subst he
  exact lv_ldc2 C.1 C.2.1 C.2.2.2.2.1 (C.2.2.2.2.2.1 _ hw) hd (K p e s m args below meth c H locs cells slots mc ms ls C hH hS hB hL hn (kv1 hN hv) h1 h2)

theorem A_iadd {x y : Int} (hd : decode mi.2.1 pc = .ok (.iadd, 1)) (K : AW E mi k bc bs (pc + 1) L (kI (kw (x + y)) :: S) G d Q) : AW E mi k bc bs pc L (kI y :: kI x :: S) G d Q := by
  intro p e s m args below meth c H locs cells slots mc ms ls C hH hS hB hL hn hv h1 h2
  have K' := (K p e s m args below meth c H locs cells slots mc ms ls C hH hS hB hL hn (kv1 (kw_N _) (kvt (kvt hv))) h1 h2)
  rw [List.map_cons, toV_i, kw_of, Int32.ofInt_add] at K'
  exact lv_iadd C.1 C.2.1 hd K'

theorem A_isub {x y : Int} (hd : decode mi.2.1 pc = .ok (.isub, 1)) (K : AW E mi k bc bs (pc + 1) L (kI (kw (x - y)) :: S) G d Q) : AW E mi k bc bs pc L (kI y :: kI x :: S) G d Q := by
  intro p e s m args below meth c H locs cells slots mc ms ls C hH hS hB hL hn hv h1 h2
  have K' := (K p e s m args below meth c H locs cells slots mc ms ls C hH hS hB hL hn (kv1 (kw_N _) (kvt (kvt hv))) h1 h2)
  rw [List.map_cons, toV_i, kw_of, Int32.ofInt_sub] at K'
  exact lv_isub C.1 C.2.1 hd K'

theorem A_imul {x y : Int} (hd : decode mi.2.1 pc = .ok (.imul, 1)) (K : AW E mi k bc bs (pc + 1) L (kI (kw (x * y)) :: S) G d Q) : AW E mi k bc bs pc L (kI y :: kI x :: S) G d Q := by
  intro p e s m args below meth c H locs cells slots mc ms ls C hH hS hB hL hn hv h1 h2
  have K' := (K p e s m args below meth c H locs cells slots mc ms ls C hH hS hB hL hn (kv1 (kw_N _) (kvt (kvt hv))) h1 h2)
  rw [List.map_cons, toV_i, kw_of, Int32.ofInt_mul] at K'
  exact lv_imul C.1 C.2.1 hd K'

theorem A_ineg {x : Int} (hd : decode mi.2.1 pc = .ok (.ineg, 1)) (K : AW E mi k bc bs (pc + 1) L (kI (kw (-x)) :: S) G d Q) : AW E mi k bc bs pc L (kI x :: S) G d Q := by
  intro p e s m args below meth c H locs cells slots mc ms ls C hH hS hB hL hn hv h1 h2
  have K' := (K p e s m args below meth c H locs cells slots mc ms ls C hH hS hB hL hn (kv1 (kw_N _) (kvt hv)) h1 h2)
  rw [List.map_cons, toV_i, kw_of, Int32.ofInt_neg] at K'
  exact lv_ineg C.1 C.2.1 hd K'

def kDiv (x y : Int) : Int := (Int32.ofInt x / Int32.ofInt y).toInt
def kRem (x y : Int) : Int := (Int32.ofInt x - Int32.ofInt x / Int32.ofInt y * Int32.ofInt y).toInt
def kAnd (x y : Int) : Int := (Int32.ofInt x &&& Int32.ofInt y).toInt
def kXor (x y : Int) : Int := (Int32.ofInt x ^^^ Int32.ofInt y).toInt
def kShl (x y : Int) : Int := (Int32.ofInt x <<< (Int32.ofInt y &&& 31)).toInt
def kShr (x y : Int) : Int := (Int32.ofInt x >>> (Int32.ofInt y &&& 31)).toInt
def kUshr (x y : Int) : Int := ((Int32.ofInt x).toUInt32 >>> ((Int32.ofInt y).toUInt32 &&& Int32.toUInt32 31)).toInt32.toInt
def kByte (x : Int) : Int := (Int32.ofInt x).toInt8.toInt32.toInt
def kL2i (x : Int) : Int := (Int64.ofInt x).toInt32.toInt
def kLand (x y : Int) : Int := (Int64.ofInt x &&& Int64.ofInt y).toInt
def kLadd (x y : Int) : Int := (Int64.ofInt x + Int64.ofInt y).toInt
def kLor (x y : Int) : Int := (Int64.ofInt x ||| Int64.ofInt y).toInt
def kLushr (x y : Int) : Int := ((Int64.ofInt x).toUInt64 >>> ((Int32.ofInt y).toInt64.toUInt64 &&& Int64.toUInt64 63)).toInt64.toInt
def kLshr (x y : Int) : Int := (Int64.ofInt x >>> ((Int32.ofInt y).toInt64 &&& 63)).toInt
def kLshl (x y : Int) : Int := (Int64.ofInt x <<< ((Int32.ofInt y).toInt64 &&& 63)).toInt

theorem A_idiv {x y : Int} (hd : decode mi.2.1 pc = .ok (.idiv, 1)) (hy : y ≠ 0) (K : AW E mi k bc bs (pc + 1) L (kI (kDiv x y) :: S) G d Q) : AW E mi k bc bs pc L (kI y :: kI x :: S) G d Q := by
  intro p e s m args below meth c H locs cells slots mc ms ls C hH hS hB hL hn hv h1 h2
  have K' := (K p e s m args below meth c H locs cells slots mc ms ls C hH hS hB hL hn (kv1 (kT_N _) (kvt (kvt hv))) h1 h2)
  rw [List.map_cons, toV_i, kDiv, Int32.ofInt_toInt] at K'
  refine lv_idiv C.1 C.2.1 hd (fun q => hy ?_) K'
  exact (kT_eq (kvh hv) (⟨by omega, by omega⟩ : kN 0)).mp q

theorem A_irem {x y : Int} (hd : decode mi.2.1 pc = .ok (.irem, 1)) (hy : y ≠ 0) (K : AW E mi k bc bs (pc + 1) L (kI (kRem x y) :: S) G d Q) : AW E mi k bc bs pc L (kI y :: kI x :: S) G d Q := by
  intro p e s m args below meth c H locs cells slots mc ms ls C hH hS hB hL hn hv h1 h2
  have K' := (K p e s m args below meth c H locs cells slots mc ms ls C hH hS hB hL hn (kv1 (kT_N _) (kvt (kvt hv))) h1 h2)
  rw [List.map_cons, toV_i, kRem, Int32.ofInt_toInt] at K'
  refine lv_irem C.1 C.2.1 hd (fun q => hy ?_) K'
  exact (kT_eq (kvh hv) (⟨by omega, by omega⟩ : kN 0)).mp q

theorem A_iand {x y : Int} (hd : decode mi.2.1 pc = .ok (.iand, 1)) (K : AW E mi k bc bs (pc + 1) L (kI (kAnd x y) :: S) G d Q) : AW E mi k bc bs pc L (kI y :: kI x :: S) G d Q := by
  intro p e s m args below meth c H locs cells slots mc ms ls C hH hS hB hL hn hv h1 h2
  have K' := (K p e s m args below meth c H locs cells slots mc ms ls C hH hS hB hL hn (kv1 (kT_N _) (kvt (kvt hv))) h1 h2)
  rw [List.map_cons, toV_i, kAnd, Int32.ofInt_toInt] at K'
  exact lv_iand C.1 C.2.1 hd K'

theorem A_ixor {x y : Int} (hd : decode mi.2.1 pc = .ok (.ixor, 1)) (K : AW E mi k bc bs (pc + 1) L (kI (kXor x y) :: S) G d Q) : AW E mi k bc bs pc L (kI y :: kI x :: S) G d Q := by
  intro p e s m args below meth c H locs cells slots mc ms ls C hH hS hB hL hn hv h1 h2
  have K' := (K p e s m args below meth c H locs cells slots mc ms ls C hH hS hB hL hn (kv1 (kT_N _) (kvt (kvt hv))) h1 h2)
  rw [List.map_cons, toV_i, kXor, Int32.ofInt_toInt] at K'
  exact lv_ixor C.1 C.2.1 hd K'

theorem A_ishl {x y : Int} (hd : decode mi.2.1 pc = .ok (.ishl, 1)) (K : AW E mi k bc bs (pc + 1) L (kI (kShl x y) :: S) G d Q) : AW E mi k bc bs pc L (kI y :: kI x :: S) G d Q := by
  intro p e s m args below meth c H locs cells slots mc ms ls C hH hS hB hL hn hv h1 h2
  have K' := (K p e s m args below meth c H locs cells slots mc ms ls C hH hS hB hL hn (kv1 (kT_N _) (kvt (kvt hv))) h1 h2)
  rw [List.map_cons, toV_i, kShl, Int32.ofInt_toInt] at K'
  exact lv_ishl C.1 C.2.1 hd K'

theorem A_ishr {x y : Int} (hd : decode mi.2.1 pc = .ok (.ishr, 1)) (K : AW E mi k bc bs (pc + 1) L (kI (kShr x y) :: S) G d Q) : AW E mi k bc bs pc L (kI y :: kI x :: S) G d Q := by
  intro p e s m args below meth c H locs cells slots mc ms ls C hH hS hB hL hn hv h1 h2
  have K' := (K p e s m args below meth c H locs cells slots mc ms ls C hH hS hB hL hn (kv1 (kT_N _) (kvt (kvt hv))) h1 h2)
  rw [List.map_cons, toV_i, kShr, Int32.ofInt_toInt] at K'
  exact lv_ishr C.1 C.2.1 hd K'

theorem A_iushr {x y : Int} (hd : decode mi.2.1 pc = .ok (.iushr, 1)) (K : AW E mi k bc bs (pc + 1) L (kI (kUshr x y) :: S) G d Q) : AW E mi k bc bs pc L (kI y :: kI x :: S) G d Q := by
  intro p e s m args below meth c H locs cells slots mc ms ls C hH hS hB hL hn hv h1 h2
  have K' := (K p e s m args below meth c H locs cells slots mc ms ls C hH hS hB hL hn (kv1 (kT_N _) (kvt (kvt hv))) h1 h2)
  rw [List.map_cons, toV_i, kUshr, Int32.ofInt_toInt] at K'
  exact lv_iushr C.1 C.2.1 hd rfl K'

theorem A_i2b {x : Int} (hd : decode mi.2.1 pc = .ok (.i2b, 1)) (K : AW E mi k bc bs (pc + 1) L (kI (kByte x) :: S) G d Q) : AW E mi k bc bs pc L (kI x :: S) G d Q := by
  intro p e s m args below meth c H locs cells slots mc ms ls C hH hS hB hL hn hv h1 h2
  have K' := (K p e s m args below meth c H locs cells slots mc ms ls C hH hS hB hL hn (kv1 (kT_N _) (kvt hv)) h1 h2)
  rw [List.map_cons, toV_i, kByte, Int32.ofInt_toInt] at K'
  exact lv_i2b C.1 C.2.1 hd rfl K'

theorem A_i2l {x : Int} (hd : decode mi.2.1 pc = .ok (.i2l, 1)) (K : AW E mi k bc bs (pc + 1) L (kJ x :: S) G d Q) : AW E mi k bc bs pc L (kI x :: S) G d Q := by
  intro p e s m args below meth c H locs cells slots mc ms ls C hH hS hB hL hn hv h1 h2
  have hx : kN x := kvh hv
  have K' := (K p e s m args below meth c H locs cells slots mc ms ls C hH hS hB hL hn (kv1 (v := kJ x) (kN_J hx) (kvt hv)) h1 h2)
  refine lv_i2l C.1 C.2.1 hd ?_ K'
  rw [← Int64.toInt_inj, Int32.toInt_toInt64, kT hx, kTJ (kN_J hx)]

theorem A_l2i {x : Int} (hd : decode mi.2.1 pc = .ok (.l2i, 1)) (K : AW E mi k bc bs (pc + 1) L (kI (kL2i x) :: S) G d Q) : AW E mi k bc bs pc L (kJ x :: S) G d Q := by
  intro p e s m args below meth c H locs cells slots mc ms ls C hH hS hB hL hn hv h1 h2
  have K' := (K p e s m args below meth c H locs cells slots mc ms ls C hH hS hB hL hn (kv1 (kT_N _) (kvt hv)) h1 h2)
  rw [List.map_cons, toV_i, kL2i, Int32.ofInt_toInt] at K'
  exact lv_l2i C.1 C.2.1 hd rfl K'

theorem A_land {x y : Int} (hd : decode mi.2.1 pc = .ok (.land, 1)) (K : AW E mi k bc bs (pc + 1) L (kJ (kLand x y) :: S) G d Q) : AW E mi k bc bs pc L (kJ y :: kJ x :: S) G d Q := by
  intro p e s m args below meth c H locs cells slots mc ms ls C hH hS hB hL hn hv h1 h2
  have K' := (K p e s m args below meth c H locs cells slots mc ms ls C hH hS hB hL hn (kv1 (kT_NJ _) (kvt (kvt hv))) h1 h2)
  rw [List.map_cons, toV_j, kLand, Int64.ofInt_toInt] at K'
  exact lv_land C.1 C.2.1 hd K'

theorem A_ladd {x y : Int} (hd : decode mi.2.1 pc = .ok (.ladd, 1)) (K : AW E mi k bc bs (pc + 1) L (kJ (kLadd x y) :: S) G d Q) : AW E mi k bc bs pc L (kJ y :: kJ x :: S) G d Q := by
  intro p e s m args below meth c H locs cells slots mc ms ls C hH hS hB hL hn hv h1 h2
  have K' := (K p e s m args below meth c H locs cells slots mc ms ls C hH hS hB hL hn (kv1 (kT_NJ _) (kvt (kvt hv))) h1 h2)
  rw [List.map_cons, toV_j, kLadd, Int64.ofInt_toInt] at K'
  exact lv_ladd C.1 C.2.1 hd K'

theorem A_lor {x y : Int} (hd : decode mi.2.1 pc = .ok (.lor, 1)) (K : AW E mi k bc bs (pc + 1) L (kJ (kLor x y) :: S) G d Q) : AW E mi k bc bs pc L (kJ y :: kJ x :: S) G d Q := by
  intro p e s m args below meth c H locs cells slots mc ms ls C hH hS hB hL hn hv h1 h2
  have K' := (K p e s m args below meth c H locs cells slots mc ms ls C hH hS hB hL hn (kv1 (kT_NJ _) (kvt (kvt hv))) h1 h2)
  rw [List.map_cons, toV_j, kLor, Int64.ofInt_toInt] at K'
  exact lv_lor C.1 C.2.1 hd K'

theorem A_lushr {x y : Int} (hd : decode mi.2.1 pc = .ok (.lushr, 1)) (K : AW E mi k bc bs (pc + 1) L (kJ (kLushr x y) :: S) G d Q) : AW E mi k bc bs pc L (kI y :: kJ x :: S) G d Q := by
  intro p e s m args below meth c H locs cells slots mc ms ls C hH hS hB hL hn hv h1 h2
  have K' := (K p e s m args below meth c H locs cells slots mc ms ls C hH hS hB hL hn (kv1 (kT_NJ _) (kvt (kvt hv))) h1 h2)
  rw [List.map_cons, toV_j, kLushr, Int64.ofInt_toInt] at K'
  exact lv_lushr C.1 C.2.1 hd rfl K'

theorem A_lshr {x y : Int} (hd : decode mi.2.1 pc = .ok (.lshr, 1)) (K : AW E mi k bc bs (pc + 1) L (kJ (kLshr x y) :: S) G d Q) : AW E mi k bc bs pc L (kI y :: kJ x :: S) G d Q := by
  intro p e s m args below meth c H locs cells slots mc ms ls C hH hS hB hL hn hv h1 h2
  have K' := (K p e s m args below meth c H locs cells slots mc ms ls C hH hS hB hL hn (kv1 (kT_NJ _) (kvt (kvt hv))) h1 h2)
  rw [List.map_cons, toV_j, kLshr, Int64.ofInt_toInt] at K'
  exact lv_lshr C.1 C.2.1 hd rfl K'

theorem A_lshl {x y : Int} (hd : decode mi.2.1 pc = .ok (.lshl, 1)) (K : AW E mi k bc bs (pc + 1) L (kJ (kLshl x y) :: S) G d Q) : AW E mi k bc bs pc L (kI y :: kJ x :: S) G d Q := by
  intro p e s m args below meth c H locs cells slots mc ms ls C hH hS hB hL hn hv h1 h2
  have K' := (K p e s m args below meth c H locs cells slots mc ms ls C hH hS hB hL hn (kv1 (kT_NJ _) (kvt (kvt hv))) h1 h2)
  rw [List.map_cons, toV_j, kLshl, Int64.ofInt_toInt] at K'
  exact lv_lshl C.1 C.2.1 hd rfl K'

theorem A_lcmp {x y : Int} (hd : decode mi.2.1 pc = .ok (.lcmp, 1)) (K : AW E mi k bc bs (pc + 1) L (kI (if x < y then -1 else if x = y then 0 else 1) :: S) G d Q) : AW E mi k bc bs pc L (kJ y :: kJ x :: S) G d Q := by
  intro p e s m args below meth c H locs cells slots mc ms ls C hH hS hB hL hn hv h1 h2
  have hy : kNJ y := kvh hv
  have hx : kNJ x := kvh (kvt hv)
  have hN : kN (if x < y then -1 else if x = y then 0 else 1) := by
    split
    · exact ⟨by omega, by omega⟩
    · split <;> exact ⟨by omega, by omega⟩
  have K' := (K p e s m args below meth c H locs cells slots mc ms ls C hH hS hB hL hn (kv1 hN (kvt (kvt hv))) h1 h2)
  have e : lg_cmp (Int64.ofInt x) (Int64.ofInt y) = Int32.ofInt (if x < y then -1 else if x = y then 0 else 1) := by
    have a1 : (Int64.ofInt y < Int64.ofInt x) ↔ y < x := by rw [Int64.lt_iff_toInt_lt, kTJ hx, kTJ hy]
    have a2 : Int64.ofInt x = Int64.ofInt y ↔ x = y := by rw [← Int64.toInt_inj, kTJ hx, kTJ hy]
    rcases Int.lt_trichotomy x y with h | h | h
    · have b1 : ¬ y < x := by omega
      have b2 : ¬ x = y := by omega
      simp only [lg_cmp, a1, a2, b1, b2, h, if_true, if_false]
      try rfl
    · subst h
      simp [lg_cmp]
    · have b1 : ¬ x < y := by omega
      have b2 : ¬ x = y := by omega
      simp only [lg_cmp, a1, a2, b1, b2, h, if_true, if_false]
      try rfl
  rw [List.map_cons, toV_i, ← e] at K'
  exact W.lcmp C.1 C.2.1 hd K'

theorem A_dup {v : AV} (hd : decode mi.2.1 pc = .ok (.dup, 1)) (hc : ∀ B, (toV B v).category = 1) (K : AW E mi k bc bs (pc + 1) L (v :: v :: S) G d Q) : AW E mi k bc bs pc L (v :: S) G d Q := by
  intro p e s m args below meth c H locs cells slots mc ms ls C hH hS hB hL hn hv h1 h2
  exact lv_dup C.1 C.2.1 hd (hc _) (K p e s m args below meth c H locs cells slots mc ms ls C hH hS hB hL hn (kv1 (kvh hv) hv) h1 h2)

theorem A_pop {v : AV} (hd : decode mi.2.1 pc = .ok (.pop, 1)) (hc : ∀ B, (toV B v).category = 1) (K : AW E mi k bc bs (pc + 1) L S G d Q) : AW E mi k bc bs pc L (v :: S) G d Q := by
  intro p e s m args below meth c H locs cells slots mc ms ls C hH hS hB hL hn hv h1 h2
  exact lv_pop C.1 C.2.1 hd (hc _) (K p e s m args below meth c H locs cells slots mc ms ls C hH hS hB hL hn (kvt hv) h1 h2)

theorem A_dup_x1 {u v : AV} (hd : decode mi.2.1 pc = .ok (.dup_x1, 1)) (hc : ∀ B, (toV B u).category = 1) (hc2 : ∀ B, (toV B v).category = 1) (K : AW E mi k bc bs (pc + 1) L (u :: v :: u :: S) G d Q) : AW E mi k bc bs pc L (u :: v :: S) G d Q := by
  intro p e s m args below meth c H locs cells slots mc ms ls C hH hS hB hL hn hv h1 h2
  exact lv_dup_x1 C.1 C.2.1 hd (hc _) (hc2 _) (K p e s m args below meth c H locs cells slots mc ms ls C hH hS hB hL hn (kv1 (kvh hv) (kv1 (kvh (kvt hv)) (kv1 (kvh hv) (kvt (kvt hv))))) h1 h2)

theorem A_dup2 {u v : AV} (hd : decode mi.2.1 pc = .ok (.dup2, 1)) (hc : ∀ B, (toV B u).category = 1) (hc2 : ∀ B, (toV B v).category = 1) (K : AW E mi k bc bs (pc + 1) L (u :: v :: u :: v :: S) G d Q) : AW E mi k bc bs pc L (u :: v :: S) G d Q := by
  intro p e s m args below meth c H locs cells slots mc ms ls C hH hS hB hL hn hv h1 h2
  exact lv_dup2_11 C.1 C.2.1 hd (hc _) (hc2 _) (K p e s m args below meth c H locs cells slots mc ms ls C hH hS hB hL hn (kv1 (kvh hv) (kv1 (kvh (kvt hv)) hv)) h1 h2)

theorem A_icmp_eq {x y off : Int} {tgt : Nat} (hd : decode mi.2.1 pc = .ok (.if_icmp .eq off, 3)) (ht : (pc : Int) + off = (tgt : Int)) (kt : x = y → AW E mi k bc bs tgt L S G d Q) (kf : x ≠ y → AW E mi k bc bs (pc + 3) L S G d Q) : AW E mi k bc bs pc L (kI y :: kI x :: S) G d Q := by
  intro p e s m args below meth c H locs cells slots mc ms ls C hH hS hB hL hn hv h1 h2
  have hx : kN x := (kvh (kvt hv))
  have hy : kN y := (kvh hv)
  have eL := kT_lt hx hy
  have eG := kT_lt hy hx
  have eE := kT_eq hx hy
  have eT : tgt < 2 ^ 64 ∨ True := Or.inr trivial
  refine lv_icmp_eq C.1 C.2.1 hd ht (fun q => kt ?_ p e s m args below meth c H locs cells slots mc ms ls C hH hS hB hL hn (kvt (kvt hv)) h1 h2) (fun q => kf ?_ p e s m args below meth c H locs cells slots mc ms ls C hH hS hB hL hn (kvt (kvt hv)) h1 h2)
  · first | exact eE.mp q | exact fun r => q (eE.mpr r) | exact eL.mp q | exact eG.mp q | exact Int.not_lt.mp (fun r => (Int32.not_lt.mpr q) (eL.mpr r)) | exact Int.not_lt.mp (fun r => (Int32.not_lt.mpr q) (eG.mpr r)) | exact Int.not_lt.mp (fun r => q (eL.mpr r)) | exact Int.not_lt.mp (fun r => q (eG.mpr r))
  · first | exact eE.mp q | exact fun r => q (eE.mpr r) | exact eE.mp (Classical.not_not.mp q) | exact eL.mp q | exact eG.mp q | exact Int.not_lt.mp (fun r => q (eL.mpr r)) | exact Int.not_lt.mp (fun r => q (eG.mpr r)) | exact eL.mp (Int32.not_le.mp q) | exact eG.mp (Int32.not_le.mp q) | exact Int.not_lt.mp (fun r => (Int32.not_lt.mpr q) (eL.mpr r)) | exact Int.not_lt.mp (fun r => (Int32.not_lt.mpr q) (eG.mpr r))

theorem A_if_eq {x off : Int} {tgt : Nat} (hd : decode mi.2.1 pc = .ok (.ifCond .eq off, 3)) (ht : (pc : Int) + off = (tgt : Int)) (kt : x = 0 → AW E mi k bc bs tgt L S G d Q) (kf : x ≠ 0 → AW E mi k bc bs (pc + 3) L S G d Q) : AW E mi k bc bs pc L (kI x :: S) G d Q := by
  intro p e s m args below meth c H locs cells slots mc ms ls C hH hS hB hL hn hv h1 h2
  have hx : kN x := (kvh hv)
  have hy : kN 0 := (⟨by omega, by omega⟩ : kN 0)
  have eL := kT_lt hx hy
  have eG := kT_lt hy hx
  have eE := kT_eq hx hy
  have eT : tgt < 2 ^ 64 ∨ True := Or.inr trivial
  refine lv_if_eq C.1 C.2.1 hd ht (fun q => kt ?_ p e s m args below meth c H locs cells slots mc ms ls C hH hS hB hL hn (kvt hv) h1 h2) (fun q => kf ?_ p e s m args below meth c H locs cells slots mc ms ls C hH hS hB hL hn (kvt hv) h1 h2)
  · first | exact eE.mp q | exact fun r => q (eE.mpr r) | exact eL.mp q | exact eG.mp q | exact Int.not_lt.mp (fun r => (Int32.not_lt.mpr q) (eL.mpr r)) | exact Int.not_lt.mp (fun r => (Int32.not_lt.mpr q) (eG.mpr r)) | exact Int.not_lt.mp (fun r => q (eL.mpr r)) | exact Int.not_lt.mp (fun r => q (eG.mpr r))
  · first | exact eE.mp q | exact fun r => q (eE.mpr r) | exact eE.mp (Classical.not_not.mp q) | exact eL.mp q | exact eG.mp q | exact Int.not_lt.mp (fun r => q (eL.mpr r)) | exact Int.not_lt.mp (fun r => q (eG.mpr r)) | exact eL.mp (Int32.not_le.mp q) | exact eG.mp (Int32.not_le.mp q) | exact Int.not_lt.mp (fun r => (Int32.not_lt.mpr q) (eL.mpr r)) | exact Int.not_lt.mp (fun r => (Int32.not_lt.mpr q) (eG.mpr r))

theorem A_icmp_ne {x y off : Int} {tgt : Nat} (hd : decode mi.2.1 pc = .ok (.if_icmp .ne off, 3)) (ht : (pc : Int) + off = (tgt : Int)) (kt : x ≠ y → AW E mi k bc bs tgt L S G d Q) (kf : x = y → AW E mi k bc bs (pc + 3) L S G d Q) : AW E mi k bc bs pc L (kI y :: kI x :: S) G d Q := by
  intro p e s m args below meth c H locs cells slots mc ms ls C hH hS hB hL hn hv h1 h2
  have hx : kN x := (kvh (kvt hv))
  have hy : kN y := (kvh hv)
  have eL := kT_lt hx hy
  have eG := kT_lt hy hx
  have eE := kT_eq hx hy
  have eT : tgt < 2 ^ 64 ∨ True := Or.inr trivial
  refine lv_icmp_ne C.1 C.2.1 hd ht (fun q => kt ?_ p e s m args below meth c H locs cells slots mc ms ls C hH hS hB hL hn (kvt (kvt hv)) h1 h2) (fun q => kf ?_ p e s m args below meth c H locs cells slots mc ms ls C hH hS hB hL hn (kvt (kvt hv)) h1 h2)
  · first | exact eE.mp q | exact fun r => q (eE.mpr r) | exact eL.mp q | exact eG.mp q | exact Int.not_lt.mp (fun r => (Int32.not_lt.mpr q) (eL.mpr r)) | exact Int.not_lt.mp (fun r => (Int32.not_lt.mpr q) (eG.mpr r)) | exact Int.not_lt.mp (fun r => q (eL.mpr r)) | exact Int.not_lt.mp (fun r => q (eG.mpr r))
  · first | exact eE.mp q | exact fun r => q (eE.mpr r) | exact eE.mp (Classical.not_not.mp q) | exact eL.mp q | exact eG.mp q | exact Int.not_lt.mp (fun r => q (eL.mpr r)) | exact Int.not_lt.mp (fun r => q (eG.mpr r)) | exact eL.mp (Int32.not_le.mp q) | exact eG.mp (Int32.not_le.mp q) | exact Int.not_lt.mp (fun r => (Int32.not_lt.mpr q) (eL.mpr r)) | exact Int.not_lt.mp (fun r => (Int32.not_lt.mpr q) (eG.mpr r))

theorem A_if_ne {x off : Int} {tgt : Nat} (hd : decode mi.2.1 pc = .ok (.ifCond .ne off, 3)) (ht : (pc : Int) + off = (tgt : Int)) (kt : x ≠ 0 → AW E mi k bc bs tgt L S G d Q) (kf : x = 0 → AW E mi k bc bs (pc + 3) L S G d Q) : AW E mi k bc bs pc L (kI x :: S) G d Q := by
  intro p e s m args below meth c H locs cells slots mc ms ls C hH hS hB hL hn hv h1 h2
  have hx : kN x := (kvh hv)
  have hy : kN 0 := (⟨by omega, by omega⟩ : kN 0)
  have eL := kT_lt hx hy
  have eG := kT_lt hy hx
  have eE := kT_eq hx hy
  have eT : tgt < 2 ^ 64 ∨ True := Or.inr trivial
  refine lv_if_ne C.1 C.2.1 hd ht (fun q => kt ?_ p e s m args below meth c H locs cells slots mc ms ls C hH hS hB hL hn (kvt hv) h1 h2) (fun q => kf ?_ p e s m args below meth c H locs cells slots mc ms ls C hH hS hB hL hn (kvt hv) h1 h2)
  · first | exact eE.mp q | exact fun r => q (eE.mpr r) | exact eL.mp q | exact eG.mp q | exact Int.not_lt.mp (fun r => (Int32.not_lt.mpr q) (eL.mpr r)) | exact Int.not_lt.mp (fun r => (Int32.not_lt.mpr q) (eG.mpr r)) | exact Int.not_lt.mp (fun r => q (eL.mpr r)) | exact Int.not_lt.mp (fun r => q (eG.mpr r))
  · first | exact eE.mp q | exact fun r => q (eE.mpr r) | exact eE.mp (Classical.not_not.mp q) | exact eL.mp q | exact eG.mp q | exact Int.not_lt.mp (fun r => q (eL.mpr r)) | exact Int.not_lt.mp (fun r => q (eG.mpr r)) | exact eL.mp (Int32.not_le.mp q) | exact eG.mp (Int32.not_le.mp q) | exact Int.not_lt.mp (fun r => (Int32.not_lt.mpr q) (eL.mpr r)) | exact Int.not_lt.mp (fun r => (Int32.not_lt.mpr q) (eG.mpr r))

theorem A_icmp_lt {x y off : Int} {tgt : Nat} (hd : decode mi.2.1 pc = .ok (.if_icmp .lt off, 3)) (ht : (pc : Int) + off = (tgt : Int)) (kt : x < y → AW E mi k bc bs tgt L S G d Q) (kf : y ≤ x → AW E mi k bc bs (pc + 3) L S G d Q) : AW E mi k bc bs pc L (kI y :: kI x :: S) G d Q := by
  intro p e s m args below meth c H locs cells slots mc ms ls C hH hS hB hL hn hv h1 h2
  have hx : kN x := (kvh (kvt hv))
  have hy : kN y := (kvh hv)
  have eL := kT_lt hx hy
  have eG := kT_lt hy hx
  have eE := kT_eq hx hy
  have eT : tgt < 2 ^ 64 ∨ True := Or.inr trivial
  refine lv_icmp_lt C.1 C.2.1 hd ht (fun q => kt ?_ p e s m args below meth c H locs cells slots mc ms ls C hH hS hB hL hn (kvt (kvt hv)) h1 h2) (fun q => kf ?_ p e s m args below meth c H locs cells slots mc ms ls C hH hS hB hL hn (kvt (kvt hv)) h1 h2)
  · first | exact eE.mp q | exact fun r => q (eE.mpr r) | exact eL.mp q | exact eG.mp q | exact Int.not_lt.mp (fun r => (Int32.not_lt.mpr q) (eL.mpr r)) | exact Int.not_lt.mp (fun r => (Int32.not_lt.mpr q) (eG.mpr r)) | exact Int.not_lt.mp (fun r => q (eL.mpr r)) | exact Int.not_lt.mp (fun r => q (eG.mpr r))
  · first | exact eE.mp q | exact fun r => q (eE.mpr r) | exact eE.mp (Classical.not_not.mp q) | exact eL.mp q | exact eG.mp q | exact Int.not_lt.mp (fun r => q (eL.mpr r)) | exact Int.not_lt.mp (fun r => q (eG.mpr r)) | exact eL.mp (Int32.not_le.mp q) | exact eG.mp (Int32.not_le.mp q) | exact Int.not_lt.mp (fun r => (Int32.not_lt.mpr q) (eL.mpr r)) | exact Int.not_lt.mp (fun r => (Int32.not_lt.mpr q) (eG.mpr r))

theorem A_if_lt {x off : Int} {tgt : Nat} (hd : decode mi.2.1 pc = .ok (.ifCond .lt off, 3)) (ht : (pc : Int) + off = (tgt : Int)) (kt : x < 0 → AW E mi k bc bs tgt L S G d Q) (kf : 0 ≤ x → AW E mi k bc bs (pc + 3) L S G d Q) : AW E mi k bc bs pc L (kI x :: S) G d Q := by
  intro p e s m args below meth c H locs cells slots mc ms ls C hH hS hB hL hn hv h1 h2
  have hx : kN x := (kvh hv)
  have hy : kN 0 := (⟨by omega, by omega⟩ : kN 0)
  have eL := kT_lt hx hy
  have eG := kT_lt hy hx
  have eE := kT_eq hx hy
  have eT : tgt < 2 ^ 64 ∨ True := Or.inr trivial
  refine lv_if_lt C.1 C.2.1 hd ht (fun q => kt ?_ p e s m args below meth c H locs cells slots mc ms ls C hH hS hB hL hn (kvt hv) h1 h2) (fun q => kf ?_ p e s m args below meth c H locs cells slots mc ms ls C hH hS hB hL hn (kvt hv) h1 h2)
  · first | exact eE.mp q | exact fun r => q (eE.mpr r) | exact eL.mp q | exact eG.mp q | exact Int.not_lt.mp (fun r => (Int32.not_lt.mpr q) (eL.mpr r)) | exact Int.not_lt.mp (fun r => (Int32.not_lt.mpr q) (eG.mpr r)) | exact Int.not_lt.mp (fun r => q (eL.mpr r)) | exact Int.not_lt.mp (fun r => q (eG.mpr r))
  · first | exact eE.mp q | exact fun r => q (eE.mpr r) | exact eE.mp (Classical.not_not.mp q) | exact eL.mp q | exact eG.mp q | exact Int.not_lt.mp (fun r => q (eL.mpr r)) | exact Int.not_lt.mp (fun r => q (eG.mpr r)) | exact eL.mp (Int32.not_le.mp q) | exact eG.mp (Int32.not_le.mp q) | exact Int.not_lt.mp (fun r => (Int32.not_lt.mpr q) (eL.mpr r)) | exact Int.not_lt.mp (fun r => (Int32.not_lt.mpr q) (eG.mpr r))

theorem A_icmp_ge {x y off : Int} {tgt : Nat} (hd : decode mi.2.1 pc = .ok (.if_icmp .ge off, 3)) (ht : (pc : Int) + off = (tgt : Int)) (kt : y ≤ x → AW E mi k bc bs tgt L S G d Q) (kf : x < y → AW E mi k bc bs (pc + 3) L S G d Q) : AW E mi k bc bs pc L (kI y :: kI x :: S) G d Q := by
  intro p e s m args below meth c H locs cells slots mc ms ls C hH hS hB hL hn hv h1 h2
  have hx : kN x := (kvh (kvt hv))
  have hy : kN y := (kvh hv)
  have eL := kT_lt hx hy
  have eG := kT_lt hy hx
  have eE := kT_eq hx hy
  have eT : tgt < 2 ^ 64 ∨ True := Or.inr trivial
  refine lv_icmp_ge C.1 C.2.1 hd ht (fun q => kt ?_ p e s m args below meth c H locs cells slots mc ms ls C hH hS hB hL hn (kvt (kvt hv)) h1 h2) (fun q => kf ?_ p e s m args below meth c H locs cells slots mc ms ls C hH hS hB hL hn (kvt (kvt hv)) h1 h2)
  · first | exact eE.mp q | exact fun r => q (eE.mpr r) | exact eL.mp q | exact eG.mp q | exact Int.not_lt.mp (fun r => (Int32.not_lt.mpr q) (eL.mpr r)) | exact Int.not_lt.mp (fun r => (Int32.not_lt.mpr q) (eG.mpr r)) | exact Int.not_lt.mp (fun r => q (eL.mpr r)) | exact Int.not_lt.mp (fun r => q (eG.mpr r))
  · first | exact eE.mp q | exact fun r => q (eE.mpr r) | exact eE.mp (Classical.not_not.mp q) | exact eL.mp q | exact eG.mp q | exact Int.not_lt.mp (fun r => q (eL.mpr r)) | exact Int.not_lt.mp (fun r => q (eG.mpr r)) | exact eL.mp (Int32.not_le.mp q) | exact eG.mp (Int32.not_le.mp q) | exact Int.not_lt.mp (fun r => (Int32.not_lt.mpr q) (eL.mpr r)) | exact Int.not_lt.mp (fun r => (Int32.not_lt.mpr q) (eG.mpr r))

theorem A_if_ge {x off : Int} {tgt : Nat} (hd : decode mi.2.1 pc = .ok (.ifCond .ge off, 3)) (ht : (pc : Int) + off = (tgt : Int)) (kt : 0 ≤ x → AW E mi k bc bs tgt L S G d Q) (kf : x < 0 → AW E mi k bc bs (pc + 3) L S G d Q) : AW E mi k bc bs pc L (kI x :: S) G d Q := by
  intro p e s m args below meth c H locs cells slots mc ms ls C hH hS hB hL hn hv h1 h2
  have hx : kN x := (kvh hv)
  have hy : kN 0 := (⟨by omega, by omega⟩ : kN 0)
  have eL := kT_lt hx hy
  have eG := kT_lt hy hx
  have eE := kT_eq hx hy
  have eT : tgt < 2 ^ 64 ∨ True := Or.inr trivial
  refine lv_if_ge C.1 C.2.1 hd ht (fun q => kt ?_ p e s m args below meth c H locs cells slots mc ms ls C hH hS hB hL hn (kvt hv) h1 h2) (fun q => kf ?_ p e s m args below meth c H locs cells slots mc ms ls C hH hS hB hL hn (kvt hv) h1 h2)
  · first | exact eE.mp q | exact fun r => q (eE.mpr r) | exact eL.mp q | exact eG.mp q | exact Int.not_lt.mp (fun r => (Int32.not_lt.mpr q) (eL.mpr r)) | exact Int.not_lt.mp (fun r => (Int32.not_lt.mpr q) (eG.mpr r)) | exact Int.not_lt.mp (fun r => q (eL.mpr r)) | exact Int.not_lt.mp (fun r => q (eG.mpr r))
  · first | exact eE.mp q | exact fun r => q (eE.mpr r) | exact eE.mp (Classical.not_not.mp q) | exact eL.mp q | exact eG.mp q | exact Int.not_lt.mp (fun r => q (eL.mpr r)) | exact Int.not_lt.mp (fun r => q (eG.mpr r)) | exact eL.mp (Int32.not_le.mp q) | exact eG.mp (Int32.not_le.mp q) | exact Int.not_lt.mp (fun r => (Int32.not_lt.mpr q) (eL.mpr r)) | exact Int.not_lt.mp (fun r => (Int32.not_lt.mpr q) (eG.mpr r))

theorem A_icmp_gt {x y off : Int} {tgt : Nat} (hd : decode mi.2.1 pc = .ok (.if_icmp .gt off, 3)) (ht : (pc : Int) + off = (tgt : Int)) (kt : y < x → AW E mi k bc bs tgt L S G d Q) (kf : x ≤ y → AW E mi k bc bs (pc + 3) L S G d Q) : AW E mi k bc bs pc L (kI y :: kI x :: S) G d Q := by
  intro p e s m args below meth c H locs cells slots mc ms ls C hH hS hB hL hn hv h1 h2
  have hx : kN x := (kvh (kvt hv))
  have hy : kN y := (kvh hv)
  have eL := kT_lt hx hy
  have eG := kT_lt hy hx
  have eE := kT_eq hx hy
  have eT : tgt < 2 ^ 64 ∨ True := Or.inr trivial
  refine lv_icmp_gt C.1 C.2.1 hd ht (fun q => kt ?_ p e s m args below meth c H locs cells slots mc ms ls C hH hS hB hL hn (kvt (kvt hv)) h1 h2) (fun q => kf ?_ p e s m args below meth c H locs cells slots mc ms ls C hH hS hB hL hn (kvt (kvt hv)) h1 h2)
  · first | exact eE.mp q | exact fun r => q (eE.mpr r) | exact eL.mp q | exact eG.mp q | exact Int.not_lt.mp (fun r => (Int32.not_lt.mpr q) (eL.mpr r)) | exact Int.not_lt.mp (fun r => (Int32.not_lt.mpr q) (eG.mpr r)) | exact Int.not_lt.mp (fun r => q (eL.mpr r)) | exact Int.not_lt.mp (fun r => q (eG.mpr r))
  · first | exact eE.mp q | exact fun r => q (eE.mpr r) | exact eE.mp (Classical.not_not.mp q) | exact eL.mp q | exact eG.mp q | exact Int.not_lt.mp (fun r => q (eL.mpr r)) | exact Int.not_lt.mp (fun r => q (eG.mpr r)) | exact eL.mp (Int32.not_le.mp q) | exact eG.mp (Int32.not_le.mp q) | exact Int.not_lt.mp (fun r => (Int32.not_lt.mpr q) (eL.mpr r)) | exact Int.not_lt.mp (fun r => (Int32.not_lt.mpr q) (eG.mpr r))

theorem A_if_gt {x off : Int} {tgt : Nat} (hd : decode mi.2.1 pc = .ok (.ifCond .gt off, 3)) (ht : (pc : Int) + off = (tgt : Int)) (kt : 0 < x → AW E mi k bc bs tgt L S G d Q) (kf : x ≤ 0 → AW E mi k bc bs (pc + 3) L S G d Q) : AW E mi k bc bs pc L (kI x :: S) G d Q := by
  intro p e s m args below meth c H locs cells slots mc ms ls C hH hS hB hL hn hv h1 h2
  have hx : kN x := (kvh hv)
  have hy : kN 0 := (⟨by omega, by omega⟩ : kN 0)
  have eL := kT_lt hx hy
  have eG := kT_lt hy hx
  have eE := kT_eq hx hy
  have eT : tgt < 2 ^ 64 ∨ True := Or.inr trivial
  refine lv_if_gt C.1 C.2.1 hd ht (fun q => kt ?_ p e s m args below meth c H locs cells slots mc ms ls C hH hS hB hL hn (kvt hv) h1 h2) (fun q => kf ?_ p e s m args below meth c H locs cells slots mc ms ls C hH hS hB hL hn (kvt hv) h1 h2)
  · first | exact eE.mp q | exact fun r => q (eE.mpr r) | exact eL.mp q | exact eG.mp q | exact Int.not_lt.mp (fun r => (Int32.not_lt.mpr q) (eL.mpr r)) | exact Int.not_lt.mp (fun r => (Int32.not_lt.mpr q) (eG.mpr r)) | exact Int.not_lt.mp (fun r => q (eL.mpr r)) | exact Int.not_lt.mp (fun r => q (eG.mpr r))
  · first | exact eE.mp q | exact fun r => q (eE.mpr r) | exact eE.mp (Classical.not_not.mp q) | exact eL.mp q | exact eG.mp q | exact Int.not_lt.mp (fun r => q (eL.mpr r)) | exact Int.not_lt.mp (fun r => q (eG.mpr r)) | exact eL.mp (Int32.not_le.mp q) | exact eG.mp (Int32.not_le.mp q) | exact Int.not_lt.mp (fun r => (Int32.not_lt.mpr q) (eL.mpr r)) | exact Int.not_lt.mp (fun r => (Int32.not_lt.mpr q) (eG.mpr r))

theorem A_icmp_le {x y off : Int} {tgt : Nat} (hd : decode mi.2.1 pc = .ok (.if_icmp .le off, 3)) (ht : (pc : Int) + off = (tgt : Int)) (kt : x ≤ y → AW E mi k bc bs tgt L S G d Q) (kf : y < x → AW E mi k bc bs (pc + 3) L S G d Q) : AW E mi k bc bs pc L (kI y :: kI x :: S) G d Q := by
  intro p e s m args below meth c H locs cells slots mc ms ls C hH hS hB hL hn hv h1 h2
  have hx : kN x := (kvh (kvt hv))
  have hy : kN y := (kvh hv)
  have eL := kT_lt hx hy
  have eG := kT_lt hy hx
  have eE := kT_eq hx hy
  have eT : tgt < 2 ^ 64 ∨ True := Or.inr trivial
  refine lv_icmp_le C.1 C.2.1 hd ht (fun q => kt ?_ p e s m args below meth c H locs cells slots mc ms ls C hH hS hB hL hn (kvt (kvt hv)) h1 h2) (fun q => kf ?_ p e s m args below meth c H locs cells slots mc ms ls C hH hS hB hL hn (kvt (kvt hv)) h1 h2)
  · first | exact eE.mp q | exact fun r => q (eE.mpr r) | exact eL.mp q | exact eG.mp q | exact Int.not_lt.mp (fun r => (Int32.not_lt.mpr q) (eL.mpr r)) | exact Int.not_lt.mp (fun r => (Int32.not_lt.mpr q) (eG.mpr r)) | exact Int.not_lt.mp (fun r => q (eL.mpr r)) | exact Int.not_lt.mp (fun r => q (eG.mpr r))
  · first | exact eE.mp q | exact fun r => q (eE.mpr r) | exact eE.mp (Classical.not_not.mp q) | exact eL.mp q | exact eG.mp q | exact Int.not_lt.mp (fun r => q (eL.mpr r)) | exact Int.not_lt.mp (fun r => q (eG.mpr r)) | exact eL.mp (Int32.not_le.mp q) | exact eG.mp (Int32.not_le.mp q) | exact Int.not_lt.mp (fun r => (Int32.not_lt.mpr q) (eL.mpr r)) | exact Int.not_lt.mp (fun r => (Int32.not_lt.mpr q) (eG.mpr r))

theorem A_if_le {x off : Int} {tgt : Nat} (hd : decode mi.2.1 pc = .ok (.ifCond .le off, 3)) (ht : (pc : Int) + off = (tgt : Int)) (kt : x ≤ 0 → AW E mi k bc bs tgt L S G d Q) (kf : 0 < x → AW E mi k bc bs (pc + 3) L S G d Q) : AW E mi k bc bs pc L (kI x :: S) G d Q := by
  intro p e s m args below meth c H locs cells slots mc ms ls C hH hS hB hL hn hv h1 h2
  have hx : kN x := (kvh hv)
  have hy : kN 0 := (⟨by omega, by omega⟩ : kN 0)
  have eL := kT_lt hx hy
  have eG := kT_lt hy hx
  have eE := kT_eq hx hy
  have eT : tgt < 2 ^ 64 ∨ True := Or.inr trivial
  refine lv_if_le C.1 C.2.1 hd ht (fun q => kt ?_ p e s m args below meth c H locs cells slots mc ms ls C hH hS hB hL hn (kvt hv) h1 h2) (fun q => kf ?_ p e s m args below meth c H locs cells slots mc ms ls C hH hS hB hL hn (kvt hv) h1 h2)
  · first | exact eE.mp q | exact fun r => q (eE.mpr r) | exact eL.mp q | exact eG.mp q | exact Int.not_lt.mp (fun r => (Int32.not_lt.mpr q) (eL.mpr r)) | exact Int.not_lt.mp (fun r => (Int32.not_lt.mpr q) (eG.mpr r)) | exact Int.not_lt.mp (fun r => q (eL.mpr r)) | exact Int.not_lt.mp (fun r => q (eG.mpr r))
  · first | exact eE.mp q | exact fun r => q (eE.mpr r) | exact eE.mp (Classical.not_not.mp q) | exact eL.mp q | exact eG.mp q | exact Int.not_lt.mp (fun r => q (eL.mpr r)) | exact Int.not_lt.mp (fun r => q (eG.mpr r)) | exact eL.mp (Int32.not_le.mp q) | exact eG.mp (Int32.not_le.mp q) | exact Int.not_lt.mp (fun r => (Int32.not_lt.mpr q) (eL.mpr r)) | exact Int.not_lt.mp (fun r => (Int32.not_lt.mpr q) (eG.mpr r))

theorem A_goto {off : Int} {tgt : Nat} (hd : decode mi.2.1 pc = .ok (.goto off, 3)) (ht : (pc : Int) + off = (tgt : Int)) (K : AW E mi k bc bs tgt L S G d Q) : AW E mi k bc bs pc L S G d Q := by
  intro p e s m args below meth c H locs cells slots mc ms ls C hH hS hB hL hn hv h1 h2
  exact lv_goto C.1 C.2.1 hd ht (K p e s m args below meth c H locs cells slots mc ms ls C hH hS hB hL hn hv h1 h2)

theorem kQc_ret {s : State} {args : Array Value} {H : Heap} {locs : List Loc} {r : Option AV} (hq : Q r G d) (hr : ∀ v, r = some v → kVN v) (hH : kH E G d H) (hS : va_S (kA E.2.2.2) s.heap H locs) : ∀ t : State, t.heap = H → s.WarmedH t.vm → kQc E Q args s (.returned (r.map (toV E.2.2.2))) t :=
  fun t ht _ => ⟨r, G, d, rfl, hq, hr, by rw [ht]; exact hH, hS.F ht⟩

theorem A_iret {x : Int} (hd : decode mi.2.1 pc = .ok (.ireturn, 1)) (hr : mi.2.2.2 = some .int) (hq : Q (some (kI x)) G d) : AW E mi k bc bs pc L [kI x] G d Q := by
  intro p e s m args below meth c H locs cells slots mc ms ls C hH hS hB hL hn hv h1 h2
  refine W.widen (k := mc) (n := ms) (by omega) (by omega) ?_
  exact W.iret C.1 C.2.1 (C.2.2.1.trans hr) (kQc_ret (r := some (kI x)) hq (fun v h => by cases h; exact kvh hv) hH hS) hS.2.2 hd (hlocks := C.2.2.2.2.2.2.1)

theorem A_zret {x : Int} (hd : decode mi.2.1 pc = .ok (.ireturn, 1)) (hr : mi.2.2.2 = some .boolean) (hx : x = 0 ∨ x = 1) (hq : Q (some (kI x)) G d) : AW E mi k bc bs pc L [kI x] G d Q := by
  intro p e s m args below meth c H locs cells slots mc ms ls C hH hS hB hL hn hv h1 h2
  refine W.widen (k := mc) (n := ms) (by omega) (by omega) ?_
  exact W.zret C.1 C.2.1 (C.2.2.1.trans hr) (by rcases hx with rfl | rfl <;> rfl) (kQc_ret (r := some (kI x)) hq (fun v h => by cases h; exact kvh hv) hH hS) hS.2.2 hd (hlocks := C.2.2.2.2.2.2.1)

theorem A_vret  (hd : decode mi.2.1 pc = .ok (.return_, 1)) (hr : mi.2.2.2 = none) (hq : Q none G d) : AW E mi k bc bs pc L [] G d Q := by
  intro p e s m args below meth c H locs cells slots mc ms ls C hH hS hB hL hn hv h1 h2
  refine W.widen (k := mc) (n := ms) (by omega) (by omega) ?_
  exact W.vret C.1 C.2.1 (C.2.2.1.trans hr) (kQc_ret (r := none) hq (fun v h => by cases h) hH hS) hS.2.2 hd (hlocks := C.2.2.2.2.2.2.1)

theorem A_aret {a : Nat} {ty : FieldType} (hd : decode mi.2.1 pc = .ok (.areturn, 1)) (hr : mi.2.2.2 = some (.array ty)) (ha : 1 ≤ a) (hq : Q (some (kR a)) G d) : AW E mi k bc bs pc L [kR a] G d Q := by
  intro p e s m args below meth c H locs cells slots mc ms ls C hH hS hB hL hn hv h1 h2
  refine W.widen (k := mc) (n := ms) (by omega) (by omega) ?_
  exact W.aret C.1 C.2.1 (C.2.2.1.trans hr) (Or.inr ⟨_, rfl⟩) (Or.inr ⟨_, toV_r ha⟩) (kQc_ret (r := some (kR a)) hq (fun v h => by cases h; exact kvh hv) hH hS) hS.2.2 hd (hlocks := C.2.2.2.2.2.2.1)

end RU
end
section
section HP
variable {E : EE} {mi : MI} {k bc bs pc : Nat} {L : List (Option AV)} {S : List AV} {G : HG} {d : HD} {Q : PQ}
def kCl (ci : Nat) (C : String) (T : u_T) : Prop := vwCl[ci]? = some (C, T, kNF ci) ∧ (∀ w ∈ u_ws C T (kNF ci), w ∈ gT) ∧ (∀ j, j < kNF ci → parseFieldDescriptor (T j).2.2.1 = some (kTy ci j)) ∧ (∀ a, a < kNF ci → ∀ b, b < kNF ci → a ≠ b → (T a).2.1 ≠ (T b).2.1) ∧ (∀ j, j < kNF ci → (T j).1 = C) ∧ ci < 8
def kFL (own : String) (idx ci f : Nat) (fin : Bool) : Prop := ∃ (C : String) (T : u_T), kCl ci C T ∧ f < kNF ci ∧ (T f).2.2.2 = fin ∧ (fin = true → own = C) ∧ ((Cond.fieldLink own idx C (T f).2.1 (T f).2.2.1 ∈ gT) ∨ (fin = false ∨ fin = true) ∧ (own, idx, C, (T f).2.1, (T f).2.2.1, "KnotRing") ∈ kNestF)
def kFG (own : String) (idx ci f : Nat) : Prop := ∃ (C : String) (T : u_T), kCl ci C T ∧ f < kNF ci ∧ ((Cond.fieldLink own idx C (T f).2.1 (T f).2.2.1 ∈ gT) ∨ (own, idx, C, (T f).2.1, (T f).2.2.1, "KnotRing") ∈ kNestF)
theorem kFs_at {B ci f : Nat} {r : Nat → Nat} {x : Nat → Int} (hf : f < kNF ci) : (kFs B ci r x)[f]? = some (if kRf ci f then toV B (kR (r f)) else toV B (kI (x f))) := by
  simp [kFs, hf]
theorem kFs_len {B ci : Nat} {r : Nat → Nat} {x : Nat → Int} : (kFs B ci r x).length = kNF ci := by simp [kFs]
theorem kAtO {H : Heap} {a ci : Nat} (hH : kH E G d H) (ho : isO G a ci) (h8 : ci < 8) : va_P E.2.1 vwCl [(E.2.2.2 + a, .inr (ci, kFs E.2.2.2 ci (fun i => G.2.2 a i) (fun i => d a i)))] H := by
  intro j q hq
  have h0 := hH.1 a ho.1 ho.2.1
  have e : kCell E.2.2.1 E.2.2.2 (G.2.1 a) (fun i => G.2.2 a i) (fun i => d a i) = .inr (ci, kFs E.2.2.2 ci (fun i => G.2.2 a i) (fun i => d a i)) := by
    unfold kCell
    rw [ho.2.2, if_pos h8]
  rw [e] at h0
  match j, hq with
  | 0, hq => cases hq; exact h0
  | j + 1, hq => simp at hq
theorem kAtI {H : Heap} {a ka n : Nat} (hH : kH E G d H) (ha : isA G a ka n) (h8 : ka = 8 ∨ ka = 9) : va_P E.2.1 vwCl [(E.2.2.2 + a, .inl (E.2.2.1 ka, n, .inl (fun i => Int32.ofInt (d a i))))] H := by
  intro j q hq
  have h0 := hH.1 a ha.1 ha.2.1
  have e : kCell E.2.2.1 E.2.2.2 (G.2.1 a) (fun i => G.2.2 a i) (fun i => d a i) = .inl (E.2.2.1 ka, n, .inl (fun i => Int32.ofInt (d a i))) := by
    unfold kCell
    rw [ha.2.2.1, if_neg (show ¬ ka < 8 by omega), if_pos (show ka < 10 by omega)]
  rw [e] at h0
  match j, hq with
  | 0, hq => cases hq; exact h0
  | j + 1, hq => simp at hq
theorem kAtQ {H : Heap} {a ka n : Nat} (hH : kH E G d H) (ha : isA G a ka n) (h8 : 10 ≤ ka) : va_P E.2.1 vwCl [(E.2.2.2 + a, .inl (E.2.2.1 ka, n, .inr (.inr (.inr (.inr (fun i => if G.2.2 a i = 0 then none else some (E.2.2.2 + G.2.2 a i)))))))] H := by
  intro j q hq
  have h0 := hH.1 a ha.1 ha.2.1
  have e : kCell E.2.2.1 E.2.2.2 (G.2.1 a) (fun i => G.2.2 a i) (fun i => d a i) = .inl (E.2.2.1 ka, n, .inr (.inr (.inr (.inr (fun i => if G.2.2 a i = 0 then none else some (E.2.2.2 + G.2.2 a i)))))) := by
    unfold kCell
    rw [ha.2.2.1, if_neg (show ¬ ka < 8 by omega), if_neg (show ¬ ka < 10 by omega)]
  rw [e] at h0
  match j, hq with
  | 0, hq => cases hq; exact h0
  | j + 1, hq => simp at hq
theorem kH.set {G' : HG} {d' : HD} {H H' : Heap} {a : Nat} (hH : kH E G d H) (hn : G'.1 = G.1) (ho : ∀ b, b ≠ a → G'.2.1 b = G.2.1 b ∧ G'.2.2 b = G.2.2 b ∧ d' b = d b) (hc : va_at E.2.1 vwCl (E.2.2.2 + a, kCell E.2.2.1 E.2.2.2 (G'.2.1 a) (fun i => G'.2.2 a i) (fun i => d' a i)) H') (hz : H'.size = H.size) (hq : ∀ q, q ≠ E.2.2.2 + a → H'[q]? = H[q]?) (hN : ∀ i, kN (d' a i)) : kH E G' d' H' := by
  refine ⟨fun b h1 h2 => ?_, by rw [hz, hn]; exact hH.2.1, fun b i => ?_⟩
  · by_cases h : b = a
    · subst h
      exact hc
    · obtain ⟨e1, e2, e3⟩ := ho b h
      rw [e1, e2, e3]
      exact (hH.1 b h1 (by omega)).kept (hq _ (by show E.2.2.2 + b ≠ _; omega))
  · by_cases h : b = a
    · subst h; exact hN i
    · rw [(ho b h).2.2]; exact hH.2.2 b i
/-! fields -/
def kU (d : HD) (a : Nat) (f : Int) (x : Int) : HD := fun b j => if b = a ∧ j = f then x else d b j
def kUR (G : HG) (a : Nat) (f : Int) (r : Nat) : HG := (G.1, G.2.1, fun b j => if b = a ∧ j = f then r else G.2.2 b j)
theorem A_get0 {a ci f idx : Nat} {fi : Int} (hd : decode mi.2.1 pc = .ok (.getfield idx, 3)) (fl : kFG mi.1.cls idx ci f) (he : (f : Int) = fi) (ho : isO G a ci) (K : AW E mi k bc bs (pc + 3) L ((if kRf ci f then kR (G.2.2 a fi) else kI (d a fi)) :: S) G d Q) : AW E mi k bc bs pc L (kR a :: S) G d Q := by
  intro p e s m args below meth c H locs cells slots mc ms ls C hH hS hB hL hn hv h1 h2
  subst he
  obtain ⟨Cn, T, ⟨hc, hin, hty, hnm, hcl, h8⟩, hf, hlink⟩ := fl
  have hP := kAtO hH ho h8
  have hvn : kVN (if kRf ci f then kR (G.2.2 a f) else kI (d a f)) := by
    split
    · trivial
    · exact hH.2.2 a f
  have K' := K p e s m args below meth c H locs cells slots mc ms ls C hH hS hB hL hn (kv1 hvn (kvt hv)) h1 h2
  have ev : toV E.2.2.2 (if kRf ci f then kR (G.2.2 a f) else kI (d a f)) = (if kRf ci f then toV E.2.2.2 (kR (G.2.2 a f)) else toV E.2.2.2 (kI (d a f))) := by split <;> rfl
  rw [List.map_cons, ev] at K'
  rw [List.map_cons, toV_r ho.1]
  rcases hlink with h | h
  · exact va_get C.1 C.2.1 C.2.2.2.2.2.1 hin C.2.2.2.2.1 C.2.2.2.2.2.2.2.2.1 hP 0 rfl hc f hf (C.2.2.2.2.2.1 _ h) (fun x hx => by rw [hcl f hf] at hx; exact hx) (kFs_at hf) hd K'
  · exact va_getN C.1 C.2.1 C.2.2.2.2.2.1 hin C.2.2.2.2.1 C.2.2.2.2.2.2.2.2.1 hP 0 rfl hc f hf (va_Nw.use rfl (C.2.2.2.2.2.2.2.2.2.1.1 _ h)) (fun x hx => by rw [hcl f hf] at hx; exact hx) (kFs_at hf) hd K'
theorem A_get {a ci f idx : Nat} {fi : Int} (hd : decode mi.2.1 pc = .ok (.getfield idx, 3)) (fl : kFG mi.1.cls idx ci f) (hr : kRf ci f = false) (he : (f : Int) = fi) (ho : isO G a ci) (K : AW E mi k bc bs (pc + 3) L (kI (d a fi) :: S) G d Q) : AW E mi k bc bs pc L (kR a :: S) G d Q :=
  A_get0 hd fl he ho (by rw [hr]; exact K)
theorem A_getR {a ci f idx : Nat} {fi : Int} (hd : decode mi.2.1 pc = .ok (.getfield idx, 3)) (fl : kFG mi.1.cls idx ci f) (hr : kRf ci f = true) (he : (f : Int) = fi) (ho : isO G a ci) {r : Nat} (hg : G.2.2 a fi = r) (K : AW E mi k bc bs (pc + 3) L (kR r :: S) G d Q) : AW E mi k bc bs pc L (kR a :: S) G d Q :=
  A_get0 hd fl he ho (by rw [hr]; subst hg; exact K)
theorem kPutW {a ci f idx : Nat} {fin : Bool} {v : AV} {p : Program} {e : Env} {s : State} {m : MethodId} {args : Array Value} {below : List Frame} {meth : Method} {c : Code} {H : Heap} {locs : List Loc} {cells slots : Nat} {R : Room} {Qm : State → Prop} {ls : Array Slot} {rest : List Value} (hd : decode mi.2.1 pc = .ok (.putfield idx, 3)) (fl : kFL mi.1.cls idx ci f fin) (hfi : fin = false ∨ mi.1.name = "<init>") (ho : isO G a ci)
    (C : kCx E mi p s m args meth c) (hH : kH E G d H) (hnar : narrow (kTy ci f) (toV E.2.2.2 v) = toV E.2.2.2 v) (hfit : fits (kTy ci f) (toV E.2.2.2 v) = true)
    (kk : ∀ (H1 : Heap) (j : Nat), va_at E.2.1 vwCl (E.2.2.2 + a, .inr (ci, (kFs E.2.2.2 ci (fun i => G.2.2 a i) (fun i => d a i)).set f (toV E.2.2.2 v))) H1 → H1.size = H.size → (∀ q, q ≠ E.2.2.2 + a → H1[q]? = H[q]?) → W p E.1 e R s m args below meth c H1 (locs ++ [⟨E.2.2.2 + a, j⟩]) cells slots Qm (F0 m (pc + 3) ls rest)) :
    W p E.1 e R s m args below meth c H locs cells slots Qm (F0 m pc ls (toV E.2.2.2 v :: .ref (E.2.2.2 + a) :: rest)) := by
  obtain ⟨Cn, T, ⟨hc, hin, hty, hnm, hcl, h8⟩, hf, hfin, hown, hlink⟩ := fl
  have hP := kAtO hH ho h8
  obtain ⟨hx, hb, hr, hml, hfcls, hts, hlk, hnam, hK, hNw, -⟩ := C
  have hap := va_apart (own := mi.1.cls) hts hin (kTy ci) hty hnm hK hc
  obtain ⟨r, g1, cell, q1, q2, q3, q4⟩ := hP 0 _ rfl
  have hre : r = (Cn, T, kNF ci) := Option.some.inj (g1.symm.trans hc)
  subst hre
  obtain ⟨hSl, hfc, kC, hkC, hkind⟩ := hK.1 ci _ hc
  obtain ⟨cf, kf, fi, fd, hi, hsl⟩ := hSl f hf
  have hi' : s.fieldFound? Cn (T f).2.1 (T f).2.2.1 = some (cf, kf, fi, fd) := by rw [← hcl f hf]; exact hi
  have hlay := hts _ (hin _ (u_in_lay hf))
  have hst := (u_facts hfc hkC (u_lays hts hin hf) hi).1
  have done : ∀ H1 : Heap, H1[E.2.2.2 + a]? = some (cell.setSlot fd.slot (toV E.2.2.2 v)) → va_at E.2.1 vwCl (E.2.2.2 + a, .inr (ci, (kFs E.2.2.2 ci (fun i => G.2.2 a i) (fun i => d a i)).set f (toV E.2.2.2 v))) H1 := by
    intro H1 e1
    rw [hsl] at e1
    exact ⟨_, hc, t_OB.to (V := updV (vp_V (kFs E.2.2.2 ci (fun i => G.2.2 a i) (fun i => d a i))) f (toV E.2.2.2 v)) ⟨_, e1, q2, q3, t_set q4 hap hf (toV E.2.2.2 v)⟩ (fun j _ => vp_updV_set (by rw [kFs_len]; exact hf) (toV E.2.2.2 v) j)⟩
  have hslt : fd.slot < cell.slots.size := by rw [hsl]; exact k2_hasslot (q4 f hf)
  unfold u_lay at hlay
  cases hfb : fin with
  | false =>
    rw [if_neg (by rw [hfin, hfb]; decide)] at hlay
    have h6 := u_store hfc hkC hkind hlay hi (hty f hf) hnar hfit
    rcases hlink with hl | ⟨-, hl⟩
    · exact W.putK hx hb (f := fd) ⟨hfcls, hts _ hl, ⟨_, _, _, hi'⟩, hst⟩ (by rw [q2]; exact h6) q1 q3 hslt rfl rfl hd fun H' e1 e2 e3 => kk H' _ (done H' e1) e2 e3
    · exact va_WputK hx hb (f := fd) hfcls (va_Nw.use rfl (hNw.1 _ hl)) hi' hst (by rw [q2]; exact h6) q1 q3 hslt rfl rfl hd fun H' e1 e2 e3 => kk H' _ (done H' e1) e2 e3
  | true =>
    have hini : mi.1.name = "<init>" := by
      rcases hfi with h | h
      · rw [hfb] at h; cases h
      · exact h
    have hoc := hown hfb
    rw [if_pos (by rw [hfin, hfb])] at hlay
    have hcf : m.cls = cf := by
      obtain ⟨_, _, c', _, _, _, -, -, hf', -, -, -, hown2, -⟩ := Cond.laysFinal_spec hlay
      have e1 : c' = cf := by have := hi.symm.trans hf'; simp at this; exact this.1.symm
      rw [hcl f hf, ← hoc] at hown2
      rw [← e1]; exact Option.some.inj (hfcls.symm.trans hown2)
    have h6 := u_fits hfc hkC hkind (Or.inr hlay) hi (hty f hf) hnar hfit
    rcases hlink with hl | ⟨-, hl⟩
    · exact W.putFinK hx hb hfcls (hts _ hl) hi' hst hcf (hnam.trans hini) (by rw [q2]; exact h6) q1 q3 hslt rfl rfl hd fun H' e1 e2 e3 => kk H' _ (done H' e1) e2 e3
    · refine va_Wputf hx hb hfcls (va_Nw.use rfl (hNw.1 _ hl)) hi' hst (Or.inr ⟨hcf, hnam.trans hini⟩) q1 (by rw [q3]; exact fun h => by cases h) hslt h6.1 (by rw [q3, q2]; exact h6.2) rfl rfl hd ?_
      have ha : E.2.2.2 + a < H.size := (Array.getElem?_eq_some_iff.mp q1).1
      exact kk _ _ (done _ (by simp [Array.getElem?_setIfInBounds, ha])) (by simp) (fun q hq => by simp [Array.getElem?_setIfInBounds, Ne.symm hq])
theorem kFs_setI {B ci f : Nat} {r : Nat → Nat} {d : HD} {a : Nat} {x : Int} (hr : kRf ci f = false) : (kFs B ci r (fun i => d a i)).set f (toV B (kI x)) = kFs B ci r (fun i => kU d a f x a i) := by
  refine List.ext_getElem? fun j => ?_
  by_cases hj : j < kNF ci
  · by_cases h : j = f
    · subst h
      rw [List.getElem?_set_self (by rw [kFs_len]; exact hj), kFs_at hj, hr]
      simp [kU]
    · rw [List.getElem?_set_ne (fun q => h q.symm), kFs_at hj, kFs_at hj]
      have hjf : ¬ ((j : Int) = (f : Int)) := by omega
      simp [kU, hjf]
  · rw [List.getElem?_eq_none (by rw [List.length_set, kFs_len]; omega), List.getElem?_eq_none (by rw [kFs_len]; omega)]
theorem kFs_setR {B ci f : Nat} {x : Nat → Int} {G : HG} {a rr : Nat} (hr : kRf ci f = true) : (kFs B ci (fun i => G.2.2 a i) x).set f (toV B (kR rr)) = kFs B ci (fun i => (kUR G a f rr).2.2 a i) x := by
  refine List.ext_getElem? fun j => ?_
  by_cases hj : j < kNF ci
  · by_cases h : j = f
    · subst h
      rw [List.getElem?_set_self (by rw [kFs_len]; exact hj), kFs_at hj, hr]
      simp [kUR]
    · rw [List.getElem?_set_ne (fun q => h q.symm), kFs_at hj, kFs_at hj]
      have hjf : ¬ ((j : Int) = (f : Int)) := by omega
      simp [kUR, hjf]
  · rw [List.getElem?_eq_none (by rw [List.length_set, kFs_len]; omega), List.getElem?_eq_none (by rw [kFs_len]; omega)]
theorem kCellO {dA : Nat → ClassId} {B ci : Nat} {sh : Nat × Nat} {r : Nat → Nat} {x : Nat → Int} (h : sh.1 = ci) (h8 : ci < 8) : kCell dA B sh r x = .inr (ci, kFs B ci r x) := by
  unfold kCell
  rw [h, if_pos h8]
theorem kU_N {a : Nat} {f x : Int} (h : ∀ b j, kN (d b j)) (hx : kN x) : ∀ b j, kN (kU d a f x b j) := by
  intro b j
  unfold kU
  split
  · exact hx
  · exact h b j
theorem kU_ne {a : Nat} {f x : Int} {b : Nat} (h : b ≠ a) : kU d a f x b = d b := by
  funext j
  simp [kU, h]
theorem A_put0 {a ci f idx : Nat} {fin : Bool} {x fi : Int} (hd : decode mi.2.1 pc = .ok (.putfield idx, 3)) (fl : kFL mi.1.cls idx ci f fin) (hfi : fin = false ∨ mi.1.name = "<init>") (hr : kRf ci f = false) (hnar : narrow (kTy ci f) (.int (Int32.ofInt x)) = .int (Int32.ofInt x)) (hfit : fits (kTy ci f) (.int (Int32.ofInt x)) = true) (he : (f : Int) = fi) (ho : isO G a ci) (K : AW E mi k bc bs (pc + 3) L S G (kU d a fi x) Q) : AW E mi k bc bs pc L (kI x :: kR a :: S) G d Q := by
  intro p e s m args below meth c H locs cells slots mc ms ls C hH hS hB hL hn hv h1 h2
  subst he
  have h8 : ci < 8 := by obtain ⟨_, _, ⟨_, _, _, _, _, h8⟩, _⟩ := fl; exact h8
  rw [List.map_cons, List.map_cons, toV_r ho.1]
  refine kPutW (v := kI x) hd fl hfi ho C hH hnar hfit fun H1 j hat hz hq => ?_
  rw [kFs_setI hr] at hat
  refine K p e s m args below meth c H1 _ cells slots mc ms ls C (hH.set (a := a) rfl (fun b h => ⟨rfl, rfl, kU_ne h⟩) ?_ hz hq (fun i => kU_N hH.2.2 (kvh hv) a i)) (hS.put hz hq (by unfold kA; have := ho.1; omega)) hB hL hn (kvt (kvt hv)) h1 h2
  rw [kCellO ho.2.2 h8]
  exact hat
theorem A_put {a ci f idx : Nat} {x fi : Int} (hd : decode mi.2.1 pc = .ok (.putfield idx, 3)) (fl : kFL mi.1.cls idx ci f false) (ht : kTy ci f = .int) (he : (f : Int) = fi) (ho : isO G a ci) (K : AW E mi k bc bs (pc + 3) L S G (kU d a fi x) Q) : AW E mi k bc bs pc L (kI x :: kR a :: S) G d Q :=
  A_put0 hd fl (Or.inl rfl) (by unfold kRf; rw [ht]; rfl) (by rw [ht]; rfl) (by rw [ht]; rfl) he ho K
theorem A_putC {a ci f idx : Nat} {fin : Bool} {x fi : Int} (hd : decode mi.2.1 pc = .ok (.putfield idx, 3)) (fl : kFL mi.1.cls idx ci f fin) (hi : mi.1.name = "<init>") (ht : kTy ci f = .int) (he : (f : Int) = fi) (ho : isO G a ci) (K : AW E mi k bc bs (pc + 3) L S G (kU d a fi x) Q) : AW E mi k bc bs pc L (kI x :: kR a :: S) G d Q :=
  A_put0 hd fl (Or.inr hi) (by unfold kRf; rw [ht]; rfl) (by rw [ht]; rfl) (by rw [ht]; rfl) he ho K
theorem A_putZ {a ci f idx : Nat} {x fi : Int} (hd : decode mi.2.1 pc = .ok (.putfield idx, 3)) (fl : kFL mi.1.cls idx ci f false) (ht : kTy ci f = .boolean) (he : (f : Int) = fi) (ho : isO G a ci) (hx : x = 0 ∨ x = 1) (K : AW E mi k bc bs (pc + 3) L S G (kU d a fi x) Q) : AW E mi k bc bs pc L (kI x :: kR a :: S) G d Q :=
  A_put0 hd fl (Or.inl rfl) (by unfold kRf; rw [ht]; rfl) (by rw [ht]; rcases hx with rfl | rfl <;> rfl) (by rw [ht]; rcases hx with rfl | rfl <;> rfl) he ho K
theorem A_putR {a ci f idx r : Nat} {fin : Bool} {fi : Int} (hd : decode mi.2.1 pc = .ok (.putfield idx, 3)) (fl : kFL mi.1.cls idx ci f fin) (hfi : fin = false ∨ mi.1.name = "<init>") (hr : kRf ci f = true) (he : (f : Int) = fi) (ho : isO G a ci) (K : AW E mi k bc bs (pc + 3) L S (kUR G a fi r) d Q) : AW E mi k bc bs pc L (kR r :: kR a :: S) G d Q := by
  intro p e s m args below meth c H locs cells slots mc ms ls C hH hS hB hL hn hv h1 h2
  subst he
  have h8 : ci < 8 := by obtain ⟨_, _, ⟨_, _, _, _, _, h8⟩, _⟩ := fl; exact h8
  have hv2 : toV E.2.2.2 (kR r) = .null ∨ ∃ z, toV E.2.2.2 (kR r) = .ref z := by
    show (if r = 0 then Value.null else .ref _) = _ ∨ ∃ z, (if r = 0 then Value.null else .ref _) = _
    split
    · exact Or.inl rfl
    · exact Or.inr ⟨_, rfl⟩
  have hty : (∃ n, kTy ci f = .object n) ∨ ∃ t, kTy ci f = .array t := by
    unfold kRf at hr
    revert hr
    generalize kTy ci f = ty
    intro hr
    cases ty <;> first | exact Or.inl ⟨_, rfl⟩ | exact Or.inr ⟨_, rfl⟩ | cases hr
  have hnar : narrow (kTy ci f) (toV E.2.2.2 (kR r)) = toV E.2.2.2 (kR r) := by
    rcases hty with ⟨n, h⟩ | ⟨t, h⟩ <;> rw [h] <;> rcases hv2 with g | ⟨z, g⟩ <;> rw [g] <;> rfl
  have hfit : fits (kTy ci f) (toV E.2.2.2 (kR r)) = true := by
    rcases hty with ⟨n, h⟩ | ⟨t, h⟩ <;> rw [h] <;> rcases hv2 with g | ⟨z, g⟩ <;> rw [g] <;> rfl
  rw [List.map_cons, List.map_cons, toV_r ho.1]
  refine kPutW (v := kR r) hd fl hfi ho C hH hnar hfit fun H1 j hat hz hq => ?_
  rw [kFs_setR hr] at hat
  refine K p e s m args below meth c H1 _ cells slots mc ms ls C (hH.set (G' := kUR G a f r) (a := a) rfl (fun b h => ⟨rfl, by funext j; simp [kUR, h], rfl⟩) ?_ hz hq (fun i => hH.2.2 a i)) (hS.put hz hq (by unfold kA; have := ho.1; omega)) hB hL hn (kvt (kvt hv)) h1 h2
  rw [kCellO (show ((kUR G a f r).2.1 a).1 = ci from ho.2.2) h8]
  exact hat
/-! arrays -/
theorem A_iald {a n : Nat} {j : Int} (hd : decode mi.2.1 pc = .ok (.iaload, 1)) (ha : isA G a 8 n) (h0 : 0 ≤ j) (hj : j < n) (K : AW E mi k bc bs (pc + 1) L (kI (d a j) :: S) G d Q) : AW E mi k bc bs pc L (kI j :: kR a :: S) G d Q := by
  intro p e s m args below meth c H locs cells slots mc ms ls C hH hS hB hL hn hv h1 h2
  have hP := kAtI hH ha (Or.inl rfl)
  have hj' : kN j := kvh hv
  have K' := K p e s m args below meth c H locs cells slots mc ms ls C hH hS hB hL hn (kv1 (hH.2.2 _ _) (kvt (kvt hv))) h1 h2
  rw [List.map_cons, List.map_cons, toV_r ha.1]
  refine va_iald C.1 C.2.1 C.2.2.2.2.2.2.2.2.1 hP 0 0 rfl rfl (kT_in hj' h0 hj) hd ?_
  rw [kT_cl hj']
  show W _ _ _ _ _ _ _ _ _ _ _ _ _ _ _ (F0 m _ ls (.int (Int32.ofInt (d a ((j.toNat : Nat) : Int))) :: _))
  rw [Int.toNat_of_nonneg h0]
  exact K'
theorem A_zald {a n : Nat} {j : Int} (hd : decode mi.2.1 pc = .ok (.baload, 1)) (ha : isA G a 9 n) (h0 : 0 ≤ j) (hj : j < n) (K : AW E mi k bc bs (pc + 1) L (kI (d a j) :: S) G d Q) : AW E mi k bc bs pc L (kI j :: kR a :: S) G d Q := by
  intro p e s m args below meth c H locs cells slots mc ms ls C hH hS hB hL hn hv h1 h2
  have hP := kAtI hH ha (Or.inr rfl)
  have hj' : kN j := kvh hv
  have K' := K p e s m args below meth c H locs cells slots mc ms ls C hH hS hB hL hn (kv1 (hH.2.2 _ _) (kvt (kvt hv))) h1 h2
  rw [List.map_cons, List.map_cons, toV_r ha.1]
  refine va_zald C.1 C.2.1 C.2.2.2.2.2.2.2.2.1 hP 0 1 rfl rfl (kT_in hj' h0 hj) hd ?_
  rw [kT_cl hj']
  show W _ _ _ _ _ _ _ _ _ _ _ _ _ _ _ (F0 m _ ls (.int (Int32.ofInt (d a ((j.toNat : Nat) : Int))) :: _))
  rw [Int.toNat_of_nonneg h0]
  exact K'
theorem A_aald {a ka n t : Nat} {Cn : String} {j : Int} (hd : decode mi.2.1 pc = .ok (.aaload, 1)) (ht : ∀ dA : Nat → ClassId, (kTys dA)[t]? = some (dA ka, .object Cn)) (h10 : 10 ≤ ka) (ha : isA G a ka n) (h0 : 0 ≤ j) (hj : j < n) {r : Nat} (hg : G.2.2 a j = r) (K : AW E mi k bc bs (pc + 1) L (kR r :: S) G d Q) : AW E mi k bc bs pc L (kI j :: kR a :: S) G d Q := by
  intro p e s m args below meth c H locs cells slots mc ms ls C hH hS hB hL hn hv h1 h2
  subst hg
  have hP := kAtQ hH ha h10
  have hj' : kN j := kvh hv
  have K' := K p e s m args below meth c H locs cells slots mc ms ls C hH hS hB hL hn (kv1 (v := kR (G.2.2 a j)) trivial (kvt (kvt hv))) h1 h2
  rw [List.map_cons, List.map_cons, toV_r ha.1]
  refine va_aldq C.1 C.2.1 C.2.2.2.2.2.2.2.2.1 hP 0 t rfl (ht _) (kT_in hj' h0 hj) hd ?_
  rw [kT_cl hj']
  have ev : va_rf (if G.2.2 a ((j.toNat : Nat) : Int) = 0 then none else some (E.2.2.2 + G.2.2 a ((j.toNat : Nat) : Int))) = toV E.2.2.2 (kR (G.2.2 a j)) := by
    rw [Int.toNat_of_nonneg h0]
    show _ = (if G.2.2 a j = 0 then Value.null else _)
    split <;> rfl
  show W _ _ _ _ _ _ _ _ _ _ _ _ _ _ _ (F0 m _ ls (va_rf (if G.2.2 a ((j.toNat : Nat) : Int) = 0 then none else some (E.2.2.2 + G.2.2 a ((j.toNat : Nat) : Int))) :: _))
  rw [ev]
  exact K'
theorem A_alen {a ka n t : Nat} {ty : FieldType} (hd : decode mi.2.1 pc = .ok (.arraylength, 1)) (ht : ∀ dA : Nat → ClassId, (kTys dA)[t]? = some (dA ka, ty)) (h8 : ka = 8 ∨ ka = 9) (ha : isA G a ka n) (K : AW E mi k bc bs (pc + 1) L (kI n :: S) G d Q) : AW E mi k bc bs pc L (kR a :: S) G d Q := by
  intro p e s m args below meth c H locs cells slots mc ms ls C hH hS hB hL hn hv h1 h2
  have hP := kAtI hH ha h8
  have hN : kN (n : Int) := ⟨by omega, by have := ha.2.2.2; omega⟩
  have K' := K p e s m args below meth c H locs cells slots mc ms ls C hH hS hB hL hn (kv1 (v := kI n) hN (kvt hv)) h1 h2
  rw [List.map_cons, toV_r ha.1]
  refine va_alen C.1 C.2.1 C.2.2.2.2.2.2.2.2.1 hP 0 t rfl (ht _) (v := Int32.ofInt (n : Int)) ?_ hd K'
  exact (Int32.ofInt_eq_ofNat).symm
theorem kCellI {dA : Nat → ClassId} {B ka n : Nat} {sh : Nat × Nat} {r : Nat → Nat} {x : Nat → Int} (h : sh = (ka, n)) (h8 : ka = 8 ∨ ka = 9) : kCell dA B sh r x = .inl (dA ka, n, .inl (fun i => Int32.ofInt (x i))) := by
  unfold kCell
  rw [h, if_neg (show ¬ ka < 8 by omega), if_pos (show ka < 10 by omega)]
theorem A_iast {a n : Nat} {j x : Int} (hd : decode mi.2.1 pc = .ok (.iastore, 1)) (ha : isA G a 8 n) (h0 : 0 ≤ j) (hj : j < n) (K : AW E mi k bc bs (pc + 1) L S G (kU d a j x) Q) : AW E mi k bc bs pc L (kI x :: kI j :: kR a :: S) G d Q := by
  intro p e s m args below meth c H locs cells slots mc ms ls C hH hS hB hL hn hv h1 h2
  have hP := kAtI hH ha (Or.inl rfl)
  have hj' : kN j := kvh (kvt hv)
  rw [List.map_cons, List.map_cons, List.map_cons, toV_r ha.1]
  have hin := kT_in hj' h0 hj
  refine W.iast C.1 C.2.1 (hP 0 _ rfl) ((C.2.2.2.2.2.2.2.2.1.2 0 _ rfl).1 n (fun i => .int (Int32.ofInt (d a i)))) (fun q => by cases q) (by show ¬ (Int32.ofInt j < 0 ∨ (arrV _ _ _).slots.size ≤ _); rw [arrV_size]; exact hin) rfl rfl hd fun H1 e1 hz hq => ?_
  refine K p e s m args below meth c H1 _ cells slots mc ms ls C (hH.set (a := a) rfl (fun b h => ⟨rfl, rfl, kU_ne h⟩) ?_ hz hq (fun i => kU_N hH.2.2 (kvh hv) a i)) (hS.put hz hq (by unfold kA; have := ha.1; omega)) hB hL hn (kvt (kvt (kvt hv))) h1 h2
  rw [kCellI ha.2.2.1 (Or.inl rfl)]
  show H1[E.2.2.2 + a]? = some (vp_cell _ _)
  rw [e1, vp_cell_i, vp_cell_i, arrV_store, kT_cl hj']
  congr 2
  funext i
  have hji : (i : Int) = j ↔ i = j.toNat := by omega
  by_cases h : i = j.toNat
  · simp [updV, kU, h, Int.toNat_of_nonneg h0]
  · simp [updV, kU, h, hji]
theorem A_zast {a n : Nat} {j x : Int} (hd : decode mi.2.1 pc = .ok (.bastore, 1)) (ha : isA G a 9 n) (h0 : 0 ≤ j) (hj : j < n) (hx : x = 0 ∨ x = 1) (K : AW E mi k bc bs (pc + 1) L S G (kU d a j x) Q) : AW E mi k bc bs pc L (kI x :: kI j :: kR a :: S) G d Q := by
  intro p e s m args below meth c H locs cells slots mc ms ls C hH hS hB hL hn hv h1 h2
  have hP := kAtI hH ha (Or.inr rfl)
  have hj' : kN j := kvh (kvt hv)
  rw [List.map_cons, List.map_cons, List.map_cons, toV_r ha.1]
  have hin := kT_in hj' h0 hj
  have hnar : narrow .boolean (.int (Int32.ofInt x)) = .int (Int32.ofInt x) := by rcases hx with rfl | rfl <;> rfl
  refine W.zast C.1 C.2.1 (hP 0 _ rfl) ((C.2.2.2.2.2.2.2.2.1.2 1 _ rfl).1 n (fun i => .int (Int32.ofInt (d a i)))) (fun q => by cases q) (by show ¬ (Int32.ofInt j < 0 ∨ (arrV _ _ _).slots.size ≤ _); rw [arrV_size]; exact hin) rfl rfl hd fun H1 e1 hz hq => ?_
  refine K p e s m args below meth c H1 _ cells slots mc ms ls C (hH.set (a := a) rfl (fun b h => ⟨rfl, rfl, kU_ne h⟩) ?_ hz hq (fun i => kU_N hH.2.2 (kvh hv) a i)) (hS.put hz hq (by unfold kA; have := ha.1; omega)) hB hL hn (kvt (kvt (kvt hv))) h1 h2
  rw [kCellI ha.2.2.1 (Or.inr rfl)]
  show H1[E.2.2.2 + a]? = some (vp_cell _ _)
  rw [e1, hnar, vp_cell_i, vp_cell_i, arrV_store, kT_cl hj']
  congr 2
  funext i
  have hji : (i : Int) = j ↔ i = j.toNat := by omega
  by_cases h : i = j.toNat
  · simp [updV, kU, h, Int.toNat_of_nonneg h0]
  · simp [updV, kU, h, hji]
theorem kCellQ {dA : Nat → ClassId} {B ka n : Nat} {sh : Nat × Nat} {r : Nat → Nat} {x : Nat → Int} (h : sh = (ka, n)) (h8 : 10 ≤ ka) : kCell dA B sh r x = .inl (dA ka, n, .inr (.inr (.inr (.inr (fun i => if r i = 0 then none else some (B + r i)))))) := by
  unfold kCell
  rw [h, if_neg (show ¬ ka < 8 by omega), if_neg (show ¬ ka < 10 by omega)]
theorem A_aast {a v ka n t ci : Nat} {Cn : String} {T : u_T} {j : Int} (hd : decode mi.2.1 pc = .ok (.aastore, 1)) (ht : ∀ dA : Nat → ClassId, (kTys dA)[t]? = some (dA ka, .object Cn)) (hc : kCl ci Cn T) (h10 : 10 ≤ ka) (ha : isA G a ka n) (hvo : isO G v ci) (h0 : 0 ≤ j) (hj : j < n) (K : AW E mi k bc bs (pc + 1) L S (kUR G a j v) d Q) : AW E mi k bc bs pc L (kR v :: kI j :: kR a :: S) G d Q := by
  intro p e s m args below meth c H locs cells slots mc ms ls C hH hS hB hL hn hv h1 h2
  have hP := kAtQ hH ha h10
  have hPv := kAtO hH hvo hc.2.2.2.2.2
  have hj' : kN j := kvh (kvt hv)
  rw [List.map_cons, List.map_cons, List.map_cons, toV_r ha.1, toV_r hvo.1]
  have hin := kT_in hj' h0 hj
  obtain ⟨hK, -⟩ := C.2.2.2.2.2.2.2.2
  obtain ⟨r', hr', cellV, g1, g2, g3, -⟩ := hPv 0 _ rfl
  have hcls := (hK.1 ci _ hc.1).2
  obtain ⟨kAA, comp, k1, k2, k3, -⟩ := (hK.2 t _ (ht _)).2
  have hcomp : comp = E.2.1.1 ci := Option.some.inj (k3.symm.trans hcls.1)
  subst hcomp
  obtain ⟨kC, hkC, -⟩ := hcls.2
  have hlt : (Int32.ofInt j).toNatClampNeg < n := by rw [kT_cl hj']; omega
  refine W.aast C.1 C.2.1 (hP 0 _ rfl) (fun q h => by cases h) (fun h => by cases h) k1 k2 rfl hkC ⟨fun q => hin (Or.inl q), by show _ < (arrV _ _ _).slots.size; rw [arrV_size]; exact hlt⟩ g1 (fun q h => by rw [g3] at h; cases h) (by rw [g2]; exact hkC) (by rw [g2]; exact va_assign hcls) rfl rfl hd fun H1 e1 hz hq => ?_
  refine K p e s m args below meth c H1 _ cells slots mc ms ls C (hH.set (G' := kUR G a j v) (a := a) rfl (fun b h => ⟨rfl, by funext q; simp [kUR, h], rfl⟩) ?_ hz hq (fun i => hH.2.2 a i)) (hS.put hz hq (by unfold kA; have := ha.1; omega)) hB hL hn (kvt (kvt (kvt hv))) h1 h2
  rw [kCellQ (show (kUR G a j v).2.1 a = (ka, n) from ha.2.2.1) h10]
  show H1[E.2.2.2 + a]? = some (vp_cell _ _)
  rw [e1, vp_cell_q, vp_cell_q, arrV_store, kT_cl hj']
  congr 2
  funext i
  have hv0 : ¬ v = 0 := by have := hvo.1; omega
  have hji : (i : Int) = j ↔ i = j.toNat := by omega
  by_cases h : i = j.toNat
  · simp [updV, kUR, h, va_rf, hv0, Int.toNat_of_nonneg h0]
  · simp [updV, kUR, h, hji]
/-! new cells -/
def kNew (G : HG) (ka n : Nat) : HG := (G.1 + 1, fun a => if a = G.1 + 1 then (ka, n) else G.2.1 a, fun a i => if a = G.1 + 1 then 0 else G.2.2 a i)
def kNewD (G : HG) (d : HD) : HD := fun a i => if a = G.1 + 1 then 0 else d a i
theorem kNewD_N (h : ∀ b j, kN (d b j)) : ∀ b j, kN (kNewD G d b j) := by
  intro b j
  unfold kNewD
  split
  · exact ⟨by omega, by omega⟩
  · exact h b j
theorem kH.push {H H' : Heap} {ka n : Nat} (hH : kH E G d H) (hc : va_at E.2.1 vwCl (E.2.2.2 + (G.1 + 1), kCell E.2.2.1 E.2.2.2 (ka, n) (fun _ => 0) (fun _ => 0)) H') (hz : H'.size = H.size + 1) (hq : ∀ q, q < H.size → H'[q]? = H[q]?) : kH E (kNew G ka n) (kNewD G d) H' := by
  refine ⟨fun b h1 h2 => ?_, by rw [hz, hH.2.1]; show _ = E.2.2.2 + 1 + (G.1 + 1); omega, kNewD_N hH.2.2⟩
  have h2 : b ≤ G.1 + 1 := h2
  by_cases h : b = G.1 + 1
  · subst h
    have e1 : (kNew G ka n).2.1 (G.1 + 1) = (ka, n) := by simp [kNew]
    have e2 : (fun i : Nat => (kNew G ka n).2.2 (G.1 + 1) i) = fun _ => 0 := by funext i; simp [kNew]
    have e3 : (fun i : Nat => kNewD G d (G.1 + 1) i) = fun _ => 0 := by funext i; simp [kNewD]
    rw [e1, e2, e3]
    exact hc
  · have e1 : (kNew G ka n).2.1 b = G.2.1 b := by simp [kNew, h]
    have e2 : (kNew G ka n).2.2 b = G.2.2 b := by funext i; simp [kNew, h]
    have e3 : kNewD G d b = d b := by funext i; simp [kNewD, h]
    rw [e1, e2, e3]
    exact (hH.1 b h1 (by omega)).kept (hq _ (by show E.2.2.2 + b < _; rw [hH.2.1]; omega))
theorem kS_push {A : Nat → Prop} {H0 H H1 : Heap} {locs : List Loc} (hS : va_S A H0 H locs) (hz : H1.size = H.size + 1) (hq : ∀ q, q < H.size → H1[q]? = H[q]?) : va_S A H0 H1 locs :=
  ⟨Nat.le_trans hS.1 (by omega), fun x h1 h2 => (hq x (Nat.lt_of_lt_of_le h1 hS.1)).trans (hS.2.1 x h1 h2), hS.2.2⟩
theorem A_new {ci idx : Nat} {Cn : String} {T : u_T} (hd : decode mi.2.1 pc = .ok (.new idx, 3)) (hc : kCl ci Cn T) (hw1 : Cond.classLink mi.1.cls idx Cn ∈ gT) (hw2 : Cond.instantiable Cn (kNF ci) ∈ gT) (hw3 : Cond.initialized Cn ∈ gT) (hbc : 1 ≤ bc) (hbs : kNF ci ≤ bs) (K : AW E mi k (bc - 1) (bs - kNF ci) (pc + 3) L (kR (G.1 + 1) :: S) (kNew G ci 0) (kNewD G d) Q) : AW E mi k bc bs pc L S G d Q := by
  intro p e s m args below meth c H locs cells slots mc ms ls C hH hS hB hL hn hv h1 h2
  obtain ⟨hc0, hin, hty, hnm, hcl, h8⟩ := hc
  obtain ⟨hx, hb, hr, hml, hfcls, hts, hlk, hnam, hK, hNw, hAO⟩ := id C
  have hKn := hK.1 ci _ hc0
  have hcr : cells + 1 ≤ (kRm k mc ms).cells := by show cells + 1 ≤ mc; omega
  have hsr : slots + kNF ci ≤ (kRm k mc ms).slots := by show slots + kNF ci ≤ ms; omega
  refine W.newcK hx hb hfcls (hts _ hw1) (hts _ hw2) (hts _ hw3) rfl hd hcr hsr hKn.2.1 hH.2.1 fun H1 kC hkC e1 z1 o1 => ?_
  have z1' : H1.size = H.size + 1 := by rw [z1, hH.2.1]
  have o1' : ∀ q, q < H.size → H1[q]? = H[q]? := fun q hq => o1 q (by rw [← hH.2.1]; exact hq)
  have hat : va_at E.2.1 vwCl (E.2.2.2 + (G.1 + 1), kCell E.2.2.1 E.2.2.2 (ci, 0) (fun _ => 0) (fun _ => 0)) H1 := by
    rw [kCellO (ci := ci) rfl h8]
    refine ⟨_, hc0, ?_⟩
    have hbn := (u_born (kTy ci) hts hin hKn hkC e1 hty)
    have ea : E.2.2.2 + 1 + G.1 = E.2.2.2 + (G.1 + 1) := by omega
    rw [ea] at hbn
    refine hbn.to (fun j hj => ?_)
    show defaultValue (kTy ci j) = (kFs _ ci _ _).getD j .null
    rw [List.getD_eq_getElem?_getD, kFs_at hj]
    show defaultValue (kTy ci j) = (if kIsR (kTy ci j) then _ else _)
    have hj2 : (kTy ci j = .int ∨ kTy ci j = .boolean) ∨ (∃ n, kTy ci j = .object n) ∨ ∃ t, kTy ci j = .array t := by
      have key : ∀ c, c < 8 → ∀ j, j < kNF c → ((kTy c j = .int ∨ kTy c j = .boolean) ∨ (kIsR (kTy c j) = true)) := by decide +kernel
      rcases key ci h8 j hj with h | h
      · exact Or.inl h
      · revert h
        generalize kTy ci j = ty
        intro h
        cases ty <;> first | exact Or.inr (Or.inl ⟨_, rfl⟩) | exact Or.inr (Or.inr ⟨_, rfl⟩) | cases h
    rcases hj2 with (h | h) | ⟨n, h⟩ | ⟨t, h⟩ <;> rw [h] <;> rfl
  have K' := K p e s m args below meth c H1 locs (cells + 1) (slots + kNF ci) mc ms ls C (hH.push hat z1' o1') (kS_push hS z1' o1') hB hL hn (kv1 (v := kR (G.1 + 1)) trivial hv) (by omega) (by omega)
  rw [List.map_cons, toV_r (by omega)] at K'
  have ea : E.2.2.2 + 1 + G.1 = E.2.2.2 + (G.1 + 1) := by omega
  rw [ea]
  exact K'
theorem A_newa {ka t : Nat} {at' : ArrayType} {ty : FieldType} {x : Int} (hd : decode mi.2.1 pc = .ok (.newarray at', 2)) (hty : newarray.typeOf at' = ty) (hw : Cond.arrayClass ty ∈ gT) (ht : ∀ dA : Nat → ClassId, (kTys dA)[t]? = some (dA ka, ty)) (h8 : ka = 8 ∧ ty = .int ∨ ka = 9 ∧ ty = .boolean) (h0 : 0 ≤ x) (hx : x ≤ 1000000) (hbc : 1 ≤ bc) (hbs : x.toNat ≤ bs) (K : AW E mi k (bc - 1) (bs - x.toNat) (pc + 2) L (kR (G.1 + 1) :: S) (kNew G ka x.toNat) (kNewD G d) Q) : AW E mi k bc bs pc L (kI x :: S) G d Q := by
  intro p e s m args below meth c H locs cells slots mc ms ls C hH hS hB hL hn hv h1 h2
  obtain ⟨hx', hb, hr, hml, hfcls, hts, hlk, hnam, hK, hNw, hAO⟩ := id C
  have hN : kN x := kvh hv
  have hcr : cells + 1 ≤ (kRm k mc ms).cells := by show cells + 1 ≤ mc; omega
  have hsr : slots + x.toNat ≤ (kRm k mc ms).slots := by show slots + x.toNat ≤ ms; omega
  subst hty
  have hcb : x.toNat * componentBytes (newarray.typeOf at') ≤ 536870912 := by
    have : componentBytes (newarray.typeOf at') ≤ 4 := by rcases h8 with ⟨-, h⟩ | ⟨-, h⟩ <;> rw [h] <;> decide
    have h3 : x.toNat ≤ 1000000 := by omega
    calc x.toNat * componentBytes (newarray.typeOf at') ≤ 1000000 * 4 := Nat.mul_le_mul h3 this
      _ ≤ 536870912 := by omega
  rw [List.map_cons]
  refine va_newaK hx' hb (hts _ hw) rfl hd rfl (fun q => by have : Int32.ofInt x < Int32.ofInt 0 := q; rw [kT_lt hN ⟨by omega, by omega⟩] at this; omega) (kT_cl hN) hcb hcr hsr hH.2.1 fun H1 cA e1 z1 o1 hAr hNm => ?_
  have hcA : cA = E.2.2.1 ka := by
    have hRA := (hK.2 t _ (ht _)).2
    rcases h8 with ⟨-, h⟩ | ⟨-, h⟩ <;> rw [h] at hRA hNm <;> exact Option.some.inj (hNm.symm.trans hRA)
  subst hcA
  have z1' : H1.size = H.size + 1 := by rw [z1, hH.2.1]
  have o1' : ∀ q, q < H.size → H1[q]? = H[q]? := fun q hq => o1 q (by rw [← hH.2.1]; exact hq)
  have ea : E.2.2.2 + 1 + G.1 = E.2.2.2 + (G.1 + 1) := by omega
  have hat : va_at E.2.1 vwCl (E.2.2.2 + (G.1 + 1), kCell E.2.2.1 E.2.2.2 (ka, x.toNat) (fun _ => 0) (fun _ => 0)) H1 := by
    rw [kCellI (ka := ka) rfl (by rcases h8 with ⟨h, -⟩ | ⟨h, -⟩ <;> simp [h])]
    show H1[_]? = some (vp_cell _ _)
    rw [← ea, e1, vp_cell_i]
    rcases h8 with ⟨-, h⟩ | ⟨-, h⟩ <;> rw [h] <;> rfl
  have K' := K p e s m args below meth c H1 locs (cells + 1) (slots + x.toNat) mc ms ls C (hH.push hat z1' o1') (kS_push hS z1' o1') hB hL hn (kv1 (v := kR (G.1 + 1)) trivial (kvt hv)) (by omega) (by omega)
  rw [List.map_cons, toV_r (by omega)] at K'
  rw [ea]
  exact K'
theorem A_newq {ka t idx : Nat} {Cn : String} {x : Int} (hd : decode mi.2.1 pc = .ok (.anewarray idx, 3)) (hw : Cond.classLink mi.1.cls idx Cn ∈ gT) (hao : ∀ U, kK E U → va_AO Cn U) (ht : ∀ dA : Nat → ClassId, (kTys dA)[t]? = some (dA ka, .object Cn)) (h8 : 10 ≤ ka) (h0 : 0 ≤ x) (hx : x ≤ 1000000) (hbc : 1 ≤ bc) (hbs : x.toNat ≤ bs) (K : AW E mi k (bc - 1) (bs - x.toNat) (pc + 3) L (kR (G.1 + 1) :: S) (kNew G ka x.toNat) (kNewD G d) Q) : AW E mi k bc bs pc L (kI x :: S) G d Q := by
  intro p e s m args below meth c H locs cells slots mc ms ls C hH hS hB hL hn hv h1 h2
  have hKK := C.2.2.2.2.2.2.2.2
  obtain ⟨hx', hb, hr, hml, hfcls, hts, hlk, hnam, hK, hNw, hAO⟩ := id C
  have hN : kN x := kvh hv
  have hcr : cells + 1 ≤ (kRm k mc ms).cells := by show cells + 1 ≤ mc; omega
  have hsr : slots + (Int32.ofInt x).toNatClampNeg ≤ (kRm k mc ms).slots := by rw [kT_cl hN]; show slots + x.toNat ≤ ms; omega
  rw [List.map_cons]
  refine W.anew hx' hb hfcls (hts _ hw) (va_AO.use (hao _ hKK)) rfl hd rfl (fun q => by have : Int32.ofInt x < Int32.ofInt 0 := q; rw [kT_lt hN ⟨by omega, by omega⟩] at this; omega) (by rw [kT_cl hN]; omega) hcr hsr fun cA kAA comp f1 f2 f3 f4 => ?_
  have hcA : cA = E.2.2.1 ka := by
    obtain ⟨kB, comp', g1, g2, g3, g4⟩ := (hK.2 t _ (ht _)).2
    exact Option.some.inj (f1.symm.trans g4)
  subst hcA
  rw [kT_cl hN]
  generalize hH1 : H.push ({ cls := E.2.2.1 ka, slots := Array.replicate x.toNat .null, vm := .none } : Cell) = H1
  have z1' : H1.size = H.size + 1 := by rw [← hH1, Array.size_push]
  have e1 : H1[H.size]? = some (arrV (E.2.2.1 ka) x.toNat (fun _ => .null)) := by rw [← hH1, Array.getElem?_push_size, ← arrV_new]
  have o1' : ∀ q : Nat, q < H.size → H1[q]? = H[q]? := fun q hq => by rw [← hH1, Array.getElem?_push, if_neg (Nat.ne_of_lt hq)]
  have ea : H.size = E.2.2.2 + (G.1 + 1) := by rw [hH.2.1]; omega
  have hat : va_at E.2.1 vwCl (E.2.2.2 + (G.1 + 1), kCell E.2.2.1 E.2.2.2 (ka, x.toNat) (fun _ => 0) (fun _ => 0)) H1 := by
    rw [kCellQ (ka := ka) rfl h8]
    show H1[_]? = some (vp_cell _ _)
    rw [← ea, e1, vp_cell_q]
    rfl
  have K' := K p e s m args below meth c H1 locs (cells + 1) (slots + x.toNat) mc ms ls C (hH.push hat z1' o1') (kS_push hS z1' o1') hB hL hn (kv1 (v := kR (G.1 + 1)) trivial (kvt hv)) (by omega) (by omega)
  rw [List.map_cons, toV_r (by omega)] at K'
  rw [ea]
  exact K'
end HP
end
section
section CA
variable {E : EE} {mi mj : MI} {k bc bs pc : Nat} {L : List (Option AV)} {S St : List AV} {G : HG} {d : HD} {Q : PQ}
def kCat : AV → Nat
  | .inr (.inl _) => 2
  | _ => 1
theorem kCat_ok {B : Nat} (S : List AV) : ((S.map (toV B)).map fun v => v.category) = S.map kCat := by
  rw [List.map_map]
  refine List.map_congr_left fun v _ => ?_
  show (toV B v).category = kCat v
  rw [toV_cat]
  rcases v with x | x | a <;> rfl
def kPush (r : Option AV) (S : List AV) : List AV := match r with
  | some v => v :: S
  | none => S
theorem kPc_blind {av : List AV} : FrameBlind (kPc E av G d) := fun _ _ _ _ h => ⟨h.1, h.2.1, kK.same rfl h.2.2.1, h.2.2.2⟩
/-- behind a call, by the callee's contract -/
theorem kAfter {p : Program} {e : Env} {s : State} {m : MethodId} {args a : Array Value} {below : List Frame} {meth : Method} {c : Code} {H : Heap} {locs : List Loc} {cells slots mc ms bc' bs' : Nat} {ls : Array Slot} {st : List Value}
    (hr : CallRun p E.1 e (kRm k mc ms) s m args below meth c H locs cells slots bc' bs' (F0 m pc ls st) (S.map (toV E.2.2.2)) (kQc E (fun r G' d' => AW E mi k (bc - bc') (bs - bs') (pc + 3) L (kPush r S) G' d' Q) a) (kA E.2.2.2))
    (C : kCx E mi p s m args meth c) (hS : va_S (kA E.2.2.2) s.heap H locs) (hB : E.2.2.2 + 1 ≤ s.heap.size) (hL : kLo E.2.2.2 L ls) (hn : L.length = mi.2.2.1) (hv : ∀ v ∈ S, kVN v) (h1 : cells + bc ≤ mc) (h2 : slots + bs ≤ ms) (hbc : bc' ≤ bc) (hbs : bs' ≤ bs) :
    W p E.1 e (kRm k mc ms) s m args below meth c H locs cells slots (MQ below (kQc E Q) args s mc ms (kA E.2.2.2)) (F0 m pc ls st) := by
  intro T hT X
  obtain ⟨v, st₀, t, T', Lc, h0, X', hLc, e1, ⟨r, G', d', hoc, hq, hrn, hH', hF⟩, stp⟩ := hr T hT X
  have hvr : v = r.map (toV E.2.2.2) := Outcome.returned.inj hoc
  subst hvr
  have hS' : va_S (kA E.2.2.2) s.heap t.heap (locs ++ Lc) := by
    refine ⟨Nat.le_trans hS.1 (by rw [← h0]; exact hF.1), fun q g1 g2 => ?_, fun q hq' => ?_⟩
    · have g3 := hF.2 q (by rw [h0]; exact Nat.lt_of_lt_of_le g1 hS.1) g2
      rw [g3, h0]
      exact hS.2.1 q g1 g2
    · rcases List.mem_append.mp hq' with g | g
      · exact hS.2.2 q g
      · exact hLc q g
  have hv' : ∀ v ∈ kPush r S, kVN v := by
    cases r with
    | none => exact hv
    | some w => exact kv1 (hrn w rfl) hv
  have K' := hq p e s m args below meth c t.heap (locs ++ Lc) (cells + bc') (slots + bs') mc ms ls C hH' hS' hB hL hn hv' (by omega) (by omega)
  obtain ⟨t2, a1, b1⟩ := K' T' e1 X'
  have es : (kPush r S).map (toV E.2.2.2) = (r.map (toV E.2.2.2)).toList ++ S.map (toV E.2.2.2) := by
    cases r <;> simp [kPush]
  rw [es] at a1
  exact ⟨t2, stp t2 a1, b1⟩
def kMB (own : String) (idx n : Nat) (mj : MI) : Prop := Cond.methodLink own idx mj.1 ∈ gT ∧ Cond.initialized mj.1.cls ∈ gT ∧ Cond.code mj.1 mj.2.1 mj.2.2.1 mj.2.2.2 ∈ gT ∧ (mj.1.cls ≠ "java/lang/invoke/MethodHandle" ∧ mj.1.cls ≠ "java/lang/invoke/VarHandle" ∧ (parseMethodDescriptor mj.1.desc).map (fun d => d.parameters.length) = some n) ∧ mj.2.2.1 ≤ 41
def kMV (own : String) (idx n : Nat) (mj : MI) : Prop := kMB own idx n mj ∧ Cond.instanceMethod mj.1 ∈ gT ∧ Cond.selects mj.1.cls mj.1 mj.1 ∈ gT
def kMS (own : String) (idx n : Nat) (mj : MI) : Prop := kMB own idx n mj ∧ Cond.static mj.1 ∈ gT
def kMC (own : String) (idx n : Nat) (mj : MI) : Prop := kMB own idx n mj ∧ Cond.instanceMethod mj.1 ∈ gT ∧ mj.1.name = "<init>" ∧ mj.2.2.2 = none
def kMN (own : String) (idx n : Nat) (mj : MI) : Prop := (own, idx, mj.1, "KnotRing") ∈ kNestM ∧ Cond.initialized mj.1.cls ∈ gT ∧ Cond.code mj.1 mj.2.1 mj.2.2.1 mj.2.2.2 ∈ gT ∧ (mj.1.cls ≠ "java/lang/invoke/MethodHandle" ∧ mj.1.cls ≠ "java/lang/invoke/VarHandle" ∧ (parseMethodDescriptor mj.1.desc).map (fun d => d.parameters.length) = some n) ∧ mj.2.2.1 ≤ 41 ∧ Cond.instanceMethod mj.1 ∈ gT ∧ mj.1.name = "<init>" ∧ mj.2.2.2 = none
theorem kWS_good (h : Cond.code mj.1 mj.2.1 mj.2.2.1 mj.2.2.2 ∈ gT) : GoodIn gT (kWS mj) := fun w hw => by
  rcases List.mem_cons.mp hw with rfl | hw
  · exact gT_good _ h
  · exact gT_good _ hw
theorem kB_of {s : State} {args : Array Value} {own : String} {idx n bc' bs' mc ms : Nat} (hts : ∀ w ∈ gT, w.before args s = true) (h : kMB own idx n mj) : CallB (kRm (k + 1) mc ms) s args own idx mj.1 mj.2.1 mj.2.2.1 mj.2.2.2 (kWS mj) (kRm k bc' bs') bc' bs' n := by
  obtain ⟨g1, g2, g3, g4, g5⟩ := h
  exact callB_of n hts (kWS_good g3) rfl rfl rfl (hts _ g2) (hts _ g1) g4 ⟨Nat.le_refl _, by show 8 + (mj.2.2.1 + 11) + 60 * k ≤ 60 * (k + 1); omega⟩
theorem A_inv {idx n bc' bs' ci b : Nat} {T : u_T} (As : List AV) (hd : decode mi.2.1 pc = .ok (.invokevirtual idx, 3)) (ml : kMV mi.1.cls idx n mj) (hc : kCl ci mj.1.cls T) (hst : St = As.reverse ++ kR b :: S) (hn : As.length = n) (hcat : (S.map kCat).sum ≤ 8) (hbc : bc' ≤ bc) (hbs : bs' ≤ bs) (ho : isO G b ci)
    (K : AM E mj k bc' bs' (kR b :: As) G d (fun r G' d' => AW E mi (k + 1) (bc - bc') (bs - bs') (pc + 3) L (kPush r S) G' d' Q)) : AW E mi (k + 1) bc bs pc L St G d Q := by
  intro p e s m args below meth c H locs cells slots mc ms ls C hH hS hB hL hnL hv h1 h2
  obtain ⟨mb, hin, hsel⟩ := ml
  obtain ⟨hx, hb, hr, hml, hfcls, hts, hlk, hnam, hK⟩ := id C
  have hP := kAtO hH ho hc.2.2.2.2.2
  subst hst
  have hvA : ∀ v ∈ kR b :: As, kVN v := kv1 trivial (fun v h => hv v (List.mem_append_left _ (List.mem_reverse.mpr h)))
  have hvS : ∀ v ∈ S, kVN v := fun v h => hv v (List.mem_append_right _ (List.mem_cons_of_mem _ h))
  have hpre : PreV s H mj.1.cls (E.2.2.2 + b) (kPc E (kR b :: As) G d) (As.map (toV E.2.2.2)) := ⟨kPc_blind, va_recv hK.1 hP (ci := ci) (q0 := 0) hc.1 rfl, fun U hU hW => ⟨by rw [List.map_cons, toV_r ho.1], by rw [hU]; exact hH, hK.moved hW, hvA⟩⟩
  have hrun := W.runV (cc := mi.2.1) (nL := mi.2.2.1) (Ts := gT) (own := mi.1.cls) (e := e) (below := below) (meth := meth) (locs := locs) (cells := cells) (slots := slots) (g := F0 m pc ls ((As.reverse ++ kR b :: S).map (toV E.2.2.2))) (rest := S.map (toV E.2.2.2)) ⟨hx, hb, hml, hfcls, hts⟩ K ⟨kB_of (mc := mc) (ms := ms) hts mb, hts _ hin, hts _ hsel⟩ hpre rfl (by simp [hn]) (by rw [← hnL]; exact hL.1) (by simp [toV_r ho.1]) (by show 2 * 0 + _ ≤ 8; rw [kCat_ok]; omega) hd ⟨by show cells + bc' ≤ mc; omega, by show slots + bs' ≤ ms; omega⟩
  exact kAfter hrun C hS hB hL hnL hvS h1 h2 hbc hbs
theorem A_ins {idx n bc' bs' : Nat} (As : List AV) (hd : decode mi.2.1 pc = .ok (.invokestatic idx, 3)) (ml : kMS mi.1.cls idx n mj) (hst : St = As.reverse ++ S) (hn : As.length = n) (hcat : (S.map kCat).sum ≤ 8) (hbc : bc' ≤ bc) (hbs : bs' ≤ bs)
    (K : AM E mj k bc' bs' As G d (fun r G' d' => AW E mi (k + 1) (bc - bc') (bs - bs') (pc + 3) L (kPush r S) G' d' Q)) : AW E mi (k + 1) bc bs pc L St G d Q := by
  intro p e s m args below meth c H locs cells slots mc ms ls C hH hS hB hL hnL hv h1 h2
  obtain ⟨mb, hstt⟩ := ml
  obtain ⟨hx, hb, hr, hml, hfcls, hts, hlk, hnam, hK⟩ := id C
  subst hst
  have hvA : ∀ v ∈ As, kVN v := fun v h => hv v (List.mem_append_left _ (List.mem_reverse.mpr h))
  have hvS : ∀ v ∈ S, kVN v := fun v h => hv v (List.mem_append_right _ h)
  have hpre : PreS s H (kPc E As G d) (As.map (toV E.2.2.2)) := ⟨kPc_blind, fun U hU hW => ⟨rfl, by rw [hU]; exact hH, hK.moved hW, hvA⟩⟩
  have hrun := W.runS (cc := mi.2.1) (nL := mi.2.2.1) (Ts := gT) (own := mi.1.cls) (e := e) (below := below) (meth := meth) (locs := locs) (cells := cells) (slots := slots) (g := F0 m pc ls ((As.reverse ++ S).map (toV E.2.2.2))) (rest := S.map (toV E.2.2.2)) ⟨hx, hb, hml, hfcls, hts⟩ K ⟨kB_of (mc := mc) (ms := ms) hts mb, hts _ hstt⟩ hpre rfl (by simp [hn]) (by rw [← hnL]; exact hL.1) (by simp) (by show 2 * 0 + _ ≤ 8; rw [kCat_ok]; omega) hd ⟨by show cells + bc' ≤ mc; omega, by show slots + bs' ≤ ms; omega⟩
  exact kAfter hrun C hS hB hL hnL hvS h1 h2 hbc hbs
theorem A_ini {idx n bc' bs' b : Nat} (As : List AV) (hd : decode mi.2.1 pc = .ok (.invokespecial idx, 3)) (ml : kMC mi.1.cls idx n mj) (hst : St = As.reverse ++ kR b :: S) (hn : As.length = n) (hcat : (S.map kCat).sum ≤ 8) (hbc : bc' ≤ bc) (hbs : bs' ≤ bs) (ho : 1 ≤ b)
    (K : AM E mj k bc' bs' (kR b :: As) G d (fun r G' d' => AW E mi (k + 1) (bc - bc') (bs - bs') (pc + 3) L (kPush r S) G' d' Q)) : AW E mi (k + 1) bc bs pc L St G d Q := by
  intro p e s m args below meth c H locs cells slots mc ms ls C hH hS hB hL hnL hv h1 h2
  obtain ⟨mb, hin, hini, hno⟩ := ml
  obtain ⟨hx, hb, hr, hml, hfcls, hts, hlk, hnam, hK⟩ := id C
  subst hst
  have hvA : ∀ v ∈ kR b :: As, kVN v := kv1 trivial (fun v h => hv v (List.mem_append_left _ (List.mem_reverse.mpr h)))
  have hvS : ∀ v ∈ S, kVN v := fun v h => hv v (List.mem_append_right _ (List.mem_cons_of_mem _ h))
  have hpre : PreS s H (kPc E (kR b :: As) G d) (.ref (E.2.2.2 + b) :: As.map (toV E.2.2.2)) := ⟨kPc_blind, fun U hU hW => ⟨by rw [List.map_cons, toV_r ho], by rw [hU]; exact hH, hK.moved hW, hvA⟩⟩
  have hcb := kB_of (k := k) (bc' := bc') (bs' := bs') (mc := mc) (ms := ms) hts mb
  rw [hno] at hcb
  have hrun := W.runI (cc := mi.2.1) (nL := mi.2.2.1) (Ts := gT) (own := mi.1.cls) (e := e) (below := below) (meth := meth) (locs := locs) (cells := cells) (slots := slots) (g := F0 m pc ls ((As.reverse ++ kR b :: S).map (toV E.2.2.2))) (rest := S.map (toV E.2.2.2)) ⟨hx, hb, hml, hfcls, hts⟩ K ⟨hcb, hini, hts _ hin⟩ hpre rfl (by simp [hn]) (by rw [← hnL]; exact hL.1) (by simp [toV_r ho]) (by show 2 * 0 + _ ≤ 8; rw [kCat_ok]; omega) hd ⟨by show cells + bc' ≤ mc; omega, by show slots + bs' ≤ ms; omega⟩
  exact kAfter hrun C hS hB hL hnL hvS h1 h2 hbc hbs
theorem A_inN {idx n bc' bs' b : Nat} (As : List AV) (hd : decode mi.2.1 pc = .ok (.invokespecial idx, 3)) (ml : kMN mi.1.cls idx n mj) (hst : St = As.reverse ++ kR b :: S) (hn : As.length = n) (hcat : (S.map kCat).sum ≤ 8) (hbc : bc' ≤ bc) (hbs : bs' ≤ bs) (ho : 1 ≤ b)
    (K : AM E mj k bc' bs' (kR b :: As) G d (fun r G' d' => AW E mi (k + 1) (bc - bc') (bs - bs') (pc + 3) L (kPush r S) G' d' Q)) : AW E mi (k + 1) bc bs pc L St G d Q := by
  intro p e s m args below meth c H locs cells slots mc ms ls C hH hS hB hL hnL hv h1 h2
  obtain ⟨hnw, g2, g3, g4, g5, hin, hini, hno⟩ := ml
  obtain ⟨hx, hb, hr, hml, hfcls, hts, hlk, hnam, hK⟩ := id C
  subst hst
  have hvA : ∀ v ∈ kR b :: As, kVN v := kv1 trivial (fun v h => hv v (List.mem_append_left _ (List.mem_reverse.mpr h)))
  have hvS : ∀ v ∈ S, kVN v := fun v h => hv v (List.mem_append_right _ (List.mem_cons_of_mem _ h))
  have hpre : PreS s H (kPc E (kR b :: As) G d) (.ref (E.2.2.2 + b) :: As.map (toV E.2.2.2)) := ⟨kPc_blind, fun U hU hW => ⟨by rw [List.map_cons, toV_r ho], by rw [hU]; exact hH, hK.moved hW, hvA⟩⟩
  have hcb : va_CN (kRm (k + 1) mc ms) s args mi.1.cls idx mj.1 "KnotRing" mj.2.1 mj.2.2.1 mj.2.2.2 (kWS mj) (kRm k bc' bs') bc' bs' n := va_cnB n hts (kWS_good g3) rfl rfl rfl (hK.2.1.2 _ hnw) (hts _ g2) g4 ⟨Nat.le_refl _, by show 8 + (mj.2.2.1 + 11) + 60 * k ≤ 60 * (k + 1); omega⟩
  rw [hno] at hcb
  have hrun := va_runIN (cc := mi.2.1) (nL := mi.2.2.1) (Ts := gT) (own := mi.1.cls) (e := e) (below := below) (meth := meth) (locs := locs) (cells := cells) (slots := slots) (g := F0 m pc ls ((As.reverse ++ kR b :: S).map (toV E.2.2.2))) (rest := S.map (toV E.2.2.2)) ⟨hx, hb, hml, hfcls, hts⟩ K ⟨hcb, hini, hts _ hin⟩ hpre rfl (by simp [hn]) (by rw [← hnL]; exact hL.1) (by simp [toV_r ho]) (by show 2 * 0 + _ ≤ 8; rw [kCat_ok]; omega) hd ⟨by show cells + bc' ≤ mc; omega, by show slots + bs' ≤ ms; omega⟩
  exact kAfter hrun.run C hS hB hL hnL hvS h1 h2 hbc hbs
theorem A_obj {idx b : Nat} (hd : decode mi.2.1 pc = .ok (.invokespecial idx, 3)) (hw1 : Cond.methodLink mi.1.cls idx Lib.objectInit ∈ gT) (hw2 : Cond.instanceMethod Lib.objectInit ∈ gT) (hw3 : Cond.code Lib.objectInit ⟨#[0xb1]⟩ 1 none ∈ gT) (hcat : (S.map kCat).sum ≤ 8) (ho : 1 ≤ b) (K : AW E mi (k + 1) bc bs (pc + 3) L S G d Q) : AW E mi (k + 1) bc bs pc L (kR b :: S) G d Q := by
  intro p e s m args below meth c H locs cells slots mc ms ls C hH hS hB hL hnL hv h1 h2
  obtain ⟨hx, hb, hr, hml, hfcls, hts, hlk, hnam, hK⟩ := id C
  refine W.objInit hx hb hfcls (hts _ hw1) (hts _ hw2) (hts _ hw3) rfl (by rw [hml, ← hnL]; exact hL.1) (a := E.2.2.2 + b) (rest := S.map (toV E.2.2.2)) (by simp [toV_r ho]) hd (by show 1 ≤ k + 1; omega) (by show 2 * 0 + _ + 12 ≤ 60 * (k + 1); rw [kCat_ok]; omega) ?_
  exact K p e s m args below meth c H locs cells slots mc ms ls C hH hS hB hL hnL (kvt hv) h1 h2
theorem A_max {x y : Int} {idx : Nat} (hd : decode mi.2.1 pc = .ok (.invokestatic idx, 3)) (hw1 : Cond.methodLink mi.1.cls idx Lib.Math.max.name ∈ gT) (hw2 : Cond.static Lib.Math.max.name ∈ gT) (hw3 : Cond.initialized "java/lang/Math" ∈ gT) (hw4 : Cond.code Lib.Math.max.name Lib.Math.max.code 2 (some .int) ∈ gT) (hcat : (S.map kCat).sum ≤ 8) (K : AW E mi (k + 1) bc bs (pc + 3) L (kI (max x y) :: S) G d Q) : AW E mi (k + 1) bc bs pc L (kI y :: kI x :: S) G d Q := by
  intro p e s m args below meth c H locs cells slots mc ms ls C hH hS hB hL hnL hv h1 h2
  obtain ⟨hx, hb, hr, hml, hfcls, hts, hlk, hnam, hK⟩ := id C
  have hy' : kN y := kvh hv
  have hx' : kN x := kvh (kvt hv)
  have hm : kVN (kI (max x y)) := by show kN (max x y); rcases Int.le_total x y with h | h; (rw [Int.max_eq_right h]; exact hy'); (rw [Int.max_eq_left h]; exact hx')
  have K' := K p e s m args below meth c H locs cells slots mc ms ls C hH hS hB hL hnL (kv1 hm (kvt (kvt hv))) h1 h2
  refine va_mmax hx hb (by rw [hml, ← hnL]; exact hL.1.symm) hfcls (hts _ hw1) (hts _ hw2) (hts _ hw3) (hts _ hw4) (by show 1 ≤ k + 1; omega) (by show _ + 13 ≤ 60 * (k + 1); rw [kCat_ok]; omega) (by show cells ≤ mc; omega) (by show slots ≤ ms; omega) hd ?_
  have ev : (if Int32.ofInt x < Int32.ofInt y then Int32.ofInt y else Int32.ofInt x) = Int32.ofInt (max x y) := by
    rcases Int.lt_or_le x y with h | h
    · rw [if_pos ((kT_lt hx' hy').mpr h), Int.max_eq_right (by omega)]
    · rw [if_neg (fun q => by have := (kT_lt hx' hy').mp q; omega), Int.max_eq_left h]
  rw [ev]
  exact K'
theorem A_min {x y : Int} {idx : Nat} (hd : decode mi.2.1 pc = .ok (.invokestatic idx, 3)) (hw1 : Cond.methodLink mi.1.cls idx Lib.Math.min.name ∈ gT) (hw2 : Cond.static Lib.Math.min.name ∈ gT) (hw3 : Cond.initialized "java/lang/Math" ∈ gT) (hw4 : Cond.code Lib.Math.min.name Lib.Math.min.code 2 (some .int) ∈ gT) (hcat : (S.map kCat).sum ≤ 8) (K : AW E mi (k + 1) bc bs (pc + 3) L (kI (min x y) :: S) G d Q) : AW E mi (k + 1) bc bs pc L (kI y :: kI x :: S) G d Q := by
  intro p e s m args below meth c H locs cells slots mc ms ls C hH hS hB hL hnL hv h1 h2
  obtain ⟨hx, hb, hr, hml, hfcls, hts, hlk, hnam, hK⟩ := id C
  have hy' : kN y := kvh hv
  have hx' : kN x := kvh (kvt hv)
  have hm : kVN (kI (min x y)) := by show kN (min x y); rcases Int.le_total x y with h | h; (rw [Int.min_eq_left h]; exact hx'); (rw [Int.min_eq_right h]; exact hy')
  have K' := K p e s m args below meth c H locs cells slots mc ms ls C hH hS hB hL hnL (kv1 hm (kvt (kvt hv))) h1 h2
  refine va_mmin hx hb (by rw [hml, ← hnL]; exact hL.1.symm) hfcls (hts _ hw1) (hts _ hw2) (hts _ hw3) (hts _ hw4) (by show 1 ≤ k + 1; omega) (by show _ + 13 ≤ 60 * (k + 1); rw [kCat_ok]; omega) (by show cells ≤ mc; omega) (by show slots ≤ ms; omega) hd ?_
  have ev : (if Int32.ofInt y < Int32.ofInt x then Int32.ofInt y else Int32.ofInt x) = Int32.ofInt (min x y) := by
    rcases Int.lt_or_le y x with h | h
    · rw [if_pos ((kT_lt hy' hx').mpr h), Int.min_eq_right (by omega)]
    · rw [if_neg (fun q => by have := (kT_lt hy' hx').mp q; omega), Int.min_eq_left h]
  rw [ev]
  exact K'
def kCpy (d : HD) (a b : Nat) (sp dp n : Int) : HD := fun c j => if c = b ∧ dp ≤ j ∧ j < dp + n then d a (sp + (j - dp)) else d c j
theorem A_acp {a b n0 n1 idx : Nat} {sp dp n : Int} (hd : decode mi.2.1 pc = .ok (.invokestatic idx, 3)) (hw1 : Cond.methodLink mi.1.cls idx arraycopyName ∈ gT) (hw2 : Cond.native arraycopyName ∈ gT) (hw3 : Cond.static arraycopyName ∈ gT) (hw4 : Cond.initialized "java/lang/System" ∈ gT) (hcat : (S.map kCat).sum ≤ 8)
    (ha : isA G a 8 n0) (hb' : isA G b 8 n1) (hs0 : 0 ≤ sp) (hd0 : 0 ≤ dp) (hn0 : 0 ≤ n) (hsn : sp + n ≤ n0) (hdn : dp + n ≤ n1) (K : AW E mi (k + 1) bc bs (pc + 3) L S G (kCpy d a b sp dp n) Q) : AW E mi (k + 1) bc bs pc L (kI n :: kI dp :: kR b :: kI sp :: kR a :: S) G d Q := by
  intro p e s m args below meth c H locs cells slots mc ms ls C hH hS hB hL hnL hv h1 h2
  obtain ⟨hx, hb, hr, hml, hfcls, hts, hlk, hnam, hK⟩ := id C
  have gn : kN n := kvh hv
  have gd : kN dp := kvh (kvt hv)
  have gs : kN sp := kvh (kvt (kvt (kvt hv)))
  have hPa := kAtI hH ha (Or.inl rfl)
  have hPb := kAtI hH hb' (Or.inl rfl)
  rw [List.map_cons, List.map_cons, List.map_cons, List.map_cons, List.map_cons, toV_r ha.1, toV_r hb'.1]
  have nneg : ∀ {z : Int}, kN z → 0 ≤ z → ¬ Int32.ofInt z < 0 := fun {z} g1 g2 q => by
    have : Int32.ofInt z < Int32.ofInt 0 := q
    rw [kT_lt g1 ⟨by omega, by omega⟩] at this
    omega
  intro T hT X
  have hc0 : H[E.2.2.2 + a]? = some (arrV (E.2.2.1 8) n0 (fun j => .int (Int32.ofInt (d a j)))) := hPa 0 _ rfl
  have hc1 : H[E.2.2.2 + b]? = some (arrV (E.2.2.1 8) n1 (fun j => .int (Int32.ofInt (d b j)))) := hPb 0 _ rfl
  obtain ⟨-, k0, hk0, cm0, hkk0⟩ := (hK.1.2 0 _ rfl).1 n0 (fun j => .int (Int32.ofInt (d a j)))
  obtain ⟨vm', X', step⟩ := X.arraycopy hx hfcls (hts _ hw1) (hts _ hw2) (hts _ hw3) (hts _ hw4) (src := E.2.2.2 + a) (dst := E.2.2.2 + b) (cs := arrV (E.2.2.1 8) n0 (fun j => .int (Int32.ofInt (d a j)))) (cd := arrV (E.2.2.1 8) n1 (fun j => .int (Int32.ofInt (d b j)))) (srcPos := Int32.ofInt sp) (destPos := Int32.ofInt dp) (n := Int32.ofInt n) (by rw [hT]; exact hc0) (by rw [hT]; exact hc1)
    (fun _ h => by cases h) (fun _ h => by cases h) (fun h => by cases h) (fun h => by cases h) hk0 hk0 hkk0 hkk0 rfl (nneg gs hs0) (nneg gd hd0) (nneg gn hn0)
    (by rw [kT gs, kT gn, arrV_size]; omega) (by rw [kT gd, kT gn, arrV_size]; omega)
    (fun vm₁ _ i hi => by
      rw [kT_cl gn] at hi
      have ev : (arrV (E.2.2.1 8) n0 (fun j => .int (Int32.ofInt (d a j)))).slots.getD ((Int32.ofInt sp).toNatClampNeg + i) .null = .int (Int32.ofInt (d a ((Int32.ofInt sp).toNatClampNeg + i))) := by
        rw [Array.getD_eq_getD_getElem?, arrV_read _ _ (by rw [kT_cl gs]; omega)]
        rfl
      rw [ev]
      exact ⟨rfl, trivial⟩)
    (g := F0 m pc ls (.int (Int32.ofInt n) :: .int (Int32.ofInt dp) :: .ref (E.2.2.2 + b) :: .int (Int32.ofInt sp) :: .ref (E.2.2.2 + a) :: S.map (toV E.2.2.2))) rfl (by rw [hml, ← hnL]; exact hL.1) (rest := S.map (toV E.2.2.2)) rfl (by rw [hb]; exact hd) (by show 1 ≤ k + 1; omega) (by
      have e5 : nativeFrameWords "java/lang/System" "arraycopy" 5 + 11 ≤ 52 := by decide +kernel
      show 2 * 0 + _ + _ ≤ 60 * (k + 1)
      rw [kCat_ok]
      omega)
  have e1 : copied (arrV (E.2.2.1 8) n0 (fun j => .int (Int32.ofInt (d a j)))) (arrV (E.2.2.1 8) n1 (fun j => .int (Int32.ofInt (d b j)))) (Int32.ofInt sp) (Int32.ofInt dp) (Int32.ofInt n) = arrV (E.2.2.1 8) n1 (fun j => .int (va_cpy (fun j => Int32.ofInt (d a j)) (fun j => Int32.ofInt (d b j)) (Int32.ofInt sp).toNatClampNeg (Int32.ofInt dp).toNatClampNeg (Int32.ofInt n).toNatClampNeg j)) :=
    va_copied (fun z : Int32 => Value.int z) (E.2.2.1 8) (E.2.2.1 8) (fun j => Int32.ofInt (d a j)) (fun j => Int32.ofInt (d b j)) (by rw [kT_cl gs, kT_cl gn]; omega)
  rw [e1, kT_cl gs, kT_cl gd, kT_cl gn] at X' step
  have hlt : E.2.2.2 + b < H.size := (Array.getElem?_eq_some_iff.mp hc1).1
  generalize hcell : arrV (E.2.2.1 8) n1 (fun j => .int (va_cpy (fun j => Int32.ofInt (d a j)) (fun j => Int32.ofInt (d b j)) sp.toNat dp.toNat n.toNat j)) = cellN at X' step
  have oq : ∀ q : Nat, q ≠ E.2.2.2 + b → (H.setIfInBounds (E.2.2.2 + b) cellN)[q]? = H[q]? := fun q hq => by simp [Array.getElem?_setIfInBounds, Ne.symm hq]
  have hkH : kH E G (kCpy d a b sp dp n) (H.setIfInBounds (E.2.2.2 + b) cellN) := by
    refine hH.set (a := b) rfl (fun z h => ⟨rfl, rfl, by funext j; simp [kCpy, h]⟩) ?_ (by simp) oq (fun i => ?_)
    · rw [kCellI hb'.2.2.1 (Or.inl rfl)]
      show (H.setIfInBounds _ _)[_]? = some (vp_cell _ _)
      rw [vp_cell_i, ← hcell]
      simp only [Array.getElem?_setIfInBounds, hlt, if_true]
      congr 3
      funext j
      have hcd : (dp ≤ (j : Int) ∧ (j : Int) < dp + n) ↔ (dp.toNat ≤ j ∧ j < dp.toNat + n.toNat) := by omega
      simp only [va_cpy, kCpy, true_and]
      by_cases h : dp.toNat ≤ j ∧ j < dp.toNat + n.toNat
      · rw [if_pos h, if_pos (hcd.mpr h), show sp + ((j : Int) - dp) = ((sp.toNat + (j - dp.toNat) : Nat) : Int) by omega]
      · rw [if_neg h, if_neg (fun q => h (hcd.mp q))]
    · unfold kCpy
      split <;> exact hH.2.2 _ _
  have hS' : va_S (kA E.2.2.2) s.heap (H.setIfInBounds (E.2.2.2 + b) cellN) (locs ++ ((arrV (E.2.2.1 8) n0 (fun j => .int (Int32.ofInt (d a j)))).stretch sp.toNat n.toNat).zipIdx.map fun q => ⟨E.2.2.2 + b, dp.toNat + q.2⟩) := by
    refine ⟨by simp; exact hS.1, fun q g1 g2 => ?_, fun q hq => ?_⟩
    · rw [oq q (fun e' => g2 (by rw [e']; unfold kA; have := hb'.1; omega))]
      exact hS.2.1 q g1 g2
    · rcases List.mem_append.mp hq with h | h
      · exact hS.2.2 q h
      · obtain ⟨z, -, hz⟩ := List.mem_map.mp h
        rw [← hz]
        show E.2.2.2 + 1 ≤ E.2.2.2 + b
        have := hb'.1
        omega
  obtain ⟨t, a1, b1⟩ := K p e s m args below meth c _ _ cells slots mc ms ls C hkH hS' hB hL hnL (kvt (kvt (kvt (kvt (kvt hv))))) h1 h2 ((T.setVm vm').setCell (E.2.2.2 + b) cellN) (by rw [← hT]; rfl) X'
  exact ⟨t, step t a1, b1⟩
def kClo (G : HG) (d : HD) (a : Nat) : HD := fun c j => if c = G.1 + 1 then d a j else d c j
theorem A_cln {a n idx : Nat} (hd : decode mi.2.1 pc = .ok (.invokevirtual idx, 3)) (hw1 : Cond.methodLink mi.1.cls idx ⟨"[I", "clone", "()Ljava/lang/Object;"⟩ ∈ gT) (hw2 : Cond.sameMethod "[I" "java/lang/Object" "clone" "()Ljava/lang/Object;" ∈ gT) (hw3 : Cond.native ⟨"java/lang/Object", "clone", "()Ljava/lang/Object;"⟩ ∈ gT) (hw4 : Cond.instanceMethod ⟨"java/lang/Object", "clone", "()Ljava/lang/Object;"⟩ ∈ gT) (hw5 : Cond.selects "[I" ⟨"[I", "clone", "()Ljava/lang/Object;"⟩ ⟨"java/lang/Object", "clone", "()Ljava/lang/Object;"⟩ ∈ gT) (hcat : (S.map kCat).sum ≤ 8) (hbc : 1 ≤ bc) (hbs : n ≤ bs)
    (ha : isA G a 8 n) (K : AW E mi (k + 1) (bc - 1) (bs - n) (pc + 3) L (kR (G.1 + 1) :: S) (kNew G 8 n) (kClo G d a) Q) : AW E mi (k + 1) bc bs pc L (kR a :: S) G d Q := by
  intro p e s m args below meth c H locs cells slots mc ms ls C hH hS hB hL hnL hv h1 h2
  obtain ⟨hx, hb, hr, hml, hfcls, hts, hlk, hnam, hK⟩ := id C
  have hPa := kAtI hH ha (Or.inl rfl)
  rw [List.map_cons, toV_r ha.1]
  have hnm : s.vm.findClass "[I" = some (E.2.2.1 8) := (hK.1.2 0 _ rfl).2
  obtain ⟨c0, t0', f1, f2, f3⟩ := Cond.castable_spec (va_Nw.use (A := args) rfl hK.2.2.2)
  cases hnm.symm.trans f1
  have hc0 : H[E.2.2.2 + a]? = some (arrV (E.2.2.1 8) n (fun j => .int (Int32.ofInt (d a j)))) := hPa 0 _ rfl
  intro T hT X
  obtain ⟨-, kS, hkS, compS, hkindS⟩ := (hK.1.2 0 _ rfl).1 0 (fun _ => .null)
  obtain ⟨-, kB, hkB, comp, hkind⟩ := State.isArrayOf_alike X.warmed.alike ((hK.1.2 0 _ rfl).1 0 (fun _ => .null))
  obtain ⟨vm', X', st⟩ := X.cloneArray hx hfcls (hts _ hw1) (hts _ hw2) (hts _ hw3) (hts _ hw4) (hts _ hw5) (a := E.2.2.2 + a) (cell := arrV (E.2.2.1 8) n (fun j => .int (Int32.ofInt (d a j)))) (by rw [hT]; exact hc0) (fun k h => by cases h) (fun h => by cases h) hnm f2 f3
    (fun i v hvv => by
      have hk' : T.vm.classes[(E.2.2.1 8)]? = some kB := hkB
      have hlt : i < n := by
        have := (Array.getElem?_eq_some_iff.mp hvv).1
        rw [arrV_size] at this
        exact this
      rw [arrV_read _ _ hlt] at hvv
      cases hvv
      show State.fitsSlot T (E.2.2.1 8) _ _ _ = true
      simp [State.fitsSlot, State.slotType?, hk', hkind, fits])
    (g := F0 m pc ls (.ref (E.2.2.2 + a) :: S.map (toV E.2.2.2))) rfl (by rw [hml, ← hnL]; exact hL.1) rfl (by rw [hb]; exact hd) (by show 1 ≤ k + 1; omega) (by show 2 * 0 + _ + 14 ≤ 60 * (k + 1); rw [kCat_ok]; omega) (by show cells + 1 ≤ mc; omega) (by rw [arrV_size]; show slots + n ≤ ms; omega) (hloader := Vm.clonesLoader_of_array hkS hkindS)
  have hcellE : ({ cls := (arrV (E.2.2.1 8) n (fun j => .int (Int32.ofInt (d a j)))).cls, slots := (arrV (E.2.2.1 8) n (fun j => .int (Int32.ofInt (d a j)))).slots } : Cell) = arrV (E.2.2.1 8) n (fun j => .int (Int32.ofInt (d a j))) := rfl
  rw [hcellE, arrV_size] at X'
  generalize hH1 : H.push (arrV (E.2.2.1 8) n (fun j => .int (Int32.ofInt (d a j)))) = H1
  have z1 : H1.size = H.size + 1 := by rw [← hH1, Array.size_push]
  have e1 : H1[H.size]? = some (arrV (E.2.2.1 8) n (fun j => .int (Int32.ofInt (d a j)))) := by rw [← hH1, Array.getElem?_push_size]
  have o1 : ∀ q : Nat, q < H.size → H1[q]? = H[q]? := fun q hq => by rw [← hH1, Array.getElem?_push, if_neg (Nat.ne_of_lt hq)]
  have ea : H.size = E.2.2.2 + (G.1 + 1) := by rw [hH.2.1]; omega
  have hkH : kH E (kNew G 8 n) (kClo G d a) H1 := by
    refine ⟨fun b g1 g2 => ?_, by rw [z1, hH.2.1]; show _ = E.2.2.2 + 1 + (G.1 + 1); omega, fun b i => ?_⟩
    · have g2 : b ≤ G.1 + 1 := g2
      by_cases h : b = G.1 + 1
      · subst h
        rw [kCellI (ka := 8) (n := n) (show (kNew G 8 n).2.1 (G.1 + 1) = (8, n) by simp [kNew]) (Or.inl rfl)]
        show H1[_]? = some (vp_cell _ _)
        rw [← ea, e1, vp_cell_i]
        simp [kClo]
      · have e2 : (kNew G 8 n).2.1 b = G.2.1 b := by simp [kNew, h]
        have e3 : (kNew G 8 n).2.2 b = G.2.2 b := by funext i; simp [kNew, h]
        have e4 : kClo G d a b = d b := by funext i; simp [kClo, h]
        rw [e2, e3, e4]
        exact (hH.1 b g1 (by omega)).kept (o1 _ (by show E.2.2.2 + b < _; rw [hH.2.1]; omega))
    · unfold kClo
      split <;> exact hH.2.2 _ _
  have K' := K p e s m args below meth c H1 locs (cells + 1) (slots + n) mc ms ls C hkH (kS_push hS z1 o1) hB hL hnL (kv1 (v := kR (G.1 + 1)) trivial (kvt hv)) (by omega) (by omega)
  obtain ⟨t, b1, b2⟩ := K' ((T.setVm vm').pushCell (arrV (E.2.2.1 8) n (fun j => .int (Int32.ofInt (d a j))))) (by rw [← hH1, ← hT]; rfl) X'
  refine ⟨t, st t ?_, b2⟩
  rw [hcellE, hT, ea]
  rw [List.map_cons, toV_r (by omega)] at b1
  exact b1
theorem A_cast {a n idx : Nat} (hd : decode mi.2.1 pc = .ok (.checkcast idx, 3)) (hw1 : Cond.classLink mi.1.cls idx "[I" ∈ gT) (ha : isA G a 8 n) (K : AW E mi k bc bs (pc + 3) L (kR a :: S) G d Q) : AW E mi k bc bs pc L (kR a :: S) G d Q := by
  intro p e s m args below meth c H locs cells slots mc ms ls C hH hS hB hL hnL hv h1 h2
  obtain ⟨hx, hb, hr, hml, hfcls, hts, hlk, hnam, hK⟩ := id C
  have hPa := kAtI hH ha (Or.inl rfl)
  have K' := K p e s m args below meth c H locs cells slots mc ms ls C hH hS hB hL hnL hv h1 h2
  rw [List.map_cons, toV_r ha.1] at K' ⊢
  exact va_castA hx hb hfcls (hts _ hw1) hPa 0 rfl (hK.1.2 0 _ rfl).2 hd K'
/-! switches -/
theorem A_tsO {dflt lo hi x : Int} {offs : Array Int} {len tgt : Nat} (hd : decode mi.2.1 pc = .ok (.tableswitch dflt lo hi offs, len)) (ht : (pc : Int) + dflt = (tgt : Int)) (h : x < lo ∨ hi < x) (K : AW E mi k bc bs tgt L S G d Q) : AW E mi k bc bs pc L (kI x :: S) G d Q := by
  intro p e s m args below meth c H locs cells slots mc ms ls C hH hS hB hL hnL hv h1 h2
  exact lv_tableOut C.1 C.2.1 hd (by rw [kT (kvh hv)]; exact h) ht (K p e s m args below meth c H locs cells slots mc ms ls C hH hS hB hL hnL (kvt hv) h1 h2)
theorem A_tsI {dflt lo hi x off : Int} {offs : Array Int} {len tgt : Nat} (hd : decode mi.2.1 pc = .ok (.tableswitch dflt lo hi offs, len)) (hl : lo ≤ x) (hh : x ≤ hi) (ho : offs[(x - lo).toNat]? = some off) (ht : (pc : Int) + off = (tgt : Int)) (K : AW E mi k bc bs tgt L S G d Q) : AW E mi k bc bs pc L (kI x :: S) G d Q := by
  intro p e s m args below meth c H locs cells slots mc ms ls C hH hS hB hL hnL hv h1 h2
  exact lv_tableIn C.1 C.2.1 hd (by rw [kT (kvh hv)]; omega) (by rw [kT (kvh hv)]; omega) (by rw [kT (kvh hv)]; exact ho) ht (K p e s m args below meth c H locs cells slots mc ms ls C hH hS hB hL hnL (kvt hv) h1 h2)
theorem A_lsw {dflt x off : Int} {ps : Array (Int × Int)} {len tgt : Nat} (hd : decode mi.2.1 pc = .ok (.lookupswitch dflt ps, len)) (hp : (ps.toList.zip (ps.toList.drop 1)).all (fun (a, next) => a.1 < next.1) = true) (ho : Op.lookupswitch.offset ps.toList dflt x = off) (ht : (pc : Int) + off = (tgt : Int)) (K : AW E mi k bc bs tgt L S G d Q) : AW E mi k bc bs pc L (kI x :: S) G d Q := by
  intro p e s m args below meth c H locs cells slots mc ms ls C hH hS hB hL hnL hv h1 h2
  exact lv_lookup C.1 C.2.1 hd hp (by rw [kT (kvh hv)]; exact ho) ht (K p e s m args below meth c H locs cells slots mc ms ls C hH hS hB hL hnL (kvt hv) h1 h2)
end CA
end
section
theorem tb_1 {w : Cond} (h : w ∈ tables_1_1) : w ∈ tables_1 := List.mem_append_left _ h
theorem tb_2 {w : Cond} (h : w ∈ tables_1_2) : w ∈ tables_1 := List.mem_append_right _ (List.mem_append_left _ h)
theorem tb_3 {w : Cond} (h : w ∈ tables_1_3) : w ∈ tables_1 := List.mem_append_right _ (List.mem_append_right _ (List.mem_append_left _ h))
theorem tb_4 {w : Cond} (h : w ∈ tables_1_4) : w ∈ tables_1 := List.mem_append_right _ (List.mem_append_right _ (List.mem_append_right _ (List.mem_append_left _ h)))
theorem tb_5 {w : Cond} (h : w ∈ tables_1_5) : w ∈ tables_1 := List.mem_append_right _ (List.mem_append_right _ (List.mem_append_right _ (List.mem_append_right _ h)))
def mX6_init : MI := (yX6_init, cX6_init, 3, none)
def mX3_init : MI := (yX3_init, cX3_init, 1, none)
def mX2_init : MI := (yX2_init, cX2_init, 1, none)
def mX1_init : MI := (yX1_init, cX1_init, 2, none)
def mJ7_copyOf_59c91 : MI := (yJ7_copyOf_59c91, cJ7_copyOf_59c91, 3, some (.array .int))
def mJ9_min_7cf53 : MI := (yJ9_min_7cf53, cJ9_min_7cf53, 2, some .int)
def mX4_init : MI := (yX4_init, cX4_init, 3, none)
def mX0_init : MI := (yX0_init, cX0_init, 1, none)
def mX5_init : MI := (yX5_init, cX5_init, 1, none)
def mX6_ring : MI := (yX6_ring, cX6_ring, 4, some .int)
def mX6_changeLength : MI := (yX6_changeLength, cX6_changeLength, 3, some .int)
def mX6_within : MI := (yX6_within, cX6_within, 3, some .boolean)
def mX6_car : MI := (yX6_car, cX6_car, 4, some .int)
def mX6_isCell : MI := (yX6_isCell, cX6_isCell, 2, some .boolean)
def mX6_isPace : MI := (yX6_isPace, cX6_isPace, 1, some .boolean)
def mX4_isTaken : MI := (yX4_isTaken, cX4_isTaken, 4, some .boolean)
def mX4_addCar : MI := (yX4_addCar, cX4_addCar, 4, some .int)
def mX0_begin : MI := (yX0_begin, cX0_begin, 4, none)
def mX6_evenly : MI := (yX6_evenly, cX6_evenly, 4, some .int)
def mX6_set : MI := (yX6_set, cX6_set, 6, some .int)
def mX6_isCar : MI := (yX6_isCar, cX6_isCar, 2, some .boolean)
def mX6_told : MI := (yX6_told, cX6_told, 4, some .int)
def mX4_lookFrom : MI := (yX4_lookFrom, cX4_lookFrom, 8, none)
def mX4_cellsOn : MI := (yX4_cellsOn, cX4_cellsOn, 3, some .int)
def mX6_type : MI := (yX6_type, cX6_type, 5, some .int)
def mX6_byteOf : MI := (yX6_byteOf, cX6_byteOf, 3, some .int)
def mX3_append : MI := (yX3_append, cX3_append, 2, none)
def mX6_habit : MI := (yX6_habit, cX6_habit, 3, some .int)
def mX3_readHabit : MI := (yX3_readHabit, cX3_readHabit, 4, some .boolean)
def mX3_newLabel : MI := (yX3_newLabel, cX3_newLabel, 2, some .int)
def mX3_readTest : MI := (yX3_readTest, cX3_readTest, 6, some .boolean)
def mX3_readCase : MI := (yX3_readCase, cX3_readCase, 7, some .boolean)
def mX3_take : MI := (yX3_take, cX3_take, 2, some .boolean)
def mX3_next : MI := (yX3_next, cX3_next, 1, some .int)
def mX3_readBare : MI := (yX3_readBare, cX3_readBare, 5, some .boolean)
def mX3_addClaim : MI := (yX3_addClaim, cX3_addClaim, 4, none)
def mX3_readComparison : MI := (yX3_readComparison, cX3_readComparison, 5, some .boolean)
def mX3_isDigit : MI := (yX3_isDigit, cX3_isDigit, 1, some .boolean)
def mX3_readNumber : MI := (yX3_readNumber, cX3_readNumber, 2, some .int)
def mX3_join : MI := (yX3_join, cX3_join, 3, none)
def mX3_fix : MI := (yX3_fix, cX3_fix, 3, none)
def mX3_readAct : MI := (yX3_readAct, cX3_readAct, 2, some .boolean)
def mX3_endClause : MI := (yX3_endClause, cX3_endClause, 3, none)
def mX3_followLabels : MI := (yX3_followLabels, cX3_followLabels, 2, none)
def mX3_follow : MI := (yX3_follow, cX3_follow, 4, some .int)
def mX6_holds : MI := (yX6_holds, cX6_holds, 3, some .int)
def mX1_clauseFor : MI := (yX1_clauseFor, cX1_clauseFor, 8, some .int)
def mX1_isSo : MI := (yX1_isSo, cX1_isSo, 3, some .boolean)
def mX6_board : MI := (yX6_board, cX6_board, 4, some .int)
def mX4_addBoard : MI := (yX4_addBoard, cX4_addBoard, 4, some .int)
def mX6_loop : MI := (yX6_loop, cX6_loop, 2, some .int)
def mX4_addLoop : MI := (yX4_addLoop, cX4_addLoop, 2, some .int)
def mX6_looped : MI := (yX6_looped, cX6_looped, 3, some .int)
def mX6_tap : MI := (yX6_tap, cX6_tap, 3, some .int)
def mX6_ticks : MI := (yX6_ticks, cX6_ticks, 2, some .int)
def mX4_run : MI := (yX4_run, cX4_run, 3, none)
def mX4_tick : MI := (yX4_tick, cX4_tick, 2, none)
def mX4_lookFromAll : MI := (yX4_lookFromAll, cX4_lookFromAll, 2, none)
def mX0_note : MI := (yX0_note, cX0_note, 2, none)
def mX0_placeOf : MI := (yX0_placeOf, cX0_placeOf, 1, some .int)
def mX0_decide : MI := (yX0_decide, cX0_decide, 4, none)
def mJ9_max_7cf53 : MI := (yJ9_max_7cf53, cJ9_max_7cf53, 2, some .int)
def mX1_paceBy : MI := (yX1_paceBy, cX1_paceBy, 3, some .int)
def mX1_changesBy : MI := (yX1_changesBy, cX1_changesBy, 2, some .boolean)
def mX4_changeLanes : MI := (yX4_changeLanes, cX4_changeLanes, 4, some .boolean)
def mX4_hasRoomBeside : MI := (yX4_hasRoomBeside, cX4_hasRoomBeside, 6, some .boolean)
def mX4_limitAt : MI := (yX4_limitAt, cX4_limitAt, 4, some .int)
def mX0_settlePace : MI := (yX0_settlePace, cX0_settlePace, 2, none)
def mX4_goOn : MI := (yX4_goOn, cX4_goOn, 4, none)
def mX4_markFirst : MI := (yX4_markFirst, cX4_markFirst, 2, none)
def mX4_isEven : MI := (yX4_isEven, cX4_isEven, 2, some .boolean)
def mX6_count : MI := (yX6_count, cX6_count, 2, some .int)
def mX2_findIn : MI := (yX2_findIn, cX2_findIn, 3, some .int)
def mX2_isHead : MI := (yX2_isHead, cX2_isHead, 3, some .boolean)
def mX2_isLeastOfSlowLane : MI := (yX2_isLeastOfSlowLane, cX2_isLeastOfSlowLane, 5, some .boolean)
def mX2_sizeBehind : MI := (yX2_sizeBehind, cX2_sizeBehind, 6, some .int)
def mX2_insert : MI := (yX2_insert, cX2_insert, 5, none)
def mX2_comesAhead : MI := (yX2_comesAhead, cX2_comesAhead, 2, some .boolean)
def mX2_carsIn : MI := (yX2_carsIn, cX2_carsIn, 4, some .int)
def mX6_knot : MI := (yX6_knot, cX6_knot, 3, some .int)
def mX6_first : MI := (yX6_first, cX6_first, 1, some .int)
def mX6_cost : MI := (yX6_cost, cX6_cost, 5, some .int)
def mX6_foretell : MI := (yX6_foretell, cX6_foretell, 4, none)
def mX4_takeFrom : MI := (yX4_takeFrom, cX4_takeFrom, 3, none)
def mX0_takeFrom : MI := (yX0_takeFrom, cX0_takeFrom, 2, none)
def mX4_takeBoardsAndLoops : MI := (yX4_takeBoardsAndLoops, cX4_takeBoardsAndLoops, 3, none)
def mX4_cellsGone : MI := (yX4_cellsGone, cX4_cellsGone, 4, some .int)
def mX6_after : MI := (yX6_after, cX6_after, 3, some .int)
def mX6_calmed : MI := (yX6_calmed, cX6_calmed, 6, some .int)
def mJ6_bitCount_0f7a4 : MI := (yJ6_bitCount_0f7a4, cJ6_bitCount_0f7a4, 1, some .int)
def mX6_isCalmWith : MI := (yX6_isCalmWith, cX6_isCalmWith, 5, some .boolean)
def mX6_round : MI := (yX6_round, cX6_round, 3, some .int)
def mX4_isLike : MI := (yX4_isLike, cX4_isLike, 3, some .boolean)
def mX0_isLike : MI := (yX0_isLike, cX0_isLike, 2, some .boolean)
def mX0_remembersLike : MI := (yX0_remembersLike, cX0_remembersLike, 7, some .boolean)
def mX6_evens : MI := (yX6_evens, cX6_evens, 3, some .int)
def mX6_image : MI := (yX6_image, cX6_image, 2, some .int)
def mX6_restore : MI := (yX6_restore, cX6_restore, 2, some .int)
def mX6_paces : MI := (yX6_paces, cX6_paces, 7, some .int)
def mX6_isSheet : MI := (yX6_isSheet, cX6_isSheet, 1, some .boolean)
def mX5_lookedAt : MI := (yX5_lookedAt, cX5_lookedAt, 4, some .int)
def mX5_hasItems : MI := (yX5_hasItems, cX5_hasItems, 3, some .boolean)
def mX6_taps : MI := (yX6_taps, cX6_taps, 7, some .int)
def mX6_sheet : MI := (yX6_sheet, cX6_sheet, 4, some .int)
def mX5_begin : MI := (yX5_begin, cX5_begin, 3, none)
def mJ7_fill_53178 : MI := (yJ7_fill_53178, cJ7_fill_53178, 4, none)
def mX6_drop : MI := (yX6_drop, cX6_drop, 3, some .int)
def mX6_item : MI := (yX6_item, cX6_item, 6, some .int)
def mX5_put : MI := (yX5_put, cX5_put, 3, none)
def mX6_copy : MI := (yX6_copy, cX6_copy, 8, some .int)
def mX7_init : MI := (yX7_init, cX7_init, 2, none)
def mX7_ring : MI := (yX7_ring, cX7_ring, 4, some .int)
def mX7_in : MI := (yX7_in, cX7_in, 6, some .boolean)
def mX7_car : MI := (yX7_car, cX7_car, 4, some .int)
def mX7_carAt : MI := (yX7_carAt, cX7_carAt, 5, some .int)
def mX7_of : MI := (yX7_of, cX7_of, 4, some .int)
def mX7_put : MI := (yX7_put, cX7_put, 6, none)
def mX7_at : MI := (yX7_at, cX7_at, 3, some .int)
def mX7_evenly : MI := (yX7_evenly, cX7_evenly, 4, some .int)
def mX7_set : MI := (yX7_set, cX7_set, 5, some .int)
def mX7_isCar : MI := (yX7_isCar, cX7_isCar, 2, some .boolean)
def mX7_told : MI := (yX7_told, cX7_told, 3, some .int)
def mX7_gap : MI := (yX7_gap, cX7_gap, 4, some .int)
def mX7_ahead : MI := (yX7_ahead, cX7_ahead, 7, some .int)
def mX7_on : MI := (yX7_on, cX7_on, 5, some .int)
def mX7_other : MI := (yX7_other, cX7_other, 6, some .int)
def mX7_type : MI := (yX7_type, cX7_type, 5, some .int)
def mX7_habit : MI := (yX7_habit, cX7_habit, 5, some .int)
def mX7_clauses : MI := (yX7_clauses, cX7_clauses, 3, some .int)
def mX7_test : MI := (yX7_test, cX7_test, 3, some .boolean)
def mX7_look : MI := (yX7_look, cX7_look, 1, some .int)
def mX7_claim : MI := (yX7_claim, cX7_claim, 3, some .boolean)
def mX7_isDigit : MI := (yX7_isDigit, cX7_isDigit, 2, some .boolean)
def mX7_act : MI := (yX7_act, cX7_act, 2, some .boolean)
def mX7_holds : MI := (yX7_holds, cX7_holds, 2, some .int)
def mX7_slower : MI := (yX7_slower, cX7_slower, 3, some .int)
def mX7_clause : MI := (yX7_clause, cX7_clause, 12, some .int)
def mX7_testHolds : MI := (yX7_testHolds, cX7_testHolds, 9, some .boolean)
def mX7_sign : MI := (yX7_sign, cX7_sign, 1, some .int)
def mX7_claimHolds : MI := (yX7_claimHolds, cX7_claimHolds, 10, some .boolean)
def mX7_take : MI := (yX7_take, cX7_take, 2, some .int)
def mX7_digits : MI := (yX7_digits, cX7_digits, 2, some .int)
def mX7_board : MI := (yX7_board, cX7_board, 5, some .int)
def mX7_loop : MI := (yX7_loop, cX7_loop, 3, some .int)
def mX7_looped : MI := (yX7_looped, cX7_looped, 3, some .int)
def mX7_tap : MI := (yX7_tap, cX7_tap, 3, some .int)
def mX7_ticks : MI := (yX7_ticks, cX7_ticks, 3, some .int)
def mX7_tick : MI := (yX7_tick, cX7_tick, 4, none)
def mX7_note : MI := (yX7_note, cX7_note, 5, none)
def mX7_decide : MI := (yX7_decide, cX7_decide, 6, none)
def mX7_hasRoom : MI := (yX7_hasRoom, cX7_hasRoom, 7, some .boolean)
def mX7_limited : MI := (yX7_limited, cX7_limited, 8, some .int)
def mX7_goOn : MI := (yX7_goOn, cX7_goOn, 7, none)
def mX7_noteFirst : MI := (yX7_noteFirst, cX7_noteFirst, 4, none)
def mX7_isEven : MI := (yX7_isEven, cX7_isEven, 4, some .boolean)
def mX7_count : MI := (yX7_count, cX7_count, 4, some .int)
def mX7_findKnots : MI := (yX7_findKnots, cX7_findKnots, 9, none)
def mX7_isSlow : MI := (yX7_isSlow, cX7_isSlow, 3, some .boolean)
def mX7_addKnot : MI := (yX7_addKnot, cX7_addKnot, 6, none)
def mX7_behind : MI := (yX7_behind, cX7_behind, 4, some .int)
def mX7_knot : MI := (yX7_knot, cX7_knot, 3, some .int)
def mX7_first : MI := (yX7_first, cX7_first, 1, some .int)
def mX7_cost : MI := (yX7_cost, cX7_cost, 5, some .int)
def mX7_copyRing : MI := (yX7_copyRing, cX7_copyRing, 4, none)
def mX7_wentAll : MI := (yX7_wentAll, cX7_wentAll, 5, some .int)
def mX7_after : MI := (yX7_after, cX7_after, 3, some .int)
def mX7_knotsAfter : MI := (yX7_knotsAfter, cX7_knotsAfter, 5, some .int)
def mX7_calmed : MI := (yX7_calmed, cX7_calmed, 5, some .int)
def mX7_bits : MI := (yX7_bits, cX7_bits, 3, some .int)
def mX7_round : MI := (yX7_round, cX7_round, 3, some .int)
def mX7_isSame : MI := (yX7_isSame, cX7_isSame, 7, some .boolean)
def mX7_evens : MI := (yX7_evens, cX7_evens, 3, some .int)
def mX7_image : MI := (yX7_image, cX7_image, 2, some .int)
def mX7_restore : MI := (yX7_restore, cX7_restore, 2, some .int)
def mX7_paces : MI := (yX7_paces, cX7_paces, 6, some .int)
def mX7_isSheet : MI := (yX7_isSheet, cX7_isSheet, 1, some .boolean)
def mX7_row : MI := (yX7_row, cX7_row, 5, some .int)
def mX7_taps : MI := (yX7_taps, cX7_taps, 6, some .int)
def mX7_sheet : MI := (yX7_sheet, cX7_sheet, 5, some .int)
def mX7_drop : MI := (yX7_drop, cX7_drop, 2, some .int)
def mX7_item : MI := (yX7_item, cX7_item, 6, some .int)
def mX7_copy : MI := (yX7_copy, cX7_copy, 7, some .int)
theorem kIn_0 : ∀ w ∈ u_ws RX0 TX0 (kNF 0), w ∈ tables_1 ∧ goodWord w = true := by decide +kernel
theorem kCl_0 : kCl 0 RX0 TX0 := ⟨rfl, fun w h => gT_of (kIn_0 w h).1 (kIn_0 w h).2, tyX0_ok, nmX0, by decide +kernel, by decide⟩
theorem kIn_1 : ∀ w ∈ u_ws RX1 TX1 (kNF 1), w ∈ tables_1 ∧ goodWord w = true := by decide +kernel
theorem kCl_1 : kCl 1 RX1 TX1 := ⟨rfl, fun w h => gT_of (kIn_1 w h).1 (kIn_1 w h).2, tyX1_ok, nmX1, by decide +kernel, by decide⟩
theorem kIn_2 : ∀ w ∈ u_ws RX2 TX2 (kNF 2), w ∈ tables_1 ∧ goodWord w = true := by decide +kernel
theorem kCl_2 : kCl 2 RX2 TX2 := ⟨rfl, fun w h => gT_of (kIn_2 w h).1 (kIn_2 w h).2, tyX2_ok, nmX2, by decide +kernel, by decide⟩
theorem kIn_3 : ∀ w ∈ u_ws RX3 TX3 (kNF 3), w ∈ tables_1 ∧ goodWord w = true := by decide +kernel
theorem kCl_3 : kCl 3 RX3 TX3 := ⟨rfl, fun w h => gT_of (kIn_3 w h).1 (kIn_3 w h).2, tyX3_ok, nmX3, by decide +kernel, by decide⟩
theorem kIn_4 : ∀ w ∈ u_ws RX4 TX4 (kNF 4), w ∈ tables_1 ∧ goodWord w = true := by decide +kernel
theorem kCl_4 : kCl 4 RX4 TX4 := ⟨rfl, fun w h => gT_of (kIn_4 w h).1 (kIn_4 w h).2, tyX4_ok, nmX4, by decide +kernel, by decide⟩
theorem kIn_5 : ∀ w ∈ u_ws RX5 TX5 (kNF 5), w ∈ tables_1 ∧ goodWord w = true := by decide +kernel
theorem kCl_5 : kCl 5 RX5 TX5 := ⟨rfl, fun w h => gT_of (kIn_5 w h).1 (kIn_5 w h).2, tyX5_ok, nmX5, by decide +kernel, by decide⟩
theorem kIn_6 : ∀ w ∈ u_ws RX6 TX6 (kNF 6), w ∈ tables_1 ∧ goodWord w = true := by decide +kernel
theorem kCl_6 : kCl 6 RX6 TX6 := ⟨rfl, fun w h => gT_of (kIn_6 w h).1 (kIn_6 w h).2, tyX6_ok, nmX6, by decide +kernel, by decide⟩
theorem kIn_7 : ∀ w ∈ u_ws RX7 TX7 (kNF 7), w ∈ tables_1 ∧ goodWord w = true := by decide +kernel
theorem kCl_7 : kCl 7 RX7 TX7 := ⟨rfl, fun w h => gT_of (kIn_7 w h).1 (kIn_7 w h).2, tyX7_ok, nmX7, by decide +kernel, by decide⟩
theorem fg_X3_9 : kFG RX3 9 3 0 := ⟨RX3, TX3, kCl_3, by decide, Or.inl (gT_of (tb_1 (List.mem_of_getElem? (i := 27) rfl)) rfl)⟩
theorem fp_X3_9 : kFL RX3 9 3 0 true := ⟨RX3, TX3, kCl_3, by decide, rfl, fun _ => rfl, Or.inl (gT_of (tb_1 (List.mem_of_getElem? (i := 27) rfl)) rfl)⟩
theorem fg_X3_15 : kFG RX3 15 3 1 := ⟨RX3, TX3, kCl_3, by decide, Or.inl (gT_of (tb_1 (List.mem_of_getElem? (i := 28) rfl)) rfl)⟩
theorem fp_X3_15 : kFL RX3 15 3 1 false := ⟨RX3, TX3, kCl_3, by decide, rfl, fun _ => rfl, Or.inl (gT_of (tb_1 (List.mem_of_getElem? (i := 28) rfl)) rfl)⟩
theorem fg_X6_144 : kFG RX6 144 3 1 := ⟨RX3, TX3, kCl_3, by decide, Or.inl (gT_of (tb_1 (List.mem_of_getElem? (i := 29) rfl)) rfl)⟩
theorem fp_X6_144 : kFL RX6 144 3 1 false := ⟨RX3, TX3, kCl_3, by decide, rfl, (fun h => by cases h), Or.inl (gT_of (tb_1 (List.mem_of_getElem? (i := 29) rfl)) rfl)⟩
theorem fg_X3_19 : kFG RX3 19 3 2 := ⟨RX3, TX3, kCl_3, by decide, Or.inl (gT_of (tb_1 (List.mem_of_getElem? (i := 30) rfl)) rfl)⟩
theorem fp_X3_19 : kFL RX3 19 3 2 false := ⟨RX3, TX3, kCl_3, by decide, rfl, fun _ => rfl, Or.inl (gT_of (tb_1 (List.mem_of_getElem? (i := 30) rfl)) rfl)⟩
theorem fg_X6_154 : kFG RX6 154 3 2 := ⟨RX3, TX3, kCl_3, by decide, Or.inl (gT_of (tb_1 (List.mem_of_getElem? (i := 31) rfl)) rfl)⟩
theorem fp_X6_154 : kFL RX6 154 3 2 false := ⟨RX3, TX3, kCl_3, by decide, rfl, (fun h => by cases h), Or.inl (gT_of (tb_1 (List.mem_of_getElem? (i := 31) rfl)) rfl)⟩
theorem fg_X1_22 : kFG RX1 22 3 3 := ⟨RX3, TX3, kCl_3, by decide, Or.inr (by decide +kernel)⟩
theorem fp_X1_22 : kFL RX1 22 3 3 false := ⟨RX3, TX3, kCl_3, by decide, rfl, (fun h => by cases h), Or.inr ⟨by decide, by decide +kernel⟩⟩
theorem fg_X3_22 : kFG RX3 22 3 3 := ⟨RX3, TX3, kCl_3, by decide, Or.inl (gT_of (tb_1 (List.mem_of_getElem? (i := 33) rfl)) rfl)⟩
theorem fp_X3_22 : kFL RX3 22 3 3 false := ⟨RX3, TX3, kCl_3, by decide, rfl, fun _ => rfl, Or.inl (gT_of (tb_1 (List.mem_of_getElem? (i := 33) rfl)) rfl)⟩
theorem fg_X1_9 : kFG RX1 9 3 4 := ⟨RX3, TX3, kCl_3, by decide, Or.inr (by decide +kernel)⟩
theorem fp_X1_9 : kFL RX1 9 3 4 false := ⟨RX3, TX3, kCl_3, by decide, rfl, (fun h => by cases h), Or.inr ⟨by decide, by decide +kernel⟩⟩
theorem fg_X3_25 : kFG RX3 25 3 4 := ⟨RX3, TX3, kCl_3, by decide, Or.inl (gT_of (tb_1 (List.mem_of_getElem? (i := 35) rfl)) rfl)⟩
theorem fp_X3_25 : kFL RX3 25 3 4 false := ⟨RX3, TX3, kCl_3, by decide, rfl, fun _ => rfl, Or.inl (gT_of (tb_1 (List.mem_of_getElem? (i := 35) rfl)) rfl)⟩
theorem fg_X6_161 : kFG RX6 161 3 4 := ⟨RX3, TX3, kCl_3, by decide, Or.inr (by decide +kernel)⟩
theorem fp_X6_161 : kFL RX6 161 3 4 false := ⟨RX3, TX3, kCl_3, by decide, rfl, (fun h => by cases h), Or.inr ⟨by decide, by decide +kernel⟩⟩
theorem fg_X3_28 : kFG RX3 28 3 5 := ⟨RX3, TX3, kCl_3, by decide, Or.inl (gT_of (tb_1 (List.mem_of_getElem? (i := 37) rfl)) rfl)⟩
theorem fp_X3_28 : kFL RX3 28 3 5 false := ⟨RX3, TX3, kCl_3, by decide, rfl, fun _ => rfl, Or.inl (gT_of (tb_1 (List.mem_of_getElem? (i := 37) rfl)) rfl)⟩
theorem fg_X1_18 : kFG RX1 18 3 6 := ⟨RX3, TX3, kCl_3, by decide, Or.inr (by decide +kernel)⟩
theorem fg_X3_31 : kFG RX3 31 3 6 := ⟨RX3, TX3, kCl_3, by decide, Or.inl (gT_of (tb_1 (List.mem_of_getElem? (i := 39) rfl)) rfl)⟩
theorem fp_X3_31 : kFL RX3 31 3 6 true := ⟨RX3, TX3, kCl_3, by decide, rfl, fun _ => rfl, Or.inl (gT_of (tb_1 (List.mem_of_getElem? (i := 39) rfl)) rfl)⟩
theorem fg_X1_32 : kFG RX1 32 3 7 := ⟨RX3, TX3, kCl_3, by decide, Or.inr (by decide +kernel)⟩
theorem fg_X3_34 : kFG RX3 34 3 7 := ⟨RX3, TX3, kCl_3, by decide, Or.inl (gT_of (tb_1 (List.mem_of_getElem? (i := 41) rfl)) rfl)⟩
theorem fp_X3_34 : kFL RX3 34 3 7 true := ⟨RX3, TX3, kCl_3, by decide, rfl, fun _ => rfl, Or.inl (gT_of (tb_1 (List.mem_of_getElem? (i := 41) rfl)) rfl)⟩
theorem fg_X1_36 : kFG RX1 36 3 8 := ⟨RX3, TX3, kCl_3, by decide, Or.inr (by decide +kernel)⟩
theorem fg_X3_37 : kFG RX3 37 3 8 := ⟨RX3, TX3, kCl_3, by decide, Or.inl (gT_of (tb_1 (List.mem_of_getElem? (i := 43) rfl)) rfl)⟩
theorem fp_X3_37 : kFL RX3 37 3 8 true := ⟨RX3, TX3, kCl_3, by decide, rfl, fun _ => rfl, Or.inl (gT_of (tb_1 (List.mem_of_getElem? (i := 43) rfl)) rfl)⟩
theorem fg_X1_40 : kFG RX1 40 3 9 := ⟨RX3, TX3, kCl_3, by decide, Or.inr (by decide +kernel)⟩
theorem fg_X3_40 : kFG RX3 40 3 9 := ⟨RX3, TX3, kCl_3, by decide, Or.inl (gT_of (tb_1 (List.mem_of_getElem? (i := 45) rfl)) rfl)⟩
theorem fp_X3_40 : kFL RX3 40 3 9 true := ⟨RX3, TX3, kCl_3, by decide, rfl, fun _ => rfl, Or.inl (gT_of (tb_1 (List.mem_of_getElem? (i := 45) rfl)) rfl)⟩
theorem fg_X3_43 : kFG RX3 43 3 10 := ⟨RX3, TX3, kCl_3, by decide, Or.inl (gT_of (tb_1 (List.mem_of_getElem? (i := 46) rfl)) rfl)⟩
theorem fp_X3_43 : kFL RX3 43 3 10 true := ⟨RX3, TX3, kCl_3, by decide, rfl, fun _ => rfl, Or.inl (gT_of (tb_1 (List.mem_of_getElem? (i := 46) rfl)) rfl)⟩
theorem fg_X1_44 : kFG RX1 44 3 10 := ⟨RX3, TX3, kCl_3, by decide, Or.inr (by decide +kernel)⟩
theorem fg_X3_46 : kFG RX3 46 3 11 := ⟨RX3, TX3, kCl_3, by decide, Or.inl (gT_of (tb_1 (List.mem_of_getElem? (i := 48) rfl)) rfl)⟩
theorem fp_X3_46 : kFL RX3 46 3 11 true := ⟨RX3, TX3, kCl_3, by decide, rfl, fun _ => rfl, Or.inl (gT_of (tb_1 (List.mem_of_getElem? (i := 48) rfl)) rfl)⟩
theorem fg_X1_48 : kFG RX1 48 3 11 := ⟨RX3, TX3, kCl_3, by decide, Or.inr (by decide +kernel)⟩
theorem fg_X3_49 : kFG RX3 49 3 12 := ⟨RX3, TX3, kCl_3, by decide, Or.inl (gT_of (tb_1 (List.mem_of_getElem? (i := 50) rfl)) rfl)⟩
theorem fp_X3_49 : kFL RX3 49 3 12 true := ⟨RX3, TX3, kCl_3, by decide, rfl, fun _ => rfl, Or.inl (gT_of (tb_1 (List.mem_of_getElem? (i := 50) rfl)) rfl)⟩
theorem fg_X1_52 : kFG RX1 52 3 12 := ⟨RX3, TX3, kCl_3, by decide, Or.inr (by decide +kernel)⟩
theorem fg_X3_52 : kFG RX3 52 3 13 := ⟨RX3, TX3, kCl_3, by decide, Or.inl (gT_of (tb_1 (List.mem_of_getElem? (i := 52) rfl)) rfl)⟩
theorem fp_X3_52 : kFL RX3 52 3 13 true := ⟨RX3, TX3, kCl_3, by decide, rfl, fun _ => rfl, Or.inl (gT_of (tb_1 (List.mem_of_getElem? (i := 52) rfl)) rfl)⟩
theorem fg_X1_56 : kFG RX1 56 3 13 := ⟨RX3, TX3, kCl_3, by decide, Or.inr (by decide +kernel)⟩
theorem fg_X3_55 : kFG RX3 55 3 14 := ⟨RX3, TX3, kCl_3, by decide, Or.inl (gT_of (tb_1 (List.mem_of_getElem? (i := 54) rfl)) rfl)⟩
theorem fp_X3_55 : kFL RX3 55 3 14 true := ⟨RX3, TX3, kCl_3, by decide, rfl, fun _ => rfl, Or.inl (gT_of (tb_1 (List.mem_of_getElem? (i := 54) rfl)) rfl)⟩
theorem fg_X3_58 : kFG RX3 58 3 15 := ⟨RX3, TX3, kCl_3, by decide, Or.inl (gT_of (tb_1 (List.mem_of_getElem? (i := 55) rfl)) rfl)⟩
theorem fp_X3_58 : kFL RX3 58 3 15 true := ⟨RX3, TX3, kCl_3, by decide, rfl, fun _ => rfl, Or.inl (gT_of (tb_1 (List.mem_of_getElem? (i := 55) rfl)) rfl)⟩
theorem fg_X2_9 : kFG RX2 9 2 0 := ⟨RX2, TX2, kCl_2, by decide, Or.inl (gT_of (tb_1 (List.mem_of_getElem? (i := 98) rfl)) rfl)⟩
theorem fp_X2_9 : kFL RX2 9 2 0 true := ⟨RX2, TX2, kCl_2, by decide, rfl, fun _ => rfl, Or.inl (gT_of (tb_1 (List.mem_of_getElem? (i := 98) rfl)) rfl)⟩
theorem fg_X6_206 : kFG RX6 206 2 0 := ⟨RX2, TX2, kCl_2, by decide, Or.inl (gT_of (tb_1 (List.mem_of_getElem? (i := 99) rfl)) rfl)⟩
theorem fg_X2_15 : kFG RX2 15 2 1 := ⟨RX2, TX2, kCl_2, by decide, Or.inl (gT_of (tb_1 (List.mem_of_getElem? (i := 100) rfl)) rfl)⟩
theorem fp_X2_15 : kFL RX2 15 2 1 true := ⟨RX2, TX2, kCl_2, by decide, rfl, fun _ => rfl, Or.inl (gT_of (tb_1 (List.mem_of_getElem? (i := 100) rfl)) rfl)⟩
theorem fg_X6_209 : kFG RX6 209 2 1 := ⟨RX2, TX2, kCl_2, by decide, Or.inl (gT_of (tb_1 (List.mem_of_getElem? (i := 101) rfl)) rfl)⟩
theorem fg_X2_21 : kFG RX2 21 2 2 := ⟨RX2, TX2, kCl_2, by decide, Or.inl (gT_of (tb_1 (List.mem_of_getElem? (i := 102) rfl)) rfl)⟩
theorem fp_X2_21 : kFL RX2 21 2 2 false := ⟨RX2, TX2, kCl_2, by decide, rfl, fun _ => rfl, Or.inl (gT_of (tb_1 (List.mem_of_getElem? (i := 102) rfl)) rfl)⟩
theorem fg_X2_18 : kFG RX2 18 2 3 := ⟨RX2, TX2, kCl_2, by decide, Or.inl (gT_of (tb_1 (List.mem_of_getElem? (i := 103) rfl)) rfl)⟩
theorem fp_X2_18 : kFL RX2 18 2 3 true := ⟨RX2, TX2, kCl_2, by decide, rfl, fun _ => rfl, Or.inl (gT_of (tb_1 (List.mem_of_getElem? (i := 103) rfl)) rfl)⟩
theorem fg_X1_15 : kFG RX1 15 1 0 := ⟨RX1, TX1, kCl_1, by decide, Or.inl (gT_of (tb_1 (List.mem_of_getElem? (i := 138) rfl)) rfl)⟩
theorem fp_X1_15 : kFL RX1 15 1 0 true := ⟨RX1, TX1, kCl_1, by decide, rfl, fun _ => rfl, Or.inl (gT_of (tb_1 (List.mem_of_getElem? (i := 138) rfl)) rfl)⟩
theorem fg_X6_195 : kFG RX6 195 1 0 := ⟨RX1, TX1, kCl_1, by decide, Or.inl (gT_of (tb_1 (List.mem_of_getElem? (i := 139) rfl)) rfl)⟩
theorem fg_X1_31 : kFG RX1 31 1 1 := ⟨RX1, TX1, kCl_1, by decide, Or.inl (gT_of (tb_1 (List.mem_of_getElem? (i := 140) rfl)) rfl)⟩
theorem fp_X1_31 : kFL RX1 31 1 1 true := ⟨RX1, TX1, kCl_1, by decide, rfl, fun _ => rfl, Or.inl (gT_of (tb_1 (List.mem_of_getElem? (i := 140) rfl)) rfl)⟩
theorem fg_X1_35 : kFG RX1 35 1 2 := ⟨RX1, TX1, kCl_1, by decide, Or.inl (gT_of (tb_1 (List.mem_of_getElem? (i := 141) rfl)) rfl)⟩
theorem fp_X1_35 : kFL RX1 35 1 2 true := ⟨RX1, TX1, kCl_1, by decide, rfl, fun _ => rfl, Or.inl (gT_of (tb_1 (List.mem_of_getElem? (i := 141) rfl)) rfl)⟩
theorem fg_X1_39 : kFG RX1 39 1 3 := ⟨RX1, TX1, kCl_1, by decide, Or.inl (gT_of (tb_1 (List.mem_of_getElem? (i := 142) rfl)) rfl)⟩
theorem fp_X1_39 : kFL RX1 39 1 3 true := ⟨RX1, TX1, kCl_1, by decide, rfl, fun _ => rfl, Or.inl (gT_of (tb_1 (List.mem_of_getElem? (i := 142) rfl)) rfl)⟩
theorem fg_X1_43 : kFG RX1 43 1 4 := ⟨RX1, TX1, kCl_1, by decide, Or.inl (gT_of (tb_1 (List.mem_of_getElem? (i := 143) rfl)) rfl)⟩
theorem fp_X1_43 : kFL RX1 43 1 4 true := ⟨RX1, TX1, kCl_1, by decide, rfl, fun _ => rfl, Or.inl (gT_of (tb_1 (List.mem_of_getElem? (i := 143) rfl)) rfl)⟩
theorem fg_X1_47 : kFG RX1 47 1 5 := ⟨RX1, TX1, kCl_1, by decide, Or.inl (gT_of (tb_1 (List.mem_of_getElem? (i := 144) rfl)) rfl)⟩
theorem fp_X1_47 : kFL RX1 47 1 5 true := ⟨RX1, TX1, kCl_1, by decide, rfl, fun _ => rfl, Or.inl (gT_of (tb_1 (List.mem_of_getElem? (i := 144) rfl)) rfl)⟩
theorem fg_X1_51 : kFG RX1 51 1 6 := ⟨RX1, TX1, kCl_1, by decide, Or.inl (gT_of (tb_1 (List.mem_of_getElem? (i := 145) rfl)) rfl)⟩
theorem fp_X1_51 : kFL RX1 51 1 6 true := ⟨RX1, TX1, kCl_1, by decide, rfl, fun _ => rfl, Or.inl (gT_of (tb_1 (List.mem_of_getElem? (i := 145) rfl)) rfl)⟩
theorem fg_X1_55 : kFG RX1 55 1 7 := ⟨RX1, TX1, kCl_1, by decide, Or.inl (gT_of (tb_1 (List.mem_of_getElem? (i := 146) rfl)) rfl)⟩
theorem fp_X1_55 : kFL RX1 55 1 7 true := ⟨RX1, TX1, kCl_1, by decide, rfl, fun _ => rfl, Or.inl (gT_of (tb_1 (List.mem_of_getElem? (i := 146) rfl)) rfl)⟩
theorem fg_X1_59 : kFG RX1 59 1 8 := ⟨RX1, TX1, kCl_1, by decide, Or.inl (gT_of (tb_1 (List.mem_of_getElem? (i := 147) rfl)) rfl)⟩
theorem fp_X1_59 : kFL RX1 59 1 8 true := ⟨RX1, TX1, kCl_1, by decide, rfl, fun _ => rfl, Or.inl (gT_of (tb_1 (List.mem_of_getElem? (i := 147) rfl)) rfl)⟩
theorem fg_X0_17 : kFG RX0 17 0 0 := ⟨RX0, TX0, kCl_0, by decide, Or.inl (gT_of (tb_1 (List.mem_of_getElem? (i := 181) rfl)) rfl)⟩
theorem fp_X0_17 : kFL RX0 17 0 0 false := ⟨RX0, TX0, kCl_0, by decide, rfl, fun _ => rfl, Or.inl (gT_of (tb_1 (List.mem_of_getElem? (i := 181) rfl)) rfl)⟩
theorem fg_X4_80 : kFG RX4 80 0 0 := ⟨RX0, TX0, kCl_0, by decide, Or.inl (gT_of (tb_1 (List.mem_of_getElem? (i := 182) rfl)) rfl)⟩
theorem fp_X4_80 : kFL RX4 80 0 0 false := ⟨RX0, TX0, kCl_0, by decide, rfl, (fun h => by cases h), Or.inl (gT_of (tb_1 (List.mem_of_getElem? (i := 182) rfl)) rfl)⟩
theorem fg_X6_116 : kFG RX6 116 0 0 := ⟨RX0, TX0, kCl_0, by decide, Or.inl (gT_of (tb_1 (List.mem_of_getElem? (i := 183) rfl)) rfl)⟩
theorem fp_X6_116 : kFL RX6 116 0 0 false := ⟨RX0, TX0, kCl_0, by decide, rfl, (fun h => by cases h), Or.inl (gT_of (tb_1 (List.mem_of_getElem? (i := 183) rfl)) rfl)⟩
theorem fg_X2_71 : kFG RX2 71 0 0 := ⟨RX0, TX0, kCl_0, by decide, Or.inl (gT_of (tb_1 (List.mem_of_getElem? (i := 184) rfl)) rfl)⟩
theorem fp_X2_71 : kFL RX2 71 0 0 false := ⟨RX0, TX0, kCl_0, by decide, rfl, (fun h => by cases h), Or.inl (gT_of (tb_1 (List.mem_of_getElem? (i := 184) rfl)) rfl)⟩
theorem fg_X0_13 : kFG RX0 13 0 1 := ⟨RX0, TX0, kCl_0, by decide, Or.inl (gT_of (tb_1 (List.mem_of_getElem? (i := 185) rfl)) rfl)⟩
theorem fp_X0_13 : kFL RX0 13 0 1 false := ⟨RX0, TX0, kCl_0, by decide, rfl, fun _ => rfl, Or.inl (gT_of (tb_1 (List.mem_of_getElem? (i := 185) rfl)) rfl)⟩
theorem fg_X2_64 : kFG RX2 64 0 1 := ⟨RX0, TX0, kCl_0, by decide, Or.inl (gT_of (tb_1 (List.mem_of_getElem? (i := 186) rfl)) rfl)⟩
theorem fp_X2_64 : kFL RX2 64 0 1 false := ⟨RX0, TX0, kCl_0, by decide, rfl, (fun h => by cases h), Or.inl (gT_of (tb_1 (List.mem_of_getElem? (i := 186) rfl)) rfl)⟩
theorem fg_X4_77 : kFG RX4 77 0 1 := ⟨RX0, TX0, kCl_0, by decide, Or.inl (gT_of (tb_1 (List.mem_of_getElem? (i := 187) rfl)) rfl)⟩
theorem fp_X4_77 : kFL RX4 77 0 1 false := ⟨RX0, TX0, kCl_0, by decide, rfl, (fun h => by cases h), Or.inl (gT_of (tb_1 (List.mem_of_getElem? (i := 187) rfl)) rfl)⟩
theorem fg_X6_119 : kFG RX6 119 0 1 := ⟨RX0, TX0, kCl_0, by decide, Or.inl (gT_of (tb_1 (List.mem_of_getElem? (i := 188) rfl)) rfl)⟩
theorem fp_X6_119 : kFL RX6 119 0 1 false := ⟨RX0, TX0, kCl_0, by decide, rfl, (fun h => by cases h), Or.inl (gT_of (tb_1 (List.mem_of_getElem? (i := 188) rfl)) rfl)⟩
theorem fg_X0_20 : kFG RX0 20 0 2 := ⟨RX0, TX0, kCl_0, by decide, Or.inl (gT_of (tb_1 (List.mem_of_getElem? (i := 189) rfl)) rfl)⟩
theorem fp_X0_20 : kFL RX0 20 0 2 false := ⟨RX0, TX0, kCl_0, by decide, rfl, fun _ => rfl, Or.inl (gT_of (tb_1 (List.mem_of_getElem? (i := 189) rfl)) rfl)⟩
theorem fg_X2_58 : kFG RX2 58 0 2 := ⟨RX0, TX0, kCl_0, by decide, Or.inl (gT_of (tb_1 (List.mem_of_getElem? (i := 190) rfl)) rfl)⟩
theorem fp_X2_58 : kFL RX2 58 0 2 false := ⟨RX0, TX0, kCl_0, by decide, rfl, (fun h => by cases h), Or.inl (gT_of (tb_1 (List.mem_of_getElem? (i := 190) rfl)) rfl)⟩
theorem fg_X6_122 : kFG RX6 122 0 2 := ⟨RX0, TX0, kCl_0, by decide, Or.inl (gT_of (tb_1 (List.mem_of_getElem? (i := 191) rfl)) rfl)⟩
theorem fp_X6_122 : kFL RX6 122 0 2 false := ⟨RX0, TX0, kCl_0, by decide, rfl, (fun h => by cases h), Or.inl (gT_of (tb_1 (List.mem_of_getElem? (i := 191) rfl)) rfl)⟩
theorem fg_X4_83 : kFG RX4 83 0 2 := ⟨RX0, TX0, kCl_0, by decide, Or.inl (gT_of (tb_1 (List.mem_of_getElem? (i := 192) rfl)) rfl)⟩
theorem fp_X4_83 : kFL RX4 83 0 2 false := ⟨RX0, TX0, kCl_0, by decide, rfl, (fun h => by cases h), Or.inl (gT_of (tb_1 (List.mem_of_getElem? (i := 192) rfl)) rfl)⟩
theorem fg_X0_23 : kFG RX0 23 0 3 := ⟨RX0, TX0, kCl_0, by decide, Or.inl (gT_of (tb_1 (List.mem_of_getElem? (i := 193) rfl)) rfl)⟩
theorem fp_X0_23 : kFL RX0 23 0 3 false := ⟨RX0, TX0, kCl_0, by decide, rfl, fun _ => rfl, Or.inl (gT_of (tb_1 (List.mem_of_getElem? (i := 193) rfl)) rfl)⟩
theorem fg_X6_104 : kFG RX6 104 0 3 := ⟨RX0, TX0, kCl_0, by decide, Or.inl (gT_of (tb_1 (List.mem_of_getElem? (i := 194) rfl)) rfl)⟩
theorem fp_X6_104 : kFL RX6 104 0 3 false := ⟨RX0, TX0, kCl_0, by decide, rfl, (fun h => by cases h), Or.inl (gT_of (tb_1 (List.mem_of_getElem? (i := 194) rfl)) rfl)⟩
theorem fg_X4_122 : kFG RX4 122 0 3 := ⟨RX0, TX0, kCl_0, by decide, Or.inl (gT_of (tb_1 (List.mem_of_getElem? (i := 195) rfl)) rfl)⟩
theorem fp_X4_122 : kFL RX4 122 0 3 false := ⟨RX0, TX0, kCl_0, by decide, rfl, (fun h => by cases h), Or.inl (gT_of (tb_1 (List.mem_of_getElem? (i := 195) rfl)) rfl)⟩
theorem fg_X0_26 : kFG RX0 26 0 4 := ⟨RX0, TX0, kCl_0, by decide, Or.inl (gT_of (tb_1 (List.mem_of_getElem? (i := 196) rfl)) rfl)⟩
theorem fp_X0_26 : kFL RX0 26 0 4 false := ⟨RX0, TX0, kCl_0, by decide, rfl, fun _ => rfl, Or.inl (gT_of (tb_1 (List.mem_of_getElem? (i := 196) rfl)) rfl)⟩
theorem fg_X6_109 : kFG RX6 109 0 4 := ⟨RX0, TX0, kCl_0, by decide, Or.inl (gT_of (tb_1 (List.mem_of_getElem? (i := 197) rfl)) rfl)⟩
theorem fp_X6_109 : kFL RX6 109 0 4 false := ⟨RX0, TX0, kCl_0, by decide, rfl, (fun h => by cases h), Or.inl (gT_of (tb_1 (List.mem_of_getElem? (i := 197) rfl)) rfl)⟩
theorem fg_X0_29 : kFG RX0 29 0 5 := ⟨RX0, TX0, kCl_0, by decide, Or.inl (gT_of (tb_1 (List.mem_of_getElem? (i := 198) rfl)) rfl)⟩
theorem fp_X0_29 : kFL RX0 29 0 5 false := ⟨RX0, TX0, kCl_0, by decide, rfl, fun _ => rfl, Or.inl (gT_of (tb_1 (List.mem_of_getElem? (i := 198) rfl)) rfl)⟩
theorem fg_X6_134 : kFG RX6 134 0 5 := ⟨RX0, TX0, kCl_0, by decide, Or.inl (gT_of (tb_1 (List.mem_of_getElem? (i := 199) rfl)) rfl)⟩
theorem fp_X6_134 : kFL RX6 134 0 5 false := ⟨RX0, TX0, kCl_0, by decide, rfl, (fun h => by cases h), Or.inl (gT_of (tb_1 (List.mem_of_getElem? (i := 199) rfl)) rfl)⟩
theorem fg_X4_90 : kFG RX4 90 0 5 := ⟨RX0, TX0, kCl_0, by decide, Or.inl (gT_of (tb_1 (List.mem_of_getElem? (i := 200) rfl)) rfl)⟩
theorem fp_X4_90 : kFL RX4 90 0 5 false := ⟨RX0, TX0, kCl_0, by decide, rfl, (fun h => by cases h), Or.inl (gT_of (tb_1 (List.mem_of_getElem? (i := 200) rfl)) rfl)⟩
theorem fg_X0_32 : kFG RX0 32 0 6 := ⟨RX0, TX0, kCl_0, by decide, Or.inl (gT_of (tb_1 (List.mem_of_getElem? (i := 201) rfl)) rfl)⟩
theorem fp_X0_32 : kFL RX0 32 0 6 false := ⟨RX0, TX0, kCl_0, by decide, rfl, fun _ => rfl, Or.inl (gT_of (tb_1 (List.mem_of_getElem? (i := 201) rfl)) rfl)⟩
theorem fg_X6_137 : kFG RX6 137 0 6 := ⟨RX0, TX0, kCl_0, by decide, Or.inl (gT_of (tb_1 (List.mem_of_getElem? (i := 202) rfl)) rfl)⟩
theorem fp_X6_137 : kFL RX6 137 0 6 false := ⟨RX0, TX0, kCl_0, by decide, rfl, (fun h => by cases h), Or.inl (gT_of (tb_1 (List.mem_of_getElem? (i := 202) rfl)) rfl)⟩
theorem fg_X4_153 : kFG RX4 153 0 6 := ⟨RX0, TX0, kCl_0, by decide, Or.inl (gT_of (tb_1 (List.mem_of_getElem? (i := 203) rfl)) rfl)⟩
theorem fp_X4_153 : kFL RX4 153 0 6 false := ⟨RX0, TX0, kCl_0, by decide, rfl, (fun h => by cases h), Or.inl (gT_of (tb_1 (List.mem_of_getElem? (i := 203) rfl)) rfl)⟩
theorem fg_X0_35 : kFG RX0 35 0 7 := ⟨RX0, TX0, kCl_0, by decide, Or.inl (gT_of (tb_1 (List.mem_of_getElem? (i := 204) rfl)) rfl)⟩
theorem fp_X0_35 : kFL RX0 35 0 7 false := ⟨RX0, TX0, kCl_0, by decide, rfl, fun _ => rfl, Or.inl (gT_of (tb_1 (List.mem_of_getElem? (i := 204) rfl)) rfl)⟩
theorem fg_X6_184 : kFG RX6 184 0 7 := ⟨RX0, TX0, kCl_0, by decide, Or.inl (gT_of (tb_1 (List.mem_of_getElem? (i := 205) rfl)) rfl)⟩
theorem fp_X6_184 : kFL RX6 184 0 7 false := ⟨RX0, TX0, kCl_0, by decide, rfl, (fun h => by cases h), Or.inl (gT_of (tb_1 (List.mem_of_getElem? (i := 205) rfl)) rfl)⟩
theorem fg_X0_39 : kFG RX0 39 0 8 := ⟨RX0, TX0, kCl_0, by decide, Or.inl (gT_of (tb_1 (List.mem_of_getElem? (i := 206) rfl)) rfl)⟩
theorem fp_X0_39 : kFL RX0 39 0 8 false := ⟨RX0, TX0, kCl_0, by decide, rfl, fun _ => rfl, Or.inl (gT_of (tb_1 (List.mem_of_getElem? (i := 206) rfl)) rfl)⟩
theorem fg_X0_9 : kFG RX0 9 0 9 := ⟨RX0, TX0, kCl_0, by decide, Or.inl (gT_of (tb_1 (List.mem_of_getElem? (i := 207) rfl)) rfl)⟩
theorem fp_X0_9 : kFL RX0 9 0 9 true := ⟨RX0, TX0, kCl_0, by decide, rfl, fun _ => rfl, Or.inl (gT_of (tb_1 (List.mem_of_getElem? (i := 207) rfl)) rfl)⟩
theorem fg_X0_52 : kFG RX0 52 0 10 := ⟨RX0, TX0, kCl_0, by decide, Or.inl (gT_of (tb_1 (List.mem_of_getElem? (i := 208) rfl)) rfl)⟩
theorem fp_X0_52 : kFL RX0 52 0 10 false := ⟨RX0, TX0, kCl_0, by decide, rfl, fun _ => rfl, Or.inl (gT_of (tb_1 (List.mem_of_getElem? (i := 208) rfl)) rfl)⟩
theorem fg_X6_125 : kFG RX6 125 0 10 := ⟨RX0, TX0, kCl_0, by decide, Or.inl (gT_of (tb_1 (List.mem_of_getElem? (i := 209) rfl)) rfl)⟩
theorem fp_X6_125 : kFL RX6 125 0 10 false := ⟨RX0, TX0, kCl_0, by decide, rfl, (fun h => by cases h), Or.inl (gT_of (tb_1 (List.mem_of_getElem? (i := 209) rfl)) rfl)⟩
theorem fg_X4_97 : kFG RX4 97 0 10 := ⟨RX0, TX0, kCl_0, by decide, Or.inl (gT_of (tb_1 (List.mem_of_getElem? (i := 210) rfl)) rfl)⟩
theorem fp_X4_97 : kFL RX4 97 0 10 false := ⟨RX0, TX0, kCl_0, by decide, rfl, (fun h => by cases h), Or.inl (gT_of (tb_1 (List.mem_of_getElem? (i := 210) rfl)) rfl)⟩
theorem fg_X2_37 : kFG RX2 37 0 11 := ⟨RX0, TX0, kCl_0, by decide, Or.inl (gT_of (tb_1 (List.mem_of_getElem? (i := 211) rfl)) rfl)⟩
theorem fp_X2_37 : kFL RX2 37 0 11 false := ⟨RX0, TX0, kCl_0, by decide, rfl, (fun h => by cases h), Or.inl (gT_of (tb_1 (List.mem_of_getElem? (i := 211) rfl)) rfl)⟩
theorem fg_X6_128 : kFG RX6 128 0 11 := ⟨RX0, TX0, kCl_0, by decide, Or.inl (gT_of (tb_1 (List.mem_of_getElem? (i := 212) rfl)) rfl)⟩
theorem fp_X6_128 : kFL RX6 128 0 11 false := ⟨RX0, TX0, kCl_0, by decide, rfl, (fun h => by cases h), Or.inl (gT_of (tb_1 (List.mem_of_getElem? (i := 212) rfl)) rfl)⟩
theorem fg_X4_100 : kFG RX4 100 0 11 := ⟨RX0, TX0, kCl_0, by decide, Or.inl (gT_of (tb_1 (List.mem_of_getElem? (i := 213) rfl)) rfl)⟩
theorem fp_X4_100 : kFL RX4 100 0 11 false := ⟨RX0, TX0, kCl_0, by decide, rfl, (fun h => by cases h), Or.inl (gT_of (tb_1 (List.mem_of_getElem? (i := 213) rfl)) rfl)⟩
theorem fg_X0_55 : kFG RX0 55 0 12 := ⟨RX0, TX0, kCl_0, by decide, Or.inl (gT_of (tb_1 (List.mem_of_getElem? (i := 214) rfl)) rfl)⟩
theorem fp_X0_55 : kFL RX0 55 0 12 false := ⟨RX0, TX0, kCl_0, by decide, rfl, fun _ => rfl, Or.inl (gT_of (tb_1 (List.mem_of_getElem? (i := 214) rfl)) rfl)⟩
theorem fg_X6_164 : kFG RX6 164 0 12 := ⟨RX0, TX0, kCl_0, by decide, Or.inl (gT_of (tb_1 (List.mem_of_getElem? (i := 215) rfl)) rfl)⟩
theorem fp_X6_164 : kFL RX6 164 0 12 false := ⟨RX0, TX0, kCl_0, by decide, rfl, (fun h => by cases h), Or.inl (gT_of (tb_1 (List.mem_of_getElem? (i := 215) rfl)) rfl)⟩
theorem fg_X4_103 : kFG RX4 103 0 12 := ⟨RX0, TX0, kCl_0, by decide, Or.inl (gT_of (tb_1 (List.mem_of_getElem? (i := 216) rfl)) rfl)⟩
theorem fp_X4_103 : kFL RX4 103 0 12 false := ⟨RX0, TX0, kCl_0, by decide, rfl, (fun h => by cases h), Or.inl (gT_of (tb_1 (List.mem_of_getElem? (i := 216) rfl)) rfl)⟩
theorem fg_X0_58 : kFG RX0 58 0 13 := ⟨RX0, TX0, kCl_0, by decide, Or.inl (gT_of (tb_1 (List.mem_of_getElem? (i := 217) rfl)) rfl)⟩
theorem fp_X0_58 : kFL RX0 58 0 13 false := ⟨RX0, TX0, kCl_0, by decide, rfl, fun _ => rfl, Or.inl (gT_of (tb_1 (List.mem_of_getElem? (i := 217) rfl)) rfl)⟩
theorem fg_X6_131 : kFG RX6 131 0 13 := ⟨RX0, TX0, kCl_0, by decide, Or.inl (gT_of (tb_1 (List.mem_of_getElem? (i := 218) rfl)) rfl)⟩
theorem fp_X6_131 : kFL RX6 131 0 13 false := ⟨RX0, TX0, kCl_0, by decide, rfl, (fun h => by cases h), Or.inl (gT_of (tb_1 (List.mem_of_getElem? (i := 218) rfl)) rfl)⟩
theorem fg_X4_106 : kFG RX4 106 0 13 := ⟨RX0, TX0, kCl_0, by decide, Or.inl (gT_of (tb_1 (List.mem_of_getElem? (i := 219) rfl)) rfl)⟩
theorem fp_X4_106 : kFL RX4 106 0 13 false := ⟨RX0, TX0, kCl_0, by decide, rfl, (fun h => by cases h), Or.inl (gT_of (tb_1 (List.mem_of_getElem? (i := 219) rfl)) rfl)⟩
theorem fg_X0_76 : kFG RX0 76 0 14 := ⟨RX0, TX0, kCl_0, by decide, Or.inl (gT_of (tb_1 (List.mem_of_getElem? (i := 220) rfl)) rfl)⟩
theorem fp_X0_76 : kFL RX0 76 0 14 false := ⟨RX0, TX0, kCl_0, by decide, rfl, fun _ => rfl, Or.inl (gT_of (tb_1 (List.mem_of_getElem? (i := 220) rfl)) rfl)⟩
theorem fg_X0_83 : kFG RX0 83 0 15 := ⟨RX0, TX0, kCl_0, by decide, Or.inl (gT_of (tb_1 (List.mem_of_getElem? (i := 221) rfl)) rfl)⟩
theorem fp_X0_83 : kFL RX0 83 0 15 false := ⟨RX0, TX0, kCl_0, by decide, rfl, fun _ => rfl, Or.inl (gT_of (tb_1 (List.mem_of_getElem? (i := 221) rfl)) rfl)⟩
theorem fg_X4_146 : kFG RX4 146 0 15 := ⟨RX0, TX0, kCl_0, by decide, Or.inr (by decide +kernel)⟩
theorem fp_X4_146 : kFL RX4 146 0 15 false := ⟨RX0, TX0, kCl_0, by decide, rfl, (fun h => by cases h), Or.inr ⟨by decide, by decide +kernel⟩⟩
theorem fg_X4_9 : kFG RX4 9 4 0 := ⟨RX4, TX4, kCl_4, by decide, Or.inl (gT_of (tb_2 (List.mem_of_getElem? (i := 16) rfl)) rfl)⟩
theorem fp_X4_9 : kFL RX4 9 4 0 false := ⟨RX4, TX4, kCl_4, by decide, rfl, fun _ => rfl, Or.inl (gT_of (tb_2 (List.mem_of_getElem? (i := 16) rfl)) rfl)⟩
theorem fg_X6_76 : kFG RX6 76 4 0 := ⟨RX4, TX4, kCl_4, by decide, Or.inl (gT_of (tb_2 (List.mem_of_getElem? (i := 17) rfl)) rfl)⟩
theorem fp_X6_76 : kFL RX6 76 4 0 false := ⟨RX4, TX4, kCl_4, by decide, rfl, (fun h => by cases h), Or.inl (gT_of (tb_2 (List.mem_of_getElem? (i := 17) rfl)) rfl)⟩
theorem fg_X4_15 : kFG RX4 15 4 1 := ⟨RX4, TX4, kCl_4, by decide, Or.inl (gT_of (tb_2 (List.mem_of_getElem? (i := 18) rfl)) rfl)⟩
theorem fp_X4_15 : kFL RX4 15 4 1 false := ⟨RX4, TX4, kCl_4, by decide, rfl, fun _ => rfl, Or.inl (gT_of (tb_2 (List.mem_of_getElem? (i := 18) rfl)) rfl)⟩
theorem fg_X6_63 : kFG RX6 63 4 1 := ⟨RX4, TX4, kCl_4, by decide, Or.inl (gT_of (tb_2 (List.mem_of_getElem? (i := 19) rfl)) rfl)⟩
theorem fp_X6_63 : kFL RX6 63 4 1 false := ⟨RX4, TX4, kCl_4, by decide, rfl, (fun h => by cases h), Or.inl (gT_of (tb_2 (List.mem_of_getElem? (i := 19) rfl)) rfl)⟩
theorem fg_X4_18 : kFG RX4 18 4 2 := ⟨RX4, TX4, kCl_4, by decide, Or.inl (gT_of (tb_2 (List.mem_of_getElem? (i := 20) rfl)) rfl)⟩
theorem fp_X4_18 : kFL RX4 18 4 2 false := ⟨RX4, TX4, kCl_4, by decide, rfl, fun _ => rfl, Or.inl (gT_of (tb_2 (List.mem_of_getElem? (i := 20) rfl)) rfl)⟩
theorem fg_X6_188 : kFG RX6 188 4 2 := ⟨RX4, TX4, kCl_4, by decide, Or.inl (gT_of (tb_2 (List.mem_of_getElem? (i := 21) rfl)) rfl)⟩
theorem fp_X6_188 : kFL RX6 188 4 2 false := ⟨RX4, TX4, kCl_4, by decide, rfl, (fun h => by cases h), Or.inl (gT_of (tb_2 (List.mem_of_getElem? (i := 21) rfl)) rfl)⟩
theorem fg_X4_21 : kFG RX4 21 4 3 := ⟨RX4, TX4, kCl_4, by decide, Or.inl (gT_of (tb_2 (List.mem_of_getElem? (i := 22) rfl)) rfl)⟩
theorem fp_X4_21 : kFL RX4 21 4 3 false := ⟨RX4, TX4, kCl_4, by decide, rfl, fun _ => rfl, Or.inl (gT_of (tb_2 (List.mem_of_getElem? (i := 22) rfl)) rfl)⟩
theorem fg_X6_94 : kFG RX6 94 4 3 := ⟨RX4, TX4, kCl_4, by decide, Or.inl (gT_of (tb_2 (List.mem_of_getElem? (i := 23) rfl)) rfl)⟩
theorem fp_X6_94 : kFL RX6 94 4 3 false := ⟨RX4, TX4, kCl_4, by decide, rfl, (fun h => by cases h), Or.inl (gT_of (tb_2 (List.mem_of_getElem? (i := 23) rfl)) rfl)⟩
theorem fg_X4_24 : kFG RX4 24 4 4 := ⟨RX4, TX4, kCl_4, by decide, Or.inl (gT_of (tb_2 (List.mem_of_getElem? (i := 24) rfl)) rfl)⟩
theorem fp_X4_24 : kFL RX4 24 4 4 false := ⟨RX4, TX4, kCl_4, by decide, rfl, fun _ => rfl, Or.inl (gT_of (tb_2 (List.mem_of_getElem? (i := 24) rfl)) rfl)⟩
theorem fg_X2_30 : kFG RX2 30 4 4 := ⟨RX4, TX4, kCl_4, by decide, Or.inl (gT_of (tb_2 (List.mem_of_getElem? (i := 25) rfl)) rfl)⟩
theorem fp_X2_30 : kFL RX2 30 4 4 false := ⟨RX4, TX4, kCl_4, by decide, rfl, (fun h => by cases h), Or.inl (gT_of (tb_2 (List.mem_of_getElem? (i := 25) rfl)) rfl)⟩
theorem fg_X6_67 : kFG RX6 67 4 4 := ⟨RX4, TX4, kCl_4, by decide, Or.inl (gT_of (tb_2 (List.mem_of_getElem? (i := 26) rfl)) rfl)⟩
theorem fp_X6_67 : kFL RX6 67 4 4 false := ⟨RX4, TX4, kCl_4, by decide, rfl, (fun h => by cases h), Or.inl (gT_of (tb_2 (List.mem_of_getElem? (i := 26) rfl)) rfl)⟩
theorem fg_X4_27 : kFG RX4 27 4 5 := ⟨RX4, TX4, kCl_4, by decide, Or.inl (gT_of (tb_2 (List.mem_of_getElem? (i := 27) rfl)) rfl)⟩
theorem fp_X4_27 : kFL RX4 27 4 5 false := ⟨RX4, TX4, kCl_4, by decide, rfl, fun _ => rfl, Or.inl (gT_of (tb_2 (List.mem_of_getElem? (i := 27) rfl)) rfl)⟩
theorem fg_X6_70 : kFG RX6 70 4 5 := ⟨RX4, TX4, kCl_4, by decide, Or.inl (gT_of (tb_2 (List.mem_of_getElem? (i := 28) rfl)) rfl)⟩
theorem fp_X6_70 : kFL RX6 70 4 5 false := ⟨RX4, TX4, kCl_4, by decide, rfl, (fun h => by cases h), Or.inl (gT_of (tb_2 (List.mem_of_getElem? (i := 28) rfl)) rfl)⟩
theorem fg_X4_30 : kFG RX4 30 4 6 := ⟨RX4, TX4, kCl_4, by decide, Or.inl (gT_of (tb_2 (List.mem_of_getElem? (i := 29) rfl)) rfl)⟩
theorem fp_X4_30 : kFL RX4 30 4 6 false := ⟨RX4, TX4, kCl_4, by decide, rfl, fun _ => rfl, Or.inl (gT_of (tb_2 (List.mem_of_getElem? (i := 29) rfl)) rfl)⟩
theorem fg_X6_73 : kFG RX6 73 4 6 := ⟨RX4, TX4, kCl_4, by decide, Or.inl (gT_of (tb_2 (List.mem_of_getElem? (i := 30) rfl)) rfl)⟩
theorem fp_X6_73 : kFL RX6 73 4 6 false := ⟨RX4, TX4, kCl_4, by decide, rfl, (fun h => by cases h), Or.inl (gT_of (tb_2 (List.mem_of_getElem? (i := 30) rfl)) rfl)⟩
theorem fg_X4_35 : kFG RX4 35 4 7 := ⟨RX4, TX4, kCl_4, by decide, Or.inl (gT_of (tb_2 (List.mem_of_getElem? (i := 31) rfl)) rfl)⟩
theorem fp_X4_35 : kFL RX4 35 4 7 true := ⟨RX4, TX4, kCl_4, by decide, rfl, fun _ => rfl, Or.inl (gT_of (tb_2 (List.mem_of_getElem? (i := 31) rfl)) rfl)⟩
theorem fg_X2_33 : kFG RX2 33 4 7 := ⟨RX4, TX4, kCl_4, by decide, Or.inl (gT_of (tb_2 (List.mem_of_getElem? (i := 32) rfl)) rfl)⟩
theorem fg_X6_100 : kFG RX6 100 4 7 := ⟨RX4, TX4, kCl_4, by decide, Or.inl (gT_of (tb_2 (List.mem_of_getElem? (i := 33) rfl)) rfl)⟩
theorem fg_X4_41 : kFG RX4 41 4 8 := ⟨RX4, TX4, kCl_4, by decide, Or.inl (gT_of (tb_2 (List.mem_of_getElem? (i := 34) rfl)) rfl)⟩
theorem fp_X4_41 : kFL RX4 41 4 8 true := ⟨RX4, TX4, kCl_4, by decide, rfl, fun _ => rfl, Or.inl (gT_of (tb_2 (List.mem_of_getElem? (i := 34) rfl)) rfl)⟩
theorem fg_X6_157 : kFG RX6 157 4 8 := ⟨RX4, TX4, kCl_4, by decide, Or.inl (gT_of (tb_2 (List.mem_of_getElem? (i := 35) rfl)) rfl)⟩
theorem fg_X4_45 : kFG RX4 45 4 9 := ⟨RX4, TX4, kCl_4, by decide, Or.inl (gT_of (tb_2 (List.mem_of_getElem? (i := 36) rfl)) rfl)⟩
theorem fp_X4_45 : kFL RX4 45 4 9 true := ⟨RX4, TX4, kCl_4, by decide, rfl, fun _ => rfl, Or.inl (gT_of (tb_2 (List.mem_of_getElem? (i := 36) rfl)) rfl)⟩
theorem fg_X4_49 : kFG RX4 49 4 10 := ⟨RX4, TX4, kCl_4, by decide, Or.inl (gT_of (tb_2 (List.mem_of_getElem? (i := 37) rfl)) rfl)⟩
theorem fp_X4_49 : kFL RX4 49 4 10 true := ⟨RX4, TX4, kCl_4, by decide, rfl, fun _ => rfl, Or.inl (gT_of (tb_2 (List.mem_of_getElem? (i := 37) rfl)) rfl)⟩
theorem fg_X4_52 : kFG RX4 52 4 11 := ⟨RX4, TX4, kCl_4, by decide, Or.inl (gT_of (tb_2 (List.mem_of_getElem? (i := 38) rfl)) rfl)⟩
theorem fp_X4_52 : kFL RX4 52 4 11 true := ⟨RX4, TX4, kCl_4, by decide, rfl, fun _ => rfl, Or.inl (gT_of (tb_2 (List.mem_of_getElem? (i := 38) rfl)) rfl)⟩
theorem fg_X4_55 : kFG RX4 55 4 12 := ⟨RX4, TX4, kCl_4, by decide, Or.inl (gT_of (tb_2 (List.mem_of_getElem? (i := 39) rfl)) rfl)⟩
theorem fp_X4_55 : kFL RX4 55 4 12 true := ⟨RX4, TX4, kCl_4, by decide, rfl, fun _ => rfl, Or.inl (gT_of (tb_2 (List.mem_of_getElem? (i := 39) rfl)) rfl)⟩
theorem fg_X4_58 : kFG RX4 58 4 13 := ⟨RX4, TX4, kCl_4, by decide, Or.inl (gT_of (tb_2 (List.mem_of_getElem? (i := 40) rfl)) rfl)⟩
theorem fp_X4_58 : kFL RX4 58 4 13 true := ⟨RX4, TX4, kCl_4, by decide, rfl, fun _ => rfl, Or.inl (gT_of (tb_2 (List.mem_of_getElem? (i := 40) rfl)) rfl)⟩
theorem fg_X6_177 : kFG RX6 177 4 13 := ⟨RX4, TX4, kCl_4, by decide, Or.inl (gT_of (tb_2 (List.mem_of_getElem? (i := 41) rfl)) rfl)⟩
theorem fg_X4_61 : kFG RX4 61 4 14 := ⟨RX4, TX4, kCl_4, by decide, Or.inl (gT_of (tb_2 (List.mem_of_getElem? (i := 42) rfl)) rfl)⟩
theorem fp_X4_61 : kFL RX4 61 4 14 true := ⟨RX4, TX4, kCl_4, by decide, rfl, fun _ => rfl, Or.inl (gT_of (tb_2 (List.mem_of_getElem? (i := 42) rfl)) rfl)⟩
theorem fg_X6_181 : kFG RX6 181 4 14 := ⟨RX4, TX4, kCl_4, by decide, Or.inl (gT_of (tb_2 (List.mem_of_getElem? (i := 43) rfl)) rfl)⟩
theorem fg_X5_9 : kFG RX5 9 5 0 := ⟨RX5, TX5, kCl_5, by decide, Or.inl (gT_of (tb_2 (List.mem_of_getElem? (i := 80) rfl)) rfl)⟩
theorem fp_X5_9 : kFL RX5 9 5 0 false := ⟨RX5, TX5, kCl_5, by decide, rfl, fun _ => rfl, Or.inl (gT_of (tb_2 (List.mem_of_getElem? (i := 80) rfl)) rfl)⟩
theorem fg_X6_251 : kFG RX6 251 5 0 := ⟨RX5, TX5, kCl_5, by decide, Or.inl (gT_of (tb_2 (List.mem_of_getElem? (i := 81) rfl)) rfl)⟩
theorem fp_X6_251 : kFL RX6 251 5 0 false := ⟨RX5, TX5, kCl_5, by decide, rfl, (fun h => by cases h), Or.inl (gT_of (tb_2 (List.mem_of_getElem? (i := 81) rfl)) rfl)⟩
theorem fg_X5_15 : kFG RX5 15 5 1 := ⟨RX5, TX5, kCl_5, by decide, Or.inl (gT_of (tb_2 (List.mem_of_getElem? (i := 82) rfl)) rfl)⟩
theorem fp_X5_15 : kFL RX5 15 5 1 false := ⟨RX5, TX5, kCl_5, by decide, rfl, fun _ => rfl, Or.inl (gT_of (tb_2 (List.mem_of_getElem? (i := 82) rfl)) rfl)⟩
theorem fg_X6_252 : kFG RX6 252 5 1 := ⟨RX5, TX5, kCl_5, by decide, Or.inl (gT_of (tb_2 (List.mem_of_getElem? (i := 83) rfl)) rfl)⟩
theorem fp_X6_252 : kFL RX6 252 5 1 false := ⟨RX5, TX5, kCl_5, by decide, rfl, (fun h => by cases h), Or.inl (gT_of (tb_2 (List.mem_of_getElem? (i := 83) rfl)) rfl)⟩
theorem fg_X5_18 : kFG RX5 18 5 2 := ⟨RX5, TX5, kCl_5, by decide, Or.inl (gT_of (tb_2 (List.mem_of_getElem? (i := 84) rfl)) rfl)⟩
theorem fp_X5_18 : kFL RX5 18 5 2 true := ⟨RX5, TX5, kCl_5, by decide, rfl, fun _ => rfl, Or.inl (gT_of (tb_2 (List.mem_of_getElem? (i := 84) rfl)) rfl)⟩
theorem fg_X6_244 : kFG RX6 244 5 2 := ⟨RX5, TX5, kCl_5, by decide, Or.inl (gT_of (tb_2 (List.mem_of_getElem? (i := 85) rfl)) rfl)⟩
theorem fg_X6_12 : kFG RX6 12 6 0 := ⟨RX6, TX6, kCl_6, by decide, Or.inl (gT_of (tb_2 (List.mem_of_getElem? (i := 93) rfl)) rfl)⟩
theorem fp_X6_12 : kFL RX6 12 6 0 true := ⟨RX6, TX6, kCl_6, by decide, rfl, fun _ => rfl, Or.inl (gT_of (tb_2 (List.mem_of_getElem? (i := 93) rfl)) rfl)⟩
theorem fg_X6_47 : kFG RX6 47 6 1 := ⟨RX6, TX6, kCl_6, by decide, Or.inl (gT_of (tb_2 (List.mem_of_getElem? (i := 94) rfl)) rfl)⟩
theorem fp_X6_47 : kFL RX6 47 6 1 true := ⟨RX6, TX6, kCl_6, by decide, rfl, fun _ => rfl, Or.inl (gT_of (tb_2 (List.mem_of_getElem? (i := 94) rfl)) rfl)⟩
theorem fg_X6_51 : kFG RX6 51 6 2 := ⟨RX6, TX6, kCl_6, by decide, Or.inl (gT_of (tb_2 (List.mem_of_getElem? (i := 95) rfl)) rfl)⟩
theorem fp_X6_51 : kFL RX6 51 6 2 true := ⟨RX6, TX6, kCl_6, by decide, rfl, fun _ => rfl, Or.inl (gT_of (tb_2 (List.mem_of_getElem? (i := 95) rfl)) rfl)⟩
theorem fg_X6_18 : kFG RX6 18 6 3 := ⟨RX6, TX6, kCl_6, by decide, Or.inl (gT_of (tb_2 (List.mem_of_getElem? (i := 96) rfl)) rfl)⟩
theorem fp_X6_18 : kFL RX6 18 6 3 true := ⟨RX6, TX6, kCl_6, by decide, rfl, fun _ => rfl, Or.inl (gT_of (tb_2 (List.mem_of_getElem? (i := 96) rfl)) rfl)⟩
theorem fg_X6_22 : kFG RX6 22 6 4 := ⟨RX6, TX6, kCl_6, by decide, Or.inl (gT_of (tb_2 (List.mem_of_getElem? (i := 97) rfl)) rfl)⟩
theorem fp_X6_22 : kFL RX6 22 6 4 true := ⟨RX6, TX6, kCl_6, by decide, rfl, fun _ => rfl, Or.inl (gT_of (tb_2 (List.mem_of_getElem? (i := 97) rfl)) rfl)⟩
theorem fg_X6_29 : kFG RX6 29 6 5 := ⟨RX6, TX6, kCl_6, by decide, Or.inl (gT_of (tb_2 (List.mem_of_getElem? (i := 98) rfl)) rfl)⟩
theorem fp_X6_29 : kFL RX6 29 6 5 true := ⟨RX6, TX6, kCl_6, by decide, rfl, fun _ => rfl, Or.inl (gT_of (tb_2 (List.mem_of_getElem? (i := 98) rfl)) rfl)⟩
theorem fg_X6_35 : kFG RX6 35 6 6 := ⟨RX6, TX6, kCl_6, by decide, Or.inl (gT_of (tb_2 (List.mem_of_getElem? (i := 99) rfl)) rfl)⟩
theorem fp_X6_35 : kFL RX6 35 6 6 true := ⟨RX6, TX6, kCl_6, by decide, rfl, fun _ => rfl, Or.inl (gT_of (tb_2 (List.mem_of_getElem? (i := 99) rfl)) rfl)⟩
theorem fg_X7_7 : kFG RX7 7 7 0 := ⟨RX7, TX7, kCl_7, by decide, Or.inl (gT_of (tb_4 (List.mem_of_getElem? (i := 51) rfl)) rfl)⟩
theorem fp_X7_7 : kFL RX7 7 7 0 true := ⟨RX7, TX7, kCl_7, by decide, rfl, fun _ => rfl, Or.inl (gT_of (tb_4 (List.mem_of_getElem? (i := 51) rfl)) rfl)⟩
theorem fg_X7_13 : kFG RX7 13 7 1 := ⟨RX7, TX7, kCl_7, by decide, Or.inl (gT_of (tb_4 (List.mem_of_getElem? (i := 52) rfl)) rfl)⟩
theorem fp_X7_13 : kFL RX7 13 7 1 true := ⟨RX7, TX7, kCl_7, by decide, rfl, fun _ => rfl, Or.inl (gT_of (tb_4 (List.mem_of_getElem? (i := 52) rfl)) rfl)⟩
theorem fg_X7_17 : kFG RX7 17 7 2 := ⟨RX7, TX7, kCl_7, by decide, Or.inl (gT_of (tb_4 (List.mem_of_getElem? (i := 53) rfl)) rfl)⟩
theorem fp_X7_17 : kFL RX7 17 7 2 true := ⟨RX7, TX7, kCl_7, by decide, rfl, fun _ => rfl, Or.inl (gT_of (tb_4 (List.mem_of_getElem? (i := 53) rfl)) rfl)⟩
theorem fg_X7_106 : kFG RX7 106 7 3 := ⟨RX7, TX7, kCl_7, by decide, Or.inl (gT_of (tb_4 (List.mem_of_getElem? (i := 54) rfl)) rfl)⟩
theorem fp_X7_106 : kFL RX7 106 7 3 false := ⟨RX7, TX7, kCl_7, by decide, rfl, fun _ => rfl, Or.inl (gT_of (tb_4 (List.mem_of_getElem? (i := 54) rfl)) rfl)⟩
theorem fg_X7_20 : kFG RX7 20 7 4 := ⟨RX7, TX7, kCl_7, by decide, Or.inl (gT_of (tb_4 (List.mem_of_getElem? (i := 55) rfl)) rfl)⟩
theorem fp_X7_20 : kFL RX7 20 7 4 true := ⟨RX7, TX7, kCl_7, by decide, rfl, fun _ => rfl, Or.inl (gT_of (tb_4 (List.mem_of_getElem? (i := 55) rfl)) rfl)⟩
theorem fg_X7_23 : kFG RX7 23 7 5 := ⟨RX7, TX7, kCl_7, by decide, Or.inl (gT_of (tb_4 (List.mem_of_getElem? (i := 56) rfl)) rfl)⟩
theorem fp_X7_23 : kFL RX7 23 7 5 true := ⟨RX7, TX7, kCl_7, by decide, rfl, fun _ => rfl, Or.inl (gT_of (tb_4 (List.mem_of_getElem? (i := 56) rfl)) rfl)⟩
theorem fg_X7_26 : kFG RX7 26 7 6 := ⟨RX7, TX7, kCl_7, by decide, Or.inl (gT_of (tb_4 (List.mem_of_getElem? (i := 57) rfl)) rfl)⟩
theorem fp_X7_26 : kFL RX7 26 7 6 true := ⟨RX7, TX7, kCl_7, by decide, rfl, fun _ => rfl, Or.inl (gT_of (tb_4 (List.mem_of_getElem? (i := 57) rfl)) rfl)⟩
theorem fg_X7_29 : kFG RX7 29 7 7 := ⟨RX7, TX7, kCl_7, by decide, Or.inl (gT_of (tb_4 (List.mem_of_getElem? (i := 58) rfl)) rfl)⟩
theorem fp_X7_29 : kFL RX7 29 7 7 true := ⟨RX7, TX7, kCl_7, by decide, rfl, fun _ => rfl, Or.inl (gT_of (tb_4 (List.mem_of_getElem? (i := 58) rfl)) rfl)⟩
theorem fg_X7_32 : kFG RX7 32 7 8 := ⟨RX7, TX7, kCl_7, by decide, Or.inl (gT_of (tb_4 (List.mem_of_getElem? (i := 59) rfl)) rfl)⟩
theorem fp_X7_32 : kFL RX7 32 7 8 true := ⟨RX7, TX7, kCl_7, by decide, rfl, fun _ => rfl, Or.inl (gT_of (tb_4 (List.mem_of_getElem? (i := 59) rfl)) rfl)⟩
theorem fg_X7_35 : kFG RX7 35 7 9 := ⟨RX7, TX7, kCl_7, by decide, Or.inl (gT_of (tb_4 (List.mem_of_getElem? (i := 60) rfl)) rfl)⟩
theorem fp_X7_35 : kFL RX7 35 7 9 true := ⟨RX7, TX7, kCl_7, by decide, rfl, fun _ => rfl, Or.inl (gT_of (tb_4 (List.mem_of_getElem? (i := 60) rfl)) rfl)⟩
theorem fg_X7_110 : kFG RX7 110 7 10 := ⟨RX7, TX7, kCl_7, by decide, Or.inl (gT_of (tb_4 (List.mem_of_getElem? (i := 61) rfl)) rfl)⟩
theorem fp_X7_110 : kFL RX7 110 7 10 false := ⟨RX7, TX7, kCl_7, by decide, rfl, fun _ => rfl, Or.inl (gT_of (tb_4 (List.mem_of_getElem? (i := 61) rfl)) rfl)⟩
theorem fg_X7_137 : kFG RX7 137 7 11 := ⟨RX7, TX7, kCl_7, by decide, Or.inl (gT_of (tb_4 (List.mem_of_getElem? (i := 62) rfl)) rfl)⟩
theorem fp_X7_137 : kFL RX7 137 7 11 false := ⟨RX7, TX7, kCl_7, by decide, rfl, fun _ => rfl, Or.inl (gT_of (tb_4 (List.mem_of_getElem? (i := 62) rfl)) rfl)⟩
theorem fg_X7_140 : kFG RX7 140 7 12 := ⟨RX7, TX7, kCl_7, by decide, Or.inl (gT_of (tb_4 (List.mem_of_getElem? (i := 63) rfl)) rfl)⟩
theorem fp_X7_140 : kFL RX7 140 7 12 false := ⟨RX7, TX7, kCl_7, by decide, rfl, fun _ => rfl, Or.inl (gT_of (tb_4 (List.mem_of_getElem? (i := 63) rfl)) rfl)⟩
theorem fg_X7_38 : kFG RX7 38 7 13 := ⟨RX7, TX7, kCl_7, by decide, Or.inl (gT_of (tb_4 (List.mem_of_getElem? (i := 64) rfl)) rfl)⟩
theorem fp_X7_38 : kFL RX7 38 7 13 true := ⟨RX7, TX7, kCl_7, by decide, rfl, fun _ => rfl, Or.inl (gT_of (tb_4 (List.mem_of_getElem? (i := 64) rfl)) rfl)⟩
theorem fg_X7_41 : kFG RX7 41 7 14 := ⟨RX7, TX7, kCl_7, by decide, Or.inl (gT_of (tb_4 (List.mem_of_getElem? (i := 65) rfl)) rfl)⟩
theorem fp_X7_41 : kFL RX7 41 7 14 true := ⟨RX7, TX7, kCl_7, by decide, rfl, fun _ => rfl, Or.inl (gT_of (tb_4 (List.mem_of_getElem? (i := 65) rfl)) rfl)⟩
theorem fg_X7_44 : kFG RX7 44 7 15 := ⟨RX7, TX7, kCl_7, by decide, Or.inl (gT_of (tb_4 (List.mem_of_getElem? (i := 66) rfl)) rfl)⟩
theorem fp_X7_44 : kFL RX7 44 7 15 true := ⟨RX7, TX7, kCl_7, by decide, rfl, fun _ => rfl, Or.inl (gT_of (tb_4 (List.mem_of_getElem? (i := 66) rfl)) rfl)⟩
theorem fg_X7_156 : kFG RX7 156 7 16 := ⟨RX7, TX7, kCl_7, by decide, Or.inl (gT_of (tb_4 (List.mem_of_getElem? (i := 67) rfl)) rfl)⟩
theorem fp_X7_156 : kFL RX7 156 7 16 false := ⟨RX7, TX7, kCl_7, by decide, rfl, fun _ => rfl, Or.inl (gT_of (tb_4 (List.mem_of_getElem? (i := 67) rfl)) rfl)⟩
theorem fg_X7_159 : kFG RX7 159 7 17 := ⟨RX7, TX7, kCl_7, by decide, Or.inl (gT_of (tb_4 (List.mem_of_getElem? (i := 68) rfl)) rfl)⟩
theorem fp_X7_159 : kFL RX7 159 7 17 false := ⟨RX7, TX7, kCl_7, by decide, rfl, fun _ => rfl, Or.inl (gT_of (tb_4 (List.mem_of_getElem? (i := 68) rfl)) rfl)⟩
theorem fg_X7_47 : kFG RX7 47 7 18 := ⟨RX7, TX7, kCl_7, by decide, Or.inl (gT_of (tb_4 (List.mem_of_getElem? (i := 69) rfl)) rfl)⟩
theorem fp_X7_47 : kFL RX7 47 7 18 true := ⟨RX7, TX7, kCl_7, by decide, rfl, fun _ => rfl, Or.inl (gT_of (tb_4 (List.mem_of_getElem? (i := 69) rfl)) rfl)⟩
theorem fg_X7_50 : kFG RX7 50 7 19 := ⟨RX7, TX7, kCl_7, by decide, Or.inl (gT_of (tb_4 (List.mem_of_getElem? (i := 70) rfl)) rfl)⟩
theorem fp_X7_50 : kFL RX7 50 7 19 true := ⟨RX7, TX7, kCl_7, by decide, rfl, fun _ => rfl, Or.inl (gT_of (tb_4 (List.mem_of_getElem? (i := 70) rfl)) rfl)⟩
theorem fg_X7_203 : kFG RX7 203 7 20 := ⟨RX7, TX7, kCl_7, by decide, Or.inl (gT_of (tb_4 (List.mem_of_getElem? (i := 71) rfl)) rfl)⟩
theorem fp_X7_203 : kFL RX7 203 7 20 false := ⟨RX7, TX7, kCl_7, by decide, rfl, fun _ => rfl, Or.inl (gT_of (tb_4 (List.mem_of_getElem? (i := 71) rfl)) rfl)⟩
theorem mb_L_9 : kMB RL 9 0 mX6_init := ⟨gT_of (tb_1 (List.mem_of_getElem? (i := 15) rfl)) rfl, gT_of (tb_1 (List.mem_of_getElem? (i := 1) rfl)) rfl, gT_of (tb_1 (List.mem_of_getElem? (i := 17) rfl)) rfl, ⟨by decide +kernel, by decide +kernel, by decide +kernel⟩, by decide⟩
theorem mc_L_9 : kMC RL 9 0 mX6_init := ⟨mb_L_9, gT_of (tb_1 (List.mem_of_getElem? (i := 16) rfl)) rfl, rfl, rfl⟩
theorem mn_X6_11 : kMN RX6 11 0 mX3_init := ⟨by decide +kernel, gT_of (tb_1 (List.mem_of_getElem? (i := 2) rfl)) rfl, gT_of (tb_1 (List.mem_of_getElem? (i := 25) rfl)) rfl, ⟨by decide +kernel, by decide +kernel, by decide +kernel⟩, by decide, gT_of (tb_1 (List.mem_of_getElem? (i := 24) rfl)) rfl, rfl, rfl⟩
theorem mn_X6_28 : kMN RX6 28 0 mX2_init := ⟨by decide +kernel, gT_of (tb_1 (List.mem_of_getElem? (i := 3) rfl)) rfl, gT_of (tb_1 (List.mem_of_getElem? (i := 96) rfl)) rfl, ⟨by decide +kernel, by decide +kernel, by decide +kernel⟩, by decide, gT_of (tb_1 (List.mem_of_getElem? (i := 95) rfl)) rfl, rfl, rfl⟩
theorem mb_X6_41 : kMB RX6 41 1 mX1_init := ⟨gT_of (tb_1 (List.mem_of_getElem? (i := 118) rfl)) rfl, gT_of (tb_1 (List.mem_of_getElem? (i := 4) rfl)) rfl, gT_of (tb_1 (List.mem_of_getElem? (i := 120) rfl)) rfl, ⟨by decide +kernel, by decide +kernel, by decide +kernel⟩, by decide⟩
theorem mc_X6_41 : kMC RX6 41 1 mX1_init := ⟨mb_X6_41, gT_of (tb_1 (List.mem_of_getElem? (i := 119) rfl)) rfl, rfl, rfl⟩
theorem mb_X1_25 : kMB RX1 25 2 mJ7_copyOf_59c91 := ⟨gT_of (tb_1 (List.mem_of_getElem? (i := 122) rfl)) rfl, gT_of (tb_1 (List.mem_of_getElem? (i := 5) rfl)) rfl, gT_of (tb_1 (List.mem_of_getElem? (i := 124) rfl)) rfl, ⟨by decide +kernel, by decide +kernel, by decide +kernel⟩, by decide⟩
theorem ms_X1_25 : kMS RX1 25 2 mJ7_copyOf_59c91 := ⟨mb_X1_25, gT_of (tb_1 (List.mem_of_getElem? (i := 123) rfl)) rfl⟩
theorem mb_J7_304 : kMB RJ7 304 2 mJ9_min_7cf53 := ⟨gT_of (tb_1 (List.mem_of_getElem? (i := 132) rfl)) rfl, gT_of (tb_1 (List.mem_of_getElem? (i := 6) rfl)) rfl, gT_of (tb_1 (List.mem_of_getElem? (i := 134) rfl)) rfl, ⟨by decide +kernel, by decide +kernel, by decide +kernel⟩, by decide⟩
theorem ms_J7_304 : kMS RJ7 304 2 mJ9_min_7cf53 := ⟨mb_J7_304, gT_of (tb_1 (List.mem_of_getElem? (i := 133) rfl)) rfl⟩
theorem mb_X6_44 : kMB RX6 44 1 mX4_init := ⟨gT_of (tb_1 (List.mem_of_getElem? (i := 168) rfl)) rfl, gT_of (tb_1 (List.mem_of_getElem? (i := 8) rfl)) rfl, gT_of (tb_1 (List.mem_of_getElem? (i := 170) rfl)) rfl, ⟨by decide +kernel, by decide +kernel, by decide +kernel⟩, by decide⟩
theorem mc_X6_44 : kMC RX6 44 1 mX4_init := ⟨mb_X6_44, gT_of (tb_1 (List.mem_of_getElem? (i := 169) rfl)) rfl, rfl, rfl⟩
theorem mn_X4_64 : kMN RX4 64 0 mX0_init := ⟨by decide +kernel, gT_of (tb_1 (List.mem_of_getElem? (i := 9) rfl)) rfl, gT_of (tb_1 (List.mem_of_getElem? (i := 179) rfl)) rfl, ⟨by decide +kernel, by decide +kernel, by decide +kernel⟩, by decide, gT_of (tb_1 (List.mem_of_getElem? (i := 178) rfl)) rfl, rfl, rfl⟩
theorem mn_X6_54 : kMN RX6 54 0 mX5_init := ⟨by decide +kernel, gT_of (tb_1 (List.mem_of_getElem? (i := 10) rfl)) rfl, gT_of (tb_2 (List.mem_of_getElem? (i := 78) rfl)) rfl, ⟨by decide +kernel, by decide +kernel, by decide +kernel⟩, by decide, gT_of (tb_2 (List.mem_of_getElem? (i := 77) rfl)) rfl, rfl, rfl⟩
theorem mb_L_13 : kMB RL 13 2 mX6_ring := ⟨gT_of (tb_2 (List.mem_of_getElem? (i := 115) rfl)) rfl, gT_of (tb_1 (List.mem_of_getElem? (i := 1) rfl)) rfl, gT_of (tb_2 (List.mem_of_getElem? (i := 118) rfl)) rfl, ⟨by decide +kernel, by decide +kernel, by decide +kernel⟩, by decide⟩
theorem mv_L_13 : kMV RL 13 2 mX6_ring := ⟨mb_L_13, gT_of (tb_2 (List.mem_of_getElem? (i := 116) rfl)) rfl, gT_of (tb_2 (List.mem_of_getElem? (i := 117) rfl)) rfl⟩
theorem mb_X6_55 : kMB RX6 55 1 mX6_changeLength := ⟨gT_of (tb_2 (List.mem_of_getElem? (i := 119) rfl)) rfl, gT_of (tb_1 (List.mem_of_getElem? (i := 1) rfl)) rfl, gT_of (tb_2 (List.mem_of_getElem? (i := 122) rfl)) rfl, ⟨by decide +kernel, by decide +kernel, by decide +kernel⟩, by decide⟩
theorem mv_X6_55 : kMV RX6 55 1 mX6_changeLength := ⟨mb_X6_55, gT_of (tb_2 (List.mem_of_getElem? (i := 121) rfl)) rfl, List.mem_filter.mpr ⟨List.mem_append_left _ (List.mem_of_getElem? (i := 0) rfl), rfl⟩⟩
theorem mb_X6_59 : kMB RX6 59 3 mX6_within := ⟨gT_of (tb_2 (List.mem_of_getElem? (i := 123) rfl)) rfl, gT_of (tb_1 (List.mem_of_getElem? (i := 1) rfl)) rfl, gT_of (tb_2 (List.mem_of_getElem? (i := 125) rfl)) rfl, ⟨by decide +kernel, by decide +kernel, by decide +kernel⟩, by decide⟩
theorem ms_X6_59 : kMS RX6 59 3 mX6_within := ⟨mb_X6_59, gT_of (tb_2 (List.mem_of_getElem? (i := 124) rfl)) rfl⟩
theorem mb_L_18 : kMB RL 18 3 mX6_car := ⟨gT_of (tb_2 (List.mem_of_getElem? (i := 126) rfl)) rfl, gT_of (tb_1 (List.mem_of_getElem? (i := 1) rfl)) rfl, gT_of (tb_2 (List.mem_of_getElem? (i := 129) rfl)) rfl, ⟨by decide +kernel, by decide +kernel, by decide +kernel⟩, by decide⟩
theorem mv_L_18 : kMV RL 18 3 mX6_car := ⟨mb_L_18, gT_of (tb_2 (List.mem_of_getElem? (i := 127) rfl)) rfl, gT_of (tb_2 (List.mem_of_getElem? (i := 128) rfl)) rfl⟩
theorem mb_X6_79 : kMB RX6 79 1 mX6_isCell := ⟨gT_of (tb_2 (List.mem_of_getElem? (i := 130) rfl)) rfl, gT_of (tb_1 (List.mem_of_getElem? (i := 1) rfl)) rfl, gT_of (tb_2 (List.mem_of_getElem? (i := 133) rfl)) rfl, ⟨by decide +kernel, by decide +kernel, by decide +kernel⟩, by decide⟩
theorem mv_X6_79 : kMV RX6 79 1 mX6_isCell := ⟨mb_X6_79, gT_of (tb_2 (List.mem_of_getElem? (i := 132) rfl)) rfl, List.mem_filter.mpr ⟨List.mem_append_left _ (List.mem_of_getElem? (i := 1) rfl), rfl⟩⟩
theorem mb_X6_83 : kMB RX6 83 1 mX6_isPace := ⟨gT_of (tb_2 (List.mem_of_getElem? (i := 134) rfl)) rfl, gT_of (tb_1 (List.mem_of_getElem? (i := 1) rfl)) rfl, gT_of (tb_2 (List.mem_of_getElem? (i := 136) rfl)) rfl, ⟨by decide +kernel, by decide +kernel, by decide +kernel⟩, by decide⟩
theorem ms_X6_83 : kMS RX6 83 1 mX6_isPace := ⟨mb_X6_83, gT_of (tb_2 (List.mem_of_getElem? (i := 135) rfl)) rfl⟩
theorem mb_X6_86 : kMB RX6 86 2 mX4_isTaken := ⟨gT_of (tb_2 (List.mem_of_getElem? (i := 137) rfl)) rfl, gT_of (tb_1 (List.mem_of_getElem? (i := 8) rfl)) rfl, gT_of (tb_2 (List.mem_of_getElem? (i := 140) rfl)) rfl, ⟨by decide +kernel, by decide +kernel, by decide +kernel⟩, by decide⟩
theorem mv_X6_86 : kMV RX6 86 2 mX4_isTaken := ⟨mb_X6_86, gT_of (tb_2 (List.mem_of_getElem? (i := 138) rfl)) rfl, gT_of (tb_2 (List.mem_of_getElem? (i := 139) rfl)) rfl⟩
theorem mb_X6_90 : kMB RX6 90 3 mX4_addCar := ⟨gT_of (tb_2 (List.mem_of_getElem? (i := 141) rfl)) rfl, gT_of (tb_1 (List.mem_of_getElem? (i := 8) rfl)) rfl, gT_of (tb_2 (List.mem_of_getElem? (i := 144) rfl)) rfl, ⟨by decide +kernel, by decide +kernel, by decide +kernel⟩, by decide⟩
theorem mv_X6_90 : kMV RX6 90 3 mX4_addCar := ⟨mb_X6_90, gT_of (tb_2 (List.mem_of_getElem? (i := 142) rfl)) rfl, gT_of (tb_2 (List.mem_of_getElem? (i := 143) rfl)) rfl⟩
theorem mb_X4_73 : kMB RX4 73 3 mX0_begin := ⟨gT_of (tb_2 (List.mem_of_getElem? (i := 145) rfl)) rfl, gT_of (tb_1 (List.mem_of_getElem? (i := 9) rfl)) rfl, gT_of (tb_2 (List.mem_of_getElem? (i := 148) rfl)) rfl, ⟨by decide +kernel, by decide +kernel, by decide +kernel⟩, by decide⟩
theorem mv_X4_73 : kMV RX4 73 3 mX0_begin := ⟨mb_X4_73, gT_of (tb_2 (List.mem_of_getElem? (i := 146) rfl)) rfl, gT_of (tb_2 (List.mem_of_getElem? (i := 147) rfl)) rfl⟩
theorem mb_L_23 : kMB RL 23 2 mX6_evenly := ⟨gT_of (tb_2 (List.mem_of_getElem? (i := 149) rfl)) rfl, gT_of (tb_1 (List.mem_of_getElem? (i := 1) rfl)) rfl, gT_of (tb_2 (List.mem_of_getElem? (i := 152) rfl)) rfl, ⟨by decide +kernel, by decide +kernel, by decide +kernel⟩, by decide⟩
theorem mv_L_23 : kMV RL 23 2 mX6_evenly := ⟨mb_L_23, gT_of (tb_2 (List.mem_of_getElem? (i := 150) rfl)) rfl, gT_of (tb_2 (List.mem_of_getElem? (i := 151) rfl)) rfl⟩
theorem mb_L_27 : kMB RL 27 3 mX6_set := ⟨gT_of (tb_2 (List.mem_of_getElem? (i := 153) rfl)) rfl, gT_of (tb_1 (List.mem_of_getElem? (i := 1) rfl)) rfl, gT_of (tb_2 (List.mem_of_getElem? (i := 156) rfl)) rfl, ⟨by decide +kernel, by decide +kernel, by decide +kernel⟩, by decide⟩
theorem mv_L_27 : kMV RL 27 3 mX6_set := ⟨mb_L_27, gT_of (tb_2 (List.mem_of_getElem? (i := 154) rfl)) rfl, gT_of (tb_2 (List.mem_of_getElem? (i := 155) rfl)) rfl⟩
theorem mb_X6_97 : kMB RX6 97 1 mX6_isCar := ⟨gT_of (tb_2 (List.mem_of_getElem? (i := 157) rfl)) rfl, gT_of (tb_1 (List.mem_of_getElem? (i := 1) rfl)) rfl, gT_of (tb_2 (List.mem_of_getElem? (i := 160) rfl)) rfl, ⟨by decide +kernel, by decide +kernel, by decide +kernel⟩, by decide⟩
theorem mv_X6_97 : kMV RX6 97 1 mX6_isCar := ⟨mb_X6_97, gT_of (tb_2 (List.mem_of_getElem? (i := 159) rfl)) rfl, List.mem_filter.mpr ⟨List.mem_append_left _ (List.mem_of_getElem? (i := 2) rfl), rfl⟩⟩
theorem mb_L_31 : kMB RL 31 2 mX6_told := ⟨gT_of (tb_2 (List.mem_of_getElem? (i := 161) rfl)) rfl, gT_of (tb_1 (List.mem_of_getElem? (i := 1) rfl)) rfl, gT_of (tb_2 (List.mem_of_getElem? (i := 164) rfl)) rfl, ⟨by decide +kernel, by decide +kernel, by decide +kernel⟩, by decide⟩
theorem mv_L_31 : kMV RL 31 2 mX6_told := ⟨mb_L_31, gT_of (tb_2 (List.mem_of_getElem? (i := 162) rfl)) rfl, gT_of (tb_2 (List.mem_of_getElem? (i := 163) rfl)) rfl⟩
theorem mb_X6_112 : kMB RX6 112 1 mX4_lookFrom := ⟨gT_of (tb_2 (List.mem_of_getElem? (i := 165) rfl)) rfl, gT_of (tb_1 (List.mem_of_getElem? (i := 8) rfl)) rfl, gT_of (tb_2 (List.mem_of_getElem? (i := 168) rfl)) rfl, ⟨by decide +kernel, by decide +kernel, by decide +kernel⟩, by decide⟩
theorem mv_X6_112 : kMV RX6 112 1 mX4_lookFrom := ⟨mb_X6_112, gT_of (tb_2 (List.mem_of_getElem? (i := 166) rfl)) rfl, gT_of (tb_2 (List.mem_of_getElem? (i := 167) rfl)) rfl⟩
theorem mb_X4_93 : kMB RX4 93 2 mX4_cellsOn := ⟨gT_of (tb_2 (List.mem_of_getElem? (i := 169) rfl)) rfl, gT_of (tb_1 (List.mem_of_getElem? (i := 8) rfl)) rfl, gT_of (tb_2 (List.mem_of_getElem? (i := 172) rfl)) rfl, ⟨by decide +kernel, by decide +kernel, by decide +kernel⟩, by decide⟩
theorem mv_X4_93 : kMV RX4 93 2 mX4_cellsOn := ⟨mb_X4_93, gT_of (tb_2 (List.mem_of_getElem? (i := 171) rfl)) rfl, List.mem_filter.mpr ⟨List.mem_append_left _ (List.mem_of_getElem? (i := 3) rfl), rfl⟩⟩
theorem mb_L_37 : kMB RL 37 2 mX6_type := ⟨gT_of (tb_2 (List.mem_of_getElem? (i := 173) rfl)) rfl, gT_of (tb_1 (List.mem_of_getElem? (i := 1) rfl)) rfl, gT_of (tb_2 (List.mem_of_getElem? (i := 176) rfl)) rfl, ⟨by decide +kernel, by decide +kernel, by decide +kernel⟩, by decide⟩
theorem mv_L_37 : kMV RL 37 2 mX6_type := ⟨mb_L_37, gT_of (tb_2 (List.mem_of_getElem? (i := 174) rfl)) rfl, gT_of (tb_2 (List.mem_of_getElem? (i := 175) rfl)) rfl⟩
theorem mb_X6_140 : kMB RX6 140 2 mX6_byteOf := ⟨gT_of (tb_2 (List.mem_of_getElem? (i := 177) rfl)) rfl, gT_of (tb_1 (List.mem_of_getElem? (i := 1) rfl)) rfl, gT_of (tb_2 (List.mem_of_getElem? (i := 179) rfl)) rfl, ⟨by decide +kernel, by decide +kernel, by decide +kernel⟩, by decide⟩
theorem ms_X6_140 : kMS RX6 140 2 mX6_byteOf := ⟨mb_X6_140, gT_of (tb_2 (List.mem_of_getElem? (i := 178) rfl)) rfl⟩
theorem mb_X6_147 : kMB RX6 147 1 mX3_append := ⟨gT_of (tb_2 (List.mem_of_getElem? (i := 180) rfl)) rfl, gT_of (tb_1 (List.mem_of_getElem? (i := 2) rfl)) rfl, gT_of (tb_2 (List.mem_of_getElem? (i := 183) rfl)) rfl, ⟨by decide +kernel, by decide +kernel, by decide +kernel⟩, by decide⟩
theorem mv_X6_147 : kMV RX6 147 1 mX3_append := ⟨mb_X6_147, gT_of (tb_2 (List.mem_of_getElem? (i := 181) rfl)) rfl, gT_of (tb_2 (List.mem_of_getElem? (i := 182) rfl)) rfl⟩
theorem mb_L_42 : kMB RL 42 1 mX6_habit := ⟨gT_of (tb_2 (List.mem_of_getElem? (i := 184) rfl)) rfl, gT_of (tb_1 (List.mem_of_getElem? (i := 1) rfl)) rfl, gT_of (tb_2 (List.mem_of_getElem? (i := 187) rfl)) rfl, ⟨by decide +kernel, by decide +kernel, by decide +kernel⟩, by decide⟩
theorem mv_L_42 : kMV RL 42 1 mX6_habit := ⟨mb_L_42, gT_of (tb_2 (List.mem_of_getElem? (i := 185) rfl)) rfl, gT_of (tb_2 (List.mem_of_getElem? (i := 186) rfl)) rfl⟩
theorem mb_X6_150 : kMB RX6 150 0 mX3_readHabit := ⟨gT_of (tb_2 (List.mem_of_getElem? (i := 188) rfl)) rfl, gT_of (tb_1 (List.mem_of_getElem? (i := 2) rfl)) rfl, gT_of (tb_2 (List.mem_of_getElem? (i := 191) rfl)) rfl, ⟨by decide +kernel, by decide +kernel, by decide +kernel⟩, by decide⟩
theorem mv_X6_150 : kMV RX6 150 0 mX3_readHabit := ⟨mb_X6_150, gT_of (tb_2 (List.mem_of_getElem? (i := 189) rfl)) rfl, gT_of (tb_2 (List.mem_of_getElem? (i := 190) rfl)) rfl⟩
theorem mb_X3_61 : kMB RX3 61 0 mX3_newLabel := ⟨gT_of (tb_2 (List.mem_of_getElem? (i := 192) rfl)) rfl, gT_of (tb_1 (List.mem_of_getElem? (i := 2) rfl)) rfl, gT_of (tb_2 (List.mem_of_getElem? (i := 195) rfl)) rfl, ⟨by decide +kernel, by decide +kernel, by decide +kernel⟩, by decide⟩
theorem mv_X3_61 : kMV RX3 61 0 mX3_newLabel := ⟨mb_X3_61, gT_of (tb_2 (List.mem_of_getElem? (i := 194) rfl)) rfl, List.mem_filter.mpr ⟨List.mem_append_left _ (List.mem_of_getElem? (i := 4) rfl), rfl⟩⟩
theorem mb_X3_112 : kMB RX3 112 2 mJ9_min_7cf53 := ⟨gT_of (tb_2 (List.mem_of_getElem? (i := 196) rfl)) rfl, gT_of (tb_1 (List.mem_of_getElem? (i := 6) rfl)) rfl, gT_of (tb_1 (List.mem_of_getElem? (i := 134) rfl)) rfl, ⟨by decide +kernel, by decide +kernel, by decide +kernel⟩, by decide⟩
theorem ms_X3_112 : kMS RX3 112 2 mJ9_min_7cf53 := ⟨mb_X3_112, gT_of (tb_1 (List.mem_of_getElem? (i := 133) rfl)) rfl⟩
theorem mb_X3_65 : kMB RX3 65 3 mX3_readTest := ⟨gT_of (tb_2 (List.mem_of_getElem? (i := 197) rfl)) rfl, gT_of (tb_1 (List.mem_of_getElem? (i := 2) rfl)) rfl, gT_of (tb_2 (List.mem_of_getElem? (i := 200) rfl)) rfl, ⟨by decide +kernel, by decide +kernel, by decide +kernel⟩, by decide⟩
theorem mv_X3_65 : kMV RX3 65 3 mX3_readTest := ⟨mb_X3_65, gT_of (tb_2 (List.mem_of_getElem? (i := 199) rfl)) rfl, List.mem_filter.mpr ⟨List.mem_append_left _ (List.mem_of_getElem? (i := 5) rfl), rfl⟩⟩
theorem mb_X3_93 : kMB RX3 93 3 mX3_readCase := ⟨gT_of (tb_2 (List.mem_of_getElem? (i := 201) rfl)) rfl, gT_of (tb_1 (List.mem_of_getElem? (i := 2) rfl)) rfl, gT_of (tb_2 (List.mem_of_getElem? (i := 204) rfl)) rfl, ⟨by decide +kernel, by decide +kernel, by decide +kernel⟩, by decide⟩
theorem mv_X3_93 : kMV RX3 93 3 mX3_readCase := ⟨mb_X3_93, gT_of (tb_2 (List.mem_of_getElem? (i := 203) rfl)) rfl, List.mem_filter.mpr ⟨List.mem_append_left _ (List.mem_of_getElem? (i := 6) rfl), rfl⟩⟩
theorem mb_X3_69 : kMB RX3 69 1 mX3_take := ⟨gT_of (tb_2 (List.mem_of_getElem? (i := 205) rfl)) rfl, gT_of (tb_1 (List.mem_of_getElem? (i := 2) rfl)) rfl, gT_of (tb_2 (List.mem_of_getElem? (i := 208) rfl)) rfl, ⟨by decide +kernel, by decide +kernel, by decide +kernel⟩, by decide⟩
theorem mv_X3_69 : kMV RX3 69 1 mX3_take := ⟨mb_X3_69, gT_of (tb_2 (List.mem_of_getElem? (i := 207) rfl)) rfl, List.mem_filter.mpr ⟨List.mem_append_left _ (List.mem_of_getElem? (i := 7) rfl), rfl⟩⟩
theorem mb_X3_81 : kMB RX3 81 0 mX3_next := ⟨gT_of (tb_2 (List.mem_of_getElem? (i := 209) rfl)) rfl, gT_of (tb_1 (List.mem_of_getElem? (i := 2) rfl)) rfl, gT_of (tb_2 (List.mem_of_getElem? (i := 212) rfl)) rfl, ⟨by decide +kernel, by decide +kernel, by decide +kernel⟩, by decide⟩
theorem mv_X3_81 : kMV RX3 81 0 mX3_next := ⟨mb_X3_81, gT_of (tb_2 (List.mem_of_getElem? (i := 211) rfl)) rfl, List.mem_filter.mpr ⟨List.mem_append_left _ (List.mem_of_getElem? (i := 8) rfl), rfl⟩⟩
theorem mb_X3_99 : kMB RX3 99 3 mX3_readBare := ⟨gT_of (tb_2 (List.mem_of_getElem? (i := 213) rfl)) rfl, gT_of (tb_1 (List.mem_of_getElem? (i := 2) rfl)) rfl, gT_of (tb_2 (List.mem_of_getElem? (i := 216) rfl)) rfl, ⟨by decide +kernel, by decide +kernel, by decide +kernel⟩, by decide⟩
theorem mv_X3_99 : kMV RX3 99 3 mX3_readBare := ⟨mb_X3_99, gT_of (tb_2 (List.mem_of_getElem? (i := 215) rfl)) rfl, List.mem_filter.mpr ⟨List.mem_append_left _ (List.mem_of_getElem? (i := 9) rfl), rfl⟩⟩
theorem mb_X3_102 : kMB RX3 102 3 mX3_addClaim := ⟨gT_of (tb_2 (List.mem_of_getElem? (i := 217) rfl)) rfl, gT_of (tb_1 (List.mem_of_getElem? (i := 2) rfl)) rfl, gT_of (tb_2 (List.mem_of_getElem? (i := 220) rfl)) rfl, ⟨by decide +kernel, by decide +kernel, by decide +kernel⟩, by decide⟩
theorem mv_X3_102 : kMV RX3 102 3 mX3_addClaim := ⟨mb_X3_102, gT_of (tb_2 (List.mem_of_getElem? (i := 219) rfl)) rfl, List.mem_filter.mpr ⟨List.mem_append_left _ (List.mem_of_getElem? (i := 10) rfl), rfl⟩⟩
theorem mb_X3_106 : kMB RX3 106 0 mX3_readComparison := ⟨gT_of (tb_2 (List.mem_of_getElem? (i := 221) rfl)) rfl, gT_of (tb_1 (List.mem_of_getElem? (i := 2) rfl)) rfl, gT_of (tb_2 (List.mem_of_getElem? (i := 224) rfl)) rfl, ⟨by decide +kernel, by decide +kernel, by decide +kernel⟩, by decide⟩
theorem mv_X3_106 : kMV RX3 106 0 mX3_readComparison := ⟨mb_X3_106, gT_of (tb_2 (List.mem_of_getElem? (i := 223) rfl)) rfl, List.mem_filter.mpr ⟨List.mem_append_left _ (List.mem_of_getElem? (i := 11) rfl), rfl⟩⟩
theorem mb_X3_90 : kMB RX3 90 1 mX3_isDigit := ⟨gT_of (tb_2 (List.mem_of_getElem? (i := 225) rfl)) rfl, gT_of (tb_1 (List.mem_of_getElem? (i := 2) rfl)) rfl, gT_of (tb_2 (List.mem_of_getElem? (i := 227) rfl)) rfl, ⟨by decide +kernel, by decide +kernel, by decide +kernel⟩, by decide⟩
theorem ms_X3_90 : kMS RX3 90 1 mX3_isDigit := ⟨mb_X3_90, gT_of (tb_2 (List.mem_of_getElem? (i := 226) rfl)) rfl⟩
theorem mb_X3_109 : kMB RX3 109 0 mX3_readNumber := ⟨gT_of (tb_2 (List.mem_of_getElem? (i := 228) rfl)) rfl, gT_of (tb_1 (List.mem_of_getElem? (i := 2) rfl)) rfl, gT_of (tb_2 (List.mem_of_getElem? (i := 231) rfl)) rfl, ⟨by decide +kernel, by decide +kernel, by decide +kernel⟩, by decide⟩
theorem mv_X3_109 : kMV RX3 109 0 mX3_readNumber := ⟨mb_X3_109, gT_of (tb_2 (List.mem_of_getElem? (i := 230) rfl)) rfl, List.mem_filter.mpr ⟨List.mem_append_left _ (List.mem_of_getElem? (i := 12) rfl), rfl⟩⟩
theorem mb_X3_96 : kMB RX3 96 2 mX3_join := ⟨gT_of (tb_2 (List.mem_of_getElem? (i := 232) rfl)) rfl, gT_of (tb_1 (List.mem_of_getElem? (i := 2) rfl)) rfl, gT_of (tb_2 (List.mem_of_getElem? (i := 235) rfl)) rfl, ⟨by decide +kernel, by decide +kernel, by decide +kernel⟩, by decide⟩
theorem mv_X3_96 : kMV RX3 96 2 mX3_join := ⟨mb_X3_96, gT_of (tb_2 (List.mem_of_getElem? (i := 234) rfl)) rfl, List.mem_filter.mpr ⟨List.mem_append_left _ (List.mem_of_getElem? (i := 13) rfl), rfl⟩⟩
theorem mb_X3_87 : kMB RX3 87 2 mX3_fix := ⟨gT_of (tb_2 (List.mem_of_getElem? (i := 236) rfl)) rfl, gT_of (tb_1 (List.mem_of_getElem? (i := 2) rfl)) rfl, gT_of (tb_2 (List.mem_of_getElem? (i := 239) rfl)) rfl, ⟨by decide +kernel, by decide +kernel, by decide +kernel⟩, by decide⟩
theorem mv_X3_87 : kMV RX3 87 2 mX3_fix := ⟨mb_X3_87, gT_of (tb_2 (List.mem_of_getElem? (i := 238) rfl)) rfl, List.mem_filter.mpr ⟨List.mem_append_left _ (List.mem_of_getElem? (i := 14) rfl), rfl⟩⟩
theorem mb_X3_73 : kMB RX3 73 0 mX3_readAct := ⟨gT_of (tb_3 (List.mem_of_getElem? (i := 0) rfl)) rfl, gT_of (tb_1 (List.mem_of_getElem? (i := 2) rfl)) rfl, gT_of (tb_3 (List.mem_of_getElem? (i := 3) rfl)) rfl, ⟨by decide +kernel, by decide +kernel, by decide +kernel⟩, by decide⟩
theorem mv_X3_73 : kMV RX3 73 0 mX3_readAct := ⟨mb_X3_73, gT_of (tb_3 (List.mem_of_getElem? (i := 2) rfl)) rfl, List.mem_filter.mpr ⟨List.mem_append_left _ (List.mem_of_getElem? (i := 15) rfl), rfl⟩⟩
theorem mb_X3_77 : kMB RX3 77 2 mX3_endClause := ⟨gT_of (tb_3 (List.mem_of_getElem? (i := 4) rfl)) rfl, gT_of (tb_1 (List.mem_of_getElem? (i := 2) rfl)) rfl, gT_of (tb_3 (List.mem_of_getElem? (i := 7) rfl)) rfl, ⟨by decide +kernel, by decide +kernel, by decide +kernel⟩, by decide⟩
theorem mv_X3_77 : kMV RX3 77 2 mX3_endClause := ⟨mb_X3_77, gT_of (tb_3 (List.mem_of_getElem? (i := 6) rfl)) rfl, List.mem_filter.mpr ⟨List.mem_append_left _ (List.mem_of_getElem? (i := 16) rfl), rfl⟩⟩
theorem mb_X3_84 : kMB RX3 84 0 mX3_followLabels := ⟨gT_of (tb_3 (List.mem_of_getElem? (i := 8) rfl)) rfl, gT_of (tb_1 (List.mem_of_getElem? (i := 2) rfl)) rfl, gT_of (tb_3 (List.mem_of_getElem? (i := 11) rfl)) rfl, ⟨by decide +kernel, by decide +kernel, by decide +kernel⟩, by decide⟩
theorem mv_X3_84 : kMV RX3 84 0 mX3_followLabels := ⟨mb_X3_84, gT_of (tb_3 (List.mem_of_getElem? (i := 10) rfl)) rfl, List.mem_filter.mpr ⟨List.mem_append_left _ (List.mem_of_getElem? (i := 17) rfl), rfl⟩⟩
theorem mb_X3_118 : kMB RX3 118 1 mX3_follow := ⟨gT_of (tb_3 (List.mem_of_getElem? (i := 12) rfl)) rfl, gT_of (tb_1 (List.mem_of_getElem? (i := 2) rfl)) rfl, gT_of (tb_3 (List.mem_of_getElem? (i := 15) rfl)) rfl, ⟨by decide +kernel, by decide +kernel, by decide +kernel⟩, by decide⟩
theorem mv_X3_118 : kMV RX3 118 1 mX3_follow := ⟨mb_X3_118, gT_of (tb_3 (List.mem_of_getElem? (i := 14) rfl)) rfl, List.mem_filter.mpr ⟨List.mem_append_left _ (List.mem_of_getElem? (i := 18) rfl), rfl⟩⟩
theorem mb_L_47 : kMB RL 47 1 mX6_holds := ⟨gT_of (tb_3 (List.mem_of_getElem? (i := 16) rfl)) rfl, gT_of (tb_1 (List.mem_of_getElem? (i := 1) rfl)) rfl, gT_of (tb_3 (List.mem_of_getElem? (i := 19) rfl)) rfl, ⟨by decide +kernel, by decide +kernel, by decide +kernel⟩, by decide⟩
theorem mv_L_47 : kMV RL 47 1 mX6_holds := ⟨mb_L_47, gT_of (tb_3 (List.mem_of_getElem? (i := 17) rfl)) rfl, gT_of (tb_3 (List.mem_of_getElem? (i := 18) rfl)) rfl⟩
theorem mb_X6_167 : kMB RX6 167 4 mX1_clauseFor := ⟨gT_of (tb_3 (List.mem_of_getElem? (i := 20) rfl)) rfl, gT_of (tb_1 (List.mem_of_getElem? (i := 4) rfl)) rfl, gT_of (tb_3 (List.mem_of_getElem? (i := 23) rfl)) rfl, ⟨by decide +kernel, by decide +kernel, by decide +kernel⟩, by decide⟩
theorem mv_X6_167 : kMV RX6 167 4 mX1_clauseFor := ⟨mb_X6_167, gT_of (tb_3 (List.mem_of_getElem? (i := 21) rfl)) rfl, gT_of (tb_3 (List.mem_of_getElem? (i := 22) rfl)) rfl⟩
theorem mb_X1_60 : kMB RX1 60 3 mX1_isSo := ⟨gT_of (tb_3 (List.mem_of_getElem? (i := 24) rfl)) rfl, gT_of (tb_1 (List.mem_of_getElem? (i := 4) rfl)) rfl, gT_of (tb_3 (List.mem_of_getElem? (i := 26) rfl)) rfl, ⟨by decide +kernel, by decide +kernel, by decide +kernel⟩, by decide⟩
theorem ms_X1_60 : kMS RX1 60 3 mX1_isSo := ⟨mb_X1_60, gT_of (tb_3 (List.mem_of_getElem? (i := 25) rfl)) rfl⟩
theorem mb_L_51 : kMB RL 51 3 mX6_board := ⟨gT_of (tb_3 (List.mem_of_getElem? (i := 27) rfl)) rfl, gT_of (tb_1 (List.mem_of_getElem? (i := 1) rfl)) rfl, gT_of (tb_3 (List.mem_of_getElem? (i := 30) rfl)) rfl, ⟨by decide +kernel, by decide +kernel, by decide +kernel⟩, by decide⟩
theorem mv_L_51 : kMV RL 51 3 mX6_board := ⟨mb_L_51, gT_of (tb_3 (List.mem_of_getElem? (i := 28) rfl)) rfl, gT_of (tb_3 (List.mem_of_getElem? (i := 29) rfl)) rfl⟩
theorem mb_X6_171 : kMB RX6 171 3 mX4_addBoard := ⟨gT_of (tb_3 (List.mem_of_getElem? (i := 31) rfl)) rfl, gT_of (tb_1 (List.mem_of_getElem? (i := 8) rfl)) rfl, gT_of (tb_3 (List.mem_of_getElem? (i := 34) rfl)) rfl, ⟨by decide +kernel, by decide +kernel, by decide +kernel⟩, by decide⟩
theorem mv_X6_171 : kMV RX6 171 3 mX4_addBoard := ⟨mb_X6_171, gT_of (tb_3 (List.mem_of_getElem? (i := 32) rfl)) rfl, gT_of (tb_3 (List.mem_of_getElem? (i := 33) rfl)) rfl⟩
theorem mb_L_55 : kMB RL 55 1 mX6_loop := ⟨gT_of (tb_3 (List.mem_of_getElem? (i := 35) rfl)) rfl, gT_of (tb_1 (List.mem_of_getElem? (i := 1) rfl)) rfl, gT_of (tb_3 (List.mem_of_getElem? (i := 38) rfl)) rfl, ⟨by decide +kernel, by decide +kernel, by decide +kernel⟩, by decide⟩
theorem mv_L_55 : kMV RL 55 1 mX6_loop := ⟨mb_L_55, gT_of (tb_3 (List.mem_of_getElem? (i := 36) rfl)) rfl, gT_of (tb_3 (List.mem_of_getElem? (i := 37) rfl)) rfl⟩
theorem mb_X6_174 : kMB RX6 174 1 mX4_addLoop := ⟨gT_of (tb_3 (List.mem_of_getElem? (i := 39) rfl)) rfl, gT_of (tb_1 (List.mem_of_getElem? (i := 8) rfl)) rfl, gT_of (tb_3 (List.mem_of_getElem? (i := 42) rfl)) rfl, ⟨by decide +kernel, by decide +kernel, by decide +kernel⟩, by decide⟩
theorem mv_X6_174 : kMV RX6 174 1 mX4_addLoop := ⟨mb_X6_174, gT_of (tb_3 (List.mem_of_getElem? (i := 40) rfl)) rfl, gT_of (tb_3 (List.mem_of_getElem? (i := 41) rfl)) rfl⟩
theorem mb_L_59 : kMB RL 59 2 mX6_looped := ⟨gT_of (tb_3 (List.mem_of_getElem? (i := 43) rfl)) rfl, gT_of (tb_1 (List.mem_of_getElem? (i := 1) rfl)) rfl, gT_of (tb_3 (List.mem_of_getElem? (i := 46) rfl)) rfl, ⟨by decide +kernel, by decide +kernel, by decide +kernel⟩, by decide⟩
theorem mv_L_59 : kMV RL 59 2 mX6_looped := ⟨mb_L_59, gT_of (tb_3 (List.mem_of_getElem? (i := 44) rfl)) rfl, gT_of (tb_3 (List.mem_of_getElem? (i := 45) rfl)) rfl⟩
theorem mb_L_63 : kMB RL 63 1 mX6_tap := ⟨gT_of (tb_3 (List.mem_of_getElem? (i := 47) rfl)) rfl, gT_of (tb_1 (List.mem_of_getElem? (i := 1) rfl)) rfl, gT_of (tb_3 (List.mem_of_getElem? (i := 50) rfl)) rfl, ⟨by decide +kernel, by decide +kernel, by decide +kernel⟩, by decide⟩
theorem mv_L_63 : kMV RL 63 1 mX6_tap := ⟨mb_L_63, gT_of (tb_3 (List.mem_of_getElem? (i := 48) rfl)) rfl, gT_of (tb_3 (List.mem_of_getElem? (i := 49) rfl)) rfl⟩
theorem mb_L_67 : kMB RL 67 1 mX6_ticks := ⟨gT_of (tb_3 (List.mem_of_getElem? (i := 51) rfl)) rfl, gT_of (tb_1 (List.mem_of_getElem? (i := 1) rfl)) rfl, gT_of (tb_3 (List.mem_of_getElem? (i := 54) rfl)) rfl, ⟨by decide +kernel, by decide +kernel, by decide +kernel⟩, by decide⟩
theorem mv_L_67 : kMV RL 67 1 mX6_ticks := ⟨mb_L_67, gT_of (tb_3 (List.mem_of_getElem? (i := 52) rfl)) rfl, gT_of (tb_3 (List.mem_of_getElem? (i := 53) rfl)) rfl⟩
theorem mb_X6_192 : kMB RX6 192 1 mX4_run := ⟨gT_of (tb_3 (List.mem_of_getElem? (i := 56) rfl)) rfl, gT_of (tb_1 (List.mem_of_getElem? (i := 8) rfl)) rfl, gT_of (tb_3 (List.mem_of_getElem? (i := 59) rfl)) rfl, ⟨by decide +kernel, by decide +kernel, by decide +kernel⟩, by decide⟩
theorem mv_X6_192 : kMV RX6 192 1 mX4_run := ⟨mb_X6_192, gT_of (tb_3 (List.mem_of_getElem? (i := 57) rfl)) rfl, gT_of (tb_3 (List.mem_of_getElem? (i := 58) rfl)) rfl⟩
theorem mb_X4_113 : kMB RX4 113 0 mX4_tick := ⟨gT_of (tb_3 (List.mem_of_getElem? (i := 60) rfl)) rfl, gT_of (tb_1 (List.mem_of_getElem? (i := 8) rfl)) rfl, gT_of (tb_3 (List.mem_of_getElem? (i := 63) rfl)) rfl, ⟨by decide +kernel, by decide +kernel, by decide +kernel⟩, by decide⟩
theorem mv_X4_113 : kMV RX4 113 0 mX4_tick := ⟨mb_X4_113, gT_of (tb_3 (List.mem_of_getElem? (i := 61) rfl)) rfl, gT_of (tb_3 (List.mem_of_getElem? (i := 62) rfl)) rfl⟩
theorem mb_X4_116 : kMB RX4 116 0 mX4_lookFromAll := ⟨gT_of (tb_3 (List.mem_of_getElem? (i := 64) rfl)) rfl, gT_of (tb_1 (List.mem_of_getElem? (i := 8) rfl)) rfl, gT_of (tb_3 (List.mem_of_getElem? (i := 67) rfl)) rfl, ⟨by decide +kernel, by decide +kernel, by decide +kernel⟩, by decide⟩
theorem mv_X4_116 : kMV RX4 116 0 mX4_lookFromAll := ⟨mb_X4_116, gT_of (tb_3 (List.mem_of_getElem? (i := 65) rfl)) rfl, gT_of (tb_3 (List.mem_of_getElem? (i := 66) rfl)) rfl⟩
theorem mb_X4_109 : kMB RX4 109 1 mX4_lookFrom := ⟨gT_of (tb_3 (List.mem_of_getElem? (i := 68) rfl)) rfl, gT_of (tb_1 (List.mem_of_getElem? (i := 8) rfl)) rfl, gT_of (tb_2 (List.mem_of_getElem? (i := 168) rfl)) rfl, ⟨by decide +kernel, by decide +kernel, by decide +kernel⟩, by decide⟩
theorem mv_X4_109 : kMV RX4 109 1 mX4_lookFrom := ⟨mb_X4_109, gT_of (tb_2 (List.mem_of_getElem? (i := 166) rfl)) rfl, gT_of (tb_2 (List.mem_of_getElem? (i := 167) rfl)) rfl⟩
theorem mb_X4_119 : kMB RX4 119 0 mX0_note := ⟨gT_of (tb_3 (List.mem_of_getElem? (i := 69) rfl)) rfl, gT_of (tb_1 (List.mem_of_getElem? (i := 9) rfl)) rfl, gT_of (tb_3 (List.mem_of_getElem? (i := 72) rfl)) rfl, ⟨by decide +kernel, by decide +kernel, by decide +kernel⟩, by decide⟩
theorem mv_X4_119 : kMV RX4 119 0 mX0_note := ⟨mb_X4_119, gT_of (tb_3 (List.mem_of_getElem? (i := 70) rfl)) rfl, gT_of (tb_3 (List.mem_of_getElem? (i := 71) rfl)) rfl⟩
theorem mb_X0_48 : kMB RX0 48 1 mX0_placeOf := ⟨gT_of (tb_3 (List.mem_of_getElem? (i := 73) rfl)) rfl, gT_of (tb_1 (List.mem_of_getElem? (i := 9) rfl)) rfl, gT_of (tb_3 (List.mem_of_getElem? (i := 75) rfl)) rfl, ⟨by decide +kernel, by decide +kernel, by decide +kernel⟩, by decide⟩
theorem ms_X0_48 : kMS RX0 48 1 mX0_placeOf := ⟨mb_X0_48, gT_of (tb_3 (List.mem_of_getElem? (i := 74) rfl)) rfl⟩
theorem mb_X4_125 : kMB RX4 125 1 mX0_decide := ⟨gT_of (tb_3 (List.mem_of_getElem? (i := 76) rfl)) rfl, gT_of (tb_1 (List.mem_of_getElem? (i := 9) rfl)) rfl, gT_of (tb_3 (List.mem_of_getElem? (i := 79) rfl)) rfl, ⟨by decide +kernel, by decide +kernel, by decide +kernel⟩, by decide⟩
theorem mv_X4_125 : kMV RX4 125 1 mX0_decide := ⟨mb_X4_125, gT_of (tb_3 (List.mem_of_getElem? (i := 77) rfl)) rfl, gT_of (tb_3 (List.mem_of_getElem? (i := 78) rfl)) rfl⟩
theorem mb_X0_61 : kMB RX0 61 2 mJ9_max_7cf53 := ⟨gT_of (tb_3 (List.mem_of_getElem? (i := 80) rfl)) rfl, gT_of (tb_1 (List.mem_of_getElem? (i := 6) rfl)) rfl, gT_of (tb_3 (List.mem_of_getElem? (i := 82) rfl)) rfl, ⟨by decide +kernel, by decide +kernel, by decide +kernel⟩, by decide⟩
theorem ms_X0_61 : kMS RX0 61 2 mJ9_max_7cf53 := ⟨mb_X0_61, gT_of (tb_3 (List.mem_of_getElem? (i := 81) rfl)) rfl⟩
theorem mb_X0_67 : kMB RX0 67 4 mX1_clauseFor := ⟨gT_of (tb_3 (List.mem_of_getElem? (i := 83) rfl)) rfl, gT_of (tb_1 (List.mem_of_getElem? (i := 4) rfl)) rfl, gT_of (tb_3 (List.mem_of_getElem? (i := 23) rfl)) rfl, ⟨by decide +kernel, by decide +kernel, by decide +kernel⟩, by decide⟩
theorem mv_X0_67 : kMV RX0 67 4 mX1_clauseFor := ⟨mb_X0_67, gT_of (tb_3 (List.mem_of_getElem? (i := 21) rfl)) rfl, gT_of (tb_3 (List.mem_of_getElem? (i := 22) rfl)) rfl⟩
theorem mb_X0_73 : kMB RX0 73 2 mX1_paceBy := ⟨gT_of (tb_3 (List.mem_of_getElem? (i := 84) rfl)) rfl, gT_of (tb_1 (List.mem_of_getElem? (i := 4) rfl)) rfl, gT_of (tb_3 (List.mem_of_getElem? (i := 87) rfl)) rfl, ⟨by decide +kernel, by decide +kernel, by decide +kernel⟩, by decide⟩
theorem mv_X0_73 : kMV RX0 73 2 mX1_paceBy := ⟨mb_X0_73, gT_of (tb_3 (List.mem_of_getElem? (i := 85) rfl)) rfl, gT_of (tb_3 (List.mem_of_getElem? (i := 86) rfl)) rfl⟩
theorem mb_X0_79 : kMB RX0 79 1 mX1_changesBy := ⟨gT_of (tb_3 (List.mem_of_getElem? (i := 88) rfl)) rfl, gT_of (tb_1 (List.mem_of_getElem? (i := 4) rfl)) rfl, gT_of (tb_3 (List.mem_of_getElem? (i := 91) rfl)) rfl, ⟨by decide +kernel, by decide +kernel, by decide +kernel⟩, by decide⟩
theorem mv_X0_79 : kMV RX0 79 1 mX1_changesBy := ⟨mb_X0_79, gT_of (tb_3 (List.mem_of_getElem? (i := 89) rfl)) rfl, gT_of (tb_3 (List.mem_of_getElem? (i := 90) rfl)) rfl⟩
theorem mb_X4_129 : kMB RX4 129 0 mX4_changeLanes := ⟨gT_of (tb_3 (List.mem_of_getElem? (i := 92) rfl)) rfl, gT_of (tb_1 (List.mem_of_getElem? (i := 8) rfl)) rfl, gT_of (tb_3 (List.mem_of_getElem? (i := 95) rfl)) rfl, ⟨by decide +kernel, by decide +kernel, by decide +kernel⟩, by decide⟩
theorem mv_X4_129 : kMV RX4 129 0 mX4_changeLanes := ⟨mb_X4_129, gT_of (tb_3 (List.mem_of_getElem? (i := 94) rfl)) rfl, List.mem_filter.mpr ⟨List.mem_append_left _ (List.mem_of_getElem? (i := 19) rfl), rfl⟩⟩
theorem mb_X4_150 : kMB RX4 150 1 mX4_hasRoomBeside := ⟨gT_of (tb_3 (List.mem_of_getElem? (i := 96) rfl)) rfl, gT_of (tb_1 (List.mem_of_getElem? (i := 8) rfl)) rfl, gT_of (tb_3 (List.mem_of_getElem? (i := 99) rfl)) rfl, ⟨by decide +kernel, by decide +kernel, by decide +kernel⟩, by decide⟩
theorem mv_X4_150 : kMV RX4 150 1 mX4_hasRoomBeside := ⟨mb_X4_150, gT_of (tb_3 (List.mem_of_getElem? (i := 98) rfl)) rfl, List.mem_filter.mpr ⟨List.mem_append_left _ (List.mem_of_getElem? (i := 20) rfl), rfl⟩⟩
theorem mb_X4_133 : kMB RX4 133 1 mX4_limitAt := ⟨gT_of (tb_3 (List.mem_of_getElem? (i := 100) rfl)) rfl, gT_of (tb_1 (List.mem_of_getElem? (i := 8) rfl)) rfl, gT_of (tb_3 (List.mem_of_getElem? (i := 103) rfl)) rfl, ⟨by decide +kernel, by decide +kernel, by decide +kernel⟩, by decide⟩
theorem mv_X4_133 : kMV RX4 133 1 mX4_limitAt := ⟨mb_X4_133, gT_of (tb_3 (List.mem_of_getElem? (i := 102) rfl)) rfl, List.mem_filter.mpr ⟨List.mem_append_left _ (List.mem_of_getElem? (i := 21) rfl), rfl⟩⟩
theorem mb_X4_156 : kMB RX4 156 2 mJ9_min_7cf53 := ⟨gT_of (tb_3 (List.mem_of_getElem? (i := 104) rfl)) rfl, gT_of (tb_1 (List.mem_of_getElem? (i := 6) rfl)) rfl, gT_of (tb_1 (List.mem_of_getElem? (i := 134) rfl)) rfl, ⟨by decide +kernel, by decide +kernel, by decide +kernel⟩, by decide⟩
theorem ms_X4_156 : kMS RX4 156 2 mJ9_min_7cf53 := ⟨mb_X4_156, gT_of (tb_1 (List.mem_of_getElem? (i := 133) rfl)) rfl⟩
theorem mb_X4_137 : kMB RX4 137 1 mX0_settlePace := ⟨gT_of (tb_3 (List.mem_of_getElem? (i := 105) rfl)) rfl, gT_of (tb_1 (List.mem_of_getElem? (i := 9) rfl)) rfl, gT_of (tb_3 (List.mem_of_getElem? (i := 108) rfl)) rfl, ⟨by decide +kernel, by decide +kernel, by decide +kernel⟩, by decide⟩
theorem mv_X4_137 : kMV RX4 137 1 mX0_settlePace := ⟨mb_X4_137, gT_of (tb_3 (List.mem_of_getElem? (i := 106) rfl)) rfl, gT_of (tb_3 (List.mem_of_getElem? (i := 107) rfl)) rfl⟩
theorem mb_X0_86 : kMB RX0 86 2 mJ9_min_7cf53 := ⟨gT_of (tb_3 (List.mem_of_getElem? (i := 109) rfl)) rfl, gT_of (tb_1 (List.mem_of_getElem? (i := 6) rfl)) rfl, gT_of (tb_1 (List.mem_of_getElem? (i := 134) rfl)) rfl, ⟨by decide +kernel, by decide +kernel, by decide +kernel⟩, by decide⟩
theorem ms_X0_86 : kMS RX0 86 2 mJ9_min_7cf53 := ⟨mb_X0_86, gT_of (tb_1 (List.mem_of_getElem? (i := 133) rfl)) rfl⟩
theorem mb_X4_140 : kMB RX4 140 1 mX4_goOn := ⟨gT_of (tb_3 (List.mem_of_getElem? (i := 110) rfl)) rfl, gT_of (tb_1 (List.mem_of_getElem? (i := 8) rfl)) rfl, gT_of (tb_3 (List.mem_of_getElem? (i := 113) rfl)) rfl, ⟨by decide +kernel, by decide +kernel, by decide +kernel⟩, by decide⟩
theorem mv_X4_140 : kMV RX4 140 1 mX4_goOn := ⟨mb_X4_140, gT_of (tb_3 (List.mem_of_getElem? (i := 112) rfl)) rfl, List.mem_filter.mpr ⟨List.mem_append_left _ (List.mem_of_getElem? (i := 22) rfl), rfl⟩⟩
theorem mb_X4_143 : kMB RX4 143 0 mX4_markFirst := ⟨gT_of (tb_3 (List.mem_of_getElem? (i := 114) rfl)) rfl, gT_of (tb_1 (List.mem_of_getElem? (i := 8) rfl)) rfl, gT_of (tb_3 (List.mem_of_getElem? (i := 117) rfl)) rfl, ⟨by decide +kernel, by decide +kernel, by decide +kernel⟩, by decide⟩
theorem mv_X4_143 : kMV RX4 143 0 mX4_markFirst := ⟨mb_X4_143, gT_of (tb_3 (List.mem_of_getElem? (i := 116) rfl)) rfl, List.mem_filter.mpr ⟨List.mem_append_left _ (List.mem_of_getElem? (i := 23) rfl), rfl⟩⟩
theorem mb_X4_161 : kMB RX4 161 0 mX4_isEven := ⟨gT_of (tb_3 (List.mem_of_getElem? (i := 118) rfl)) rfl, gT_of (tb_1 (List.mem_of_getElem? (i := 8) rfl)) rfl, gT_of (tb_3 (List.mem_of_getElem? (i := 121) rfl)) rfl, ⟨by decide +kernel, by decide +kernel, by decide +kernel⟩, by decide⟩
theorem mv_X4_161 : kMV RX4 161 0 mX4_isEven := ⟨mb_X4_161, gT_of (tb_3 (List.mem_of_getElem? (i := 119) rfl)) rfl, gT_of (tb_3 (List.mem_of_getElem? (i := 120) rfl)) rfl⟩
theorem mb_L_71 : kMB RL 71 1 mX6_count := ⟨gT_of (tb_3 (List.mem_of_getElem? (i := 122) rfl)) rfl, gT_of (tb_1 (List.mem_of_getElem? (i := 1) rfl)) rfl, gT_of (tb_3 (List.mem_of_getElem? (i := 125) rfl)) rfl, ⟨by decide +kernel, by decide +kernel, by decide +kernel⟩, by decide⟩
theorem mv_L_71 : kMV RL 71 1 mX6_count := ⟨mb_L_71, gT_of (tb_3 (List.mem_of_getElem? (i := 123) rfl)) rfl, gT_of (tb_3 (List.mem_of_getElem? (i := 124) rfl)) rfl⟩
theorem mb_X6_196 : kMB RX6 196 1 mX2_findIn := ⟨gT_of (tb_3 (List.mem_of_getElem? (i := 126) rfl)) rfl, gT_of (tb_1 (List.mem_of_getElem? (i := 3) rfl)) rfl, gT_of (tb_3 (List.mem_of_getElem? (i := 129) rfl)) rfl, ⟨by decide +kernel, by decide +kernel, by decide +kernel⟩, by decide⟩
theorem mv_X6_196 : kMV RX6 196 1 mX2_findIn := ⟨mb_X6_196, gT_of (tb_3 (List.mem_of_getElem? (i := 127) rfl)) rfl, gT_of (tb_3 (List.mem_of_getElem? (i := 128) rfl)) rfl⟩
theorem mb_X2_25 : kMB RX2 25 0 mX4_lookFromAll := ⟨gT_of (tb_3 (List.mem_of_getElem? (i := 130) rfl)) rfl, gT_of (tb_1 (List.mem_of_getElem? (i := 8) rfl)) rfl, gT_of (tb_3 (List.mem_of_getElem? (i := 67) rfl)) rfl, ⟨by decide +kernel, by decide +kernel, by decide +kernel⟩, by decide⟩
theorem mv_X2_25 : kMV RX2 25 0 mX4_lookFromAll := ⟨mb_X2_25, gT_of (tb_3 (List.mem_of_getElem? (i := 65) rfl)) rfl, gT_of (tb_3 (List.mem_of_getElem? (i := 66) rfl)) rfl⟩
theorem mb_X2_42 : kMB RX2 42 2 mX2_isHead := ⟨gT_of (tb_3 (List.mem_of_getElem? (i := 131) rfl)) rfl, gT_of (tb_1 (List.mem_of_getElem? (i := 3) rfl)) rfl, gT_of (tb_3 (List.mem_of_getElem? (i := 134) rfl)) rfl, ⟨by decide +kernel, by decide +kernel, by decide +kernel⟩, by decide⟩
theorem mv_X2_42 : kMV RX2 42 2 mX2_isHead := ⟨mb_X2_42, gT_of (tb_3 (List.mem_of_getElem? (i := 133) rfl)) rfl, List.mem_filter.mpr ⟨List.mem_append_left _ (List.mem_of_getElem? (i := 24) rfl), rfl⟩⟩
theorem mb_X2_61 : kMB RX2 61 2 mX2_isLeastOfSlowLane := ⟨gT_of (tb_3 (List.mem_of_getElem? (i := 135) rfl)) rfl, gT_of (tb_1 (List.mem_of_getElem? (i := 3) rfl)) rfl, gT_of (tb_3 (List.mem_of_getElem? (i := 138) rfl)) rfl, ⟨by decide +kernel, by decide +kernel, by decide +kernel⟩, by decide⟩
theorem mv_X2_61 : kMV RX2 61 2 mX2_isLeastOfSlowLane := ⟨mb_X2_61, gT_of (tb_3 (List.mem_of_getElem? (i := 137) rfl)) rfl, List.mem_filter.mpr ⟨List.mem_append_left _ (List.mem_of_getElem? (i := 25) rfl), rfl⟩⟩
theorem mb_X2_46 : kMB RX2 46 2 mX2_sizeBehind := ⟨gT_of (tb_3 (List.mem_of_getElem? (i := 139) rfl)) rfl, gT_of (tb_1 (List.mem_of_getElem? (i := 3) rfl)) rfl, gT_of (tb_3 (List.mem_of_getElem? (i := 142) rfl)) rfl, ⟨by decide +kernel, by decide +kernel, by decide +kernel⟩, by decide⟩
theorem mv_X2_46 : kMV RX2 46 2 mX2_sizeBehind := ⟨mb_X2_46, gT_of (tb_3 (List.mem_of_getElem? (i := 141) rfl)) rfl, List.mem_filter.mpr ⟨List.mem_append_left _ (List.mem_of_getElem? (i := 26) rfl), rfl⟩⟩
theorem mb_X2_50 : kMB RX2 50 3 mX2_insert := ⟨gT_of (tb_3 (List.mem_of_getElem? (i := 143) rfl)) rfl, gT_of (tb_1 (List.mem_of_getElem? (i := 3) rfl)) rfl, gT_of (tb_3 (List.mem_of_getElem? (i := 146) rfl)) rfl, ⟨by decide +kernel, by decide +kernel, by decide +kernel⟩, by decide⟩
theorem mv_X2_50 : kMV RX2 50 3 mX2_insert := ⟨mb_X2_50, gT_of (tb_3 (List.mem_of_getElem? (i := 145) rfl)) rfl, List.mem_filter.mpr ⟨List.mem_append_left _ (List.mem_of_getElem? (i := 27) rfl), rfl⟩⟩
theorem mb_X2_67 : kMB RX2 67 2 mX2_comesAhead := ⟨gT_of (tb_3 (List.mem_of_getElem? (i := 147) rfl)) rfl, gT_of (tb_1 (List.mem_of_getElem? (i := 3) rfl)) rfl, gT_of (tb_3 (List.mem_of_getElem? (i := 149) rfl)) rfl, ⟨by decide +kernel, by decide +kernel, by decide +kernel⟩, by decide⟩
theorem ms_X2_67 : kMS RX2 67 2 mX2_comesAhead := ⟨mb_X2_67, gT_of (tb_3 (List.mem_of_getElem? (i := 148) rfl)) rfl⟩
theorem mb_X6_200 : kMB RX6 200 1 mX2_carsIn := ⟨gT_of (tb_3 (List.mem_of_getElem? (i := 150) rfl)) rfl, gT_of (tb_1 (List.mem_of_getElem? (i := 3) rfl)) rfl, gT_of (tb_3 (List.mem_of_getElem? (i := 153) rfl)) rfl, ⟨by decide +kernel, by decide +kernel, by decide +kernel⟩, by decide⟩
theorem mv_X6_200 : kMV RX6 200 1 mX2_carsIn := ⟨mb_X6_200, gT_of (tb_3 (List.mem_of_getElem? (i := 151) rfl)) rfl, gT_of (tb_3 (List.mem_of_getElem? (i := 152) rfl)) rfl⟩
theorem mb_X2_54 : kMB RX2 54 1 mX2_findIn := ⟨gT_of (tb_3 (List.mem_of_getElem? (i := 154) rfl)) rfl, gT_of (tb_1 (List.mem_of_getElem? (i := 3) rfl)) rfl, gT_of (tb_3 (List.mem_of_getElem? (i := 129) rfl)) rfl, ⟨by decide +kernel, by decide +kernel, by decide +kernel⟩, by decide⟩
theorem mv_X2_54 : kMV RX2 54 1 mX2_findIn := ⟨mb_X2_54, gT_of (tb_3 (List.mem_of_getElem? (i := 127) rfl)) rfl, gT_of (tb_3 (List.mem_of_getElem? (i := 128) rfl)) rfl⟩
theorem mb_X6_203 : kMB RX6 203 0 mX4_isEven := ⟨gT_of (tb_3 (List.mem_of_getElem? (i := 155) rfl)) rfl, gT_of (tb_1 (List.mem_of_getElem? (i := 8) rfl)) rfl, gT_of (tb_3 (List.mem_of_getElem? (i := 121) rfl)) rfl, ⟨by decide +kernel, by decide +kernel, by decide +kernel⟩, by decide⟩
theorem mv_X6_203 : kMV RX6 203 0 mX4_isEven := ⟨mb_X6_203, gT_of (tb_3 (List.mem_of_getElem? (i := 119) rfl)) rfl, gT_of (tb_3 (List.mem_of_getElem? (i := 120) rfl)) rfl⟩
theorem mb_L_75 : kMB RL 75 2 mX6_knot := ⟨gT_of (tb_3 (List.mem_of_getElem? (i := 156) rfl)) rfl, gT_of (tb_1 (List.mem_of_getElem? (i := 1) rfl)) rfl, gT_of (tb_3 (List.mem_of_getElem? (i := 159) rfl)) rfl, ⟨by decide +kernel, by decide +kernel, by decide +kernel⟩, by decide⟩
theorem mv_L_75 : kMV RL 75 2 mX6_knot := ⟨mb_L_75, gT_of (tb_3 (List.mem_of_getElem? (i := 157) rfl)) rfl, gT_of (tb_3 (List.mem_of_getElem? (i := 158) rfl)) rfl⟩
theorem mb_L_79 : kMB RL 79 0 mX6_first := ⟨gT_of (tb_3 (List.mem_of_getElem? (i := 160) rfl)) rfl, gT_of (tb_1 (List.mem_of_getElem? (i := 1) rfl)) rfl, gT_of (tb_3 (List.mem_of_getElem? (i := 163) rfl)) rfl, ⟨by decide +kernel, by decide +kernel, by decide +kernel⟩, by decide⟩
theorem mv_L_79 : kMV RL 79 0 mX6_first := ⟨mb_L_79, gT_of (tb_3 (List.mem_of_getElem? (i := 161) rfl)) rfl, gT_of (tb_3 (List.mem_of_getElem? (i := 162) rfl)) rfl⟩
theorem mb_L_84 : kMB RL 84 3 mX6_cost := ⟨gT_of (tb_3 (List.mem_of_getElem? (i := 164) rfl)) rfl, gT_of (tb_1 (List.mem_of_getElem? (i := 1) rfl)) rfl, gT_of (tb_3 (List.mem_of_getElem? (i := 167) rfl)) rfl, ⟨by decide +kernel, by decide +kernel, by decide +kernel⟩, by decide⟩
theorem mv_L_84 : kMV RL 84 3 mX6_cost := ⟨mb_L_84, gT_of (tb_3 (List.mem_of_getElem? (i := 165) rfl)) rfl, gT_of (tb_3 (List.mem_of_getElem? (i := 166) rfl)) rfl⟩
theorem mb_X6_212 : kMB RX6 212 3 mX6_foretell := ⟨gT_of (tb_3 (List.mem_of_getElem? (i := 169) rfl)) rfl, gT_of (tb_1 (List.mem_of_getElem? (i := 1) rfl)) rfl, gT_of (tb_3 (List.mem_of_getElem? (i := 172) rfl)) rfl, ⟨by decide +kernel, by decide +kernel, by decide +kernel⟩, by decide⟩
theorem mv_X6_212 : kMV RX6 212 3 mX6_foretell := ⟨mb_X6_212, gT_of (tb_3 (List.mem_of_getElem? (i := 171) rfl)) rfl, List.mem_filter.mpr ⟨List.mem_append_left _ (List.mem_of_getElem? (i := 28) rfl), rfl⟩⟩
theorem mb_X6_227 : kMB RX6 227 1 mX4_takeFrom := ⟨gT_of (tb_3 (List.mem_of_getElem? (i := 173) rfl)) rfl, gT_of (tb_1 (List.mem_of_getElem? (i := 8) rfl)) rfl, gT_of (tb_3 (List.mem_of_getElem? (i := 176) rfl)) rfl, ⟨by decide +kernel, by decide +kernel, by decide +kernel⟩, by decide⟩
theorem mv_X6_227 : kMV RX6 227 1 mX4_takeFrom := ⟨mb_X6_227, gT_of (tb_3 (List.mem_of_getElem? (i := 174) rfl)) rfl, gT_of (tb_3 (List.mem_of_getElem? (i := 175) rfl)) rfl⟩
theorem mb_X4_65 : kMB RX4 65 1 mX0_takeFrom := ⟨gT_of (tb_3 (List.mem_of_getElem? (i := 177) rfl)) rfl, gT_of (tb_1 (List.mem_of_getElem? (i := 9) rfl)) rfl, gT_of (tb_3 (List.mem_of_getElem? (i := 180) rfl)) rfl, ⟨by decide +kernel, by decide +kernel, by decide +kernel⟩, by decide⟩
theorem mv_X4_65 : kMV RX4 65 1 mX0_takeFrom := ⟨mb_X4_65, gT_of (tb_3 (List.mem_of_getElem? (i := 178) rfl)) rfl, gT_of (tb_3 (List.mem_of_getElem? (i := 179) rfl)) rfl⟩
theorem mb_X4_69 : kMB RX4 69 1 mX4_takeBoardsAndLoops := ⟨gT_of (tb_3 (List.mem_of_getElem? (i := 182) rfl)) rfl, gT_of (tb_1 (List.mem_of_getElem? (i := 8) rfl)) rfl, gT_of (tb_3 (List.mem_of_getElem? (i := 185) rfl)) rfl, ⟨by decide +kernel, by decide +kernel, by decide +kernel⟩, by decide⟩
theorem mv_X4_69 : kMV RX4 69 1 mX4_takeBoardsAndLoops := ⟨mb_X4_69, gT_of (tb_3 (List.mem_of_getElem? (i := 184) rfl)) rfl, List.mem_filter.mpr ⟨List.mem_append_left _ (List.mem_of_getElem? (i := 29) rfl), rfl⟩⟩
theorem mb_X6_216 : kMB RX6 216 1 mX4_cellsGone := ⟨gT_of (tb_3 (List.mem_of_getElem? (i := 186) rfl)) rfl, gT_of (tb_1 (List.mem_of_getElem? (i := 8) rfl)) rfl, gT_of (tb_3 (List.mem_of_getElem? (i := 189) rfl)) rfl, ⟨by decide +kernel, by decide +kernel, by decide +kernel⟩, by decide⟩
theorem mv_X6_216 : kMV RX6 216 1 mX4_cellsGone := ⟨mb_X6_216, gT_of (tb_3 (List.mem_of_getElem? (i := 187) rfl)) rfl, gT_of (tb_3 (List.mem_of_getElem? (i := 188) rfl)) rfl⟩
theorem mb_L_88 : kMB RL 88 2 mX6_after := ⟨gT_of (tb_3 (List.mem_of_getElem? (i := 190) rfl)) rfl, gT_of (tb_1 (List.mem_of_getElem? (i := 1) rfl)) rfl, gT_of (tb_3 (List.mem_of_getElem? (i := 193) rfl)) rfl, ⟨by decide +kernel, by decide +kernel, by decide +kernel⟩, by decide⟩
theorem mv_L_88 : kMV RL 88 2 mX6_after := ⟨mb_L_88, gT_of (tb_3 (List.mem_of_getElem? (i := 191) rfl)) rfl, gT_of (tb_3 (List.mem_of_getElem? (i := 192) rfl)) rfl⟩
theorem mb_L_92 : kMB RL 92 2 mX6_calmed := ⟨gT_of (tb_3 (List.mem_of_getElem? (i := 194) rfl)) rfl, gT_of (tb_1 (List.mem_of_getElem? (i := 1) rfl)) rfl, gT_of (tb_3 (List.mem_of_getElem? (i := 197) rfl)) rfl, ⟨by decide +kernel, by decide +kernel, by decide +kernel⟩, by decide⟩
theorem mv_L_92 : kMV RL 92 2 mX6_calmed := ⟨mb_L_92, gT_of (tb_3 (List.mem_of_getElem? (i := 195) rfl)) rfl, gT_of (tb_3 (List.mem_of_getElem? (i := 196) rfl)) rfl⟩
theorem mb_X6_219 : kMB RX6 219 1 mJ6_bitCount_0f7a4 := ⟨gT_of (tb_3 (List.mem_of_getElem? (i := 198) rfl)) rfl, gT_of (tb_1 (List.mem_of_getElem? (i := 12) rfl)) rfl, gT_of (tb_3 (List.mem_of_getElem? (i := 200) rfl)) rfl, ⟨by decide +kernel, by decide +kernel, by decide +kernel⟩, by decide⟩
theorem ms_X6_219 : kMS RX6 219 1 mJ6_bitCount_0f7a4 := ⟨mb_X6_219, gT_of (tb_3 (List.mem_of_getElem? (i := 199) rfl)) rfl⟩
theorem mb_X6_224 : kMB RX6 224 3 mX6_isCalmWith := ⟨gT_of (tb_3 (List.mem_of_getElem? (i := 204) rfl)) rfl, gT_of (tb_1 (List.mem_of_getElem? (i := 1) rfl)) rfl, gT_of (tb_3 (List.mem_of_getElem? (i := 207) rfl)) rfl, ⟨by decide +kernel, by decide +kernel, by decide +kernel⟩, by decide⟩
theorem mv_X6_224 : kMV RX6 224 3 mX6_isCalmWith := ⟨mb_X6_224, gT_of (tb_3 (List.mem_of_getElem? (i := 206) rfl)) rfl, List.mem_filter.mpr ⟨List.mem_append_left _ (List.mem_of_getElem? (i := 30) rfl), rfl⟩⟩
theorem mb_L_96 : kMB RL 96 1 mX6_round := ⟨gT_of (tb_3 (List.mem_of_getElem? (i := 208) rfl)) rfl, gT_of (tb_1 (List.mem_of_getElem? (i := 1) rfl)) rfl, gT_of (tb_3 (List.mem_of_getElem? (i := 211) rfl)) rfl, ⟨by decide +kernel, by decide +kernel, by decide +kernel⟩, by decide⟩
theorem mv_L_96 : kMV RL 96 1 mX6_round := ⟨mb_L_96, gT_of (tb_3 (List.mem_of_getElem? (i := 209) rfl)) rfl, gT_of (tb_3 (List.mem_of_getElem? (i := 210) rfl)) rfl⟩
theorem mb_X6_231 : kMB RX6 231 0 mX4_tick := ⟨gT_of (tb_3 (List.mem_of_getElem? (i := 212) rfl)) rfl, gT_of (tb_1 (List.mem_of_getElem? (i := 8) rfl)) rfl, gT_of (tb_3 (List.mem_of_getElem? (i := 63) rfl)) rfl, ⟨by decide +kernel, by decide +kernel, by decide +kernel⟩, by decide⟩
theorem mv_X6_231 : kMV RX6 231 0 mX4_tick := ⟨mb_X6_231, gT_of (tb_3 (List.mem_of_getElem? (i := 61) rfl)) rfl, gT_of (tb_3 (List.mem_of_getElem? (i := 62) rfl)) rfl⟩
theorem mb_X6_234 : kMB RX6 234 1 mX4_isLike := ⟨gT_of (tb_3 (List.mem_of_getElem? (i := 213) rfl)) rfl, gT_of (tb_1 (List.mem_of_getElem? (i := 8) rfl)) rfl, gT_of (tb_3 (List.mem_of_getElem? (i := 216) rfl)) rfl, ⟨by decide +kernel, by decide +kernel, by decide +kernel⟩, by decide⟩
theorem mv_X6_234 : kMV RX6 234 1 mX4_isLike := ⟨mb_X6_234, gT_of (tb_3 (List.mem_of_getElem? (i := 214) rfl)) rfl, gT_of (tb_3 (List.mem_of_getElem? (i := 215) rfl)) rfl⟩
theorem mb_X4_86 : kMB RX4 86 1 mX0_isLike := ⟨gT_of (tb_3 (List.mem_of_getElem? (i := 217) rfl)) rfl, gT_of (tb_1 (List.mem_of_getElem? (i := 9) rfl)) rfl, gT_of (tb_3 (List.mem_of_getElem? (i := 220) rfl)) rfl, ⟨by decide +kernel, by decide +kernel, by decide +kernel⟩, by decide⟩
theorem mv_X4_86 : kMV RX4 86 1 mX0_isLike := ⟨mb_X4_86, gT_of (tb_3 (List.mem_of_getElem? (i := 218) rfl)) rfl, gT_of (tb_3 (List.mem_of_getElem? (i := 219) rfl)) rfl⟩
theorem mb_X0_89 : kMB RX0 89 1 mX0_remembersLike := ⟨gT_of (tb_3 (List.mem_of_getElem? (i := 221) rfl)) rfl, gT_of (tb_1 (List.mem_of_getElem? (i := 9) rfl)) rfl, gT_of (tb_3 (List.mem_of_getElem? (i := 224) rfl)) rfl, ⟨by decide +kernel, by decide +kernel, by decide +kernel⟩, by decide⟩
theorem mv_X0_89 : kMV RX0 89 1 mX0_remembersLike := ⟨mb_X0_89, gT_of (tb_3 (List.mem_of_getElem? (i := 223) rfl)) rfl, List.mem_filter.mpr ⟨List.mem_append_left _ (List.mem_of_getElem? (i := 31) rfl), rfl⟩⟩
theorem mb_L_100 : kMB RL 100 1 mX6_evens := ⟨gT_of (tb_3 (List.mem_of_getElem? (i := 225) rfl)) rfl, gT_of (tb_1 (List.mem_of_getElem? (i := 1) rfl)) rfl, gT_of (tb_3 (List.mem_of_getElem? (i := 228) rfl)) rfl, ⟨by decide +kernel, by decide +kernel, by decide +kernel⟩, by decide⟩
theorem mv_L_100 : kMV RL 100 1 mX6_evens := ⟨mb_L_100, gT_of (tb_3 (List.mem_of_getElem? (i := 226) rfl)) rfl, gT_of (tb_3 (List.mem_of_getElem? (i := 227) rfl)) rfl⟩
theorem mb_L_104 : kMB RL 104 1 mX6_image := ⟨gT_of (tb_3 (List.mem_of_getElem? (i := 229) rfl)) rfl, gT_of (tb_1 (List.mem_of_getElem? (i := 1) rfl)) rfl, gT_of (tb_3 (List.mem_of_getElem? (i := 232) rfl)) rfl, ⟨by decide +kernel, by decide +kernel, by decide +kernel⟩, by decide⟩
theorem mv_L_104 : kMV RL 104 1 mX6_image := ⟨mb_L_104, gT_of (tb_3 (List.mem_of_getElem? (i := 230) rfl)) rfl, gT_of (tb_3 (List.mem_of_getElem? (i := 231) rfl)) rfl⟩
theorem mb_L_108 : kMB RL 108 1 mX6_restore := ⟨gT_of (tb_3 (List.mem_of_getElem? (i := 233) rfl)) rfl, gT_of (tb_1 (List.mem_of_getElem? (i := 1) rfl)) rfl, gT_of (tb_3 (List.mem_of_getElem? (i := 236) rfl)) rfl, ⟨by decide +kernel, by decide +kernel, by decide +kernel⟩, by decide⟩
theorem mv_L_108 : kMV RL 108 1 mX6_restore := ⟨mb_L_108, gT_of (tb_3 (List.mem_of_getElem? (i := 234) rfl)) rfl, gT_of (tb_3 (List.mem_of_getElem? (i := 235) rfl)) rfl⟩
theorem mb_L_112 : kMB RL 112 3 mX6_paces := ⟨gT_of (tb_3 (List.mem_of_getElem? (i := 237) rfl)) rfl, gT_of (tb_1 (List.mem_of_getElem? (i := 1) rfl)) rfl, gT_of (tb_4 (List.mem_of_getElem? (i := 0) rfl)) rfl, ⟨by decide +kernel, by decide +kernel, by decide +kernel⟩, by decide⟩
theorem mv_L_112 : kMV RL 112 3 mX6_paces := ⟨mb_L_112, gT_of (tb_3 (List.mem_of_getElem? (i := 238) rfl)) rfl, gT_of (tb_3 (List.mem_of_getElem? (i := 239) rfl)) rfl⟩
theorem mb_X6_238 : kMB RX6 238 1 mX6_isSheet := ⟨gT_of (tb_4 (List.mem_of_getElem? (i := 1) rfl)) rfl, gT_of (tb_1 (List.mem_of_getElem? (i := 1) rfl)) rfl, gT_of (tb_4 (List.mem_of_getElem? (i := 3) rfl)) rfl, ⟨by decide +kernel, by decide +kernel, by decide +kernel⟩, by decide⟩
theorem ms_X6_238 : kMS RX6 238 1 mX6_isSheet := ⟨mb_X6_238, gT_of (tb_4 (List.mem_of_getElem? (i := 2) rfl)) rfl⟩
theorem mb_X6_241 : kMB RX6 241 3 mX5_lookedAt := ⟨gT_of (tb_4 (List.mem_of_getElem? (i := 4) rfl)) rfl, gT_of (tb_1 (List.mem_of_getElem? (i := 10) rfl)) rfl, gT_of (tb_4 (List.mem_of_getElem? (i := 7) rfl)) rfl, ⟨by decide +kernel, by decide +kernel, by decide +kernel⟩, by decide⟩
theorem mv_X6_241 : kMV RX6 241 3 mX5_lookedAt := ⟨mb_X6_241, gT_of (tb_4 (List.mem_of_getElem? (i := 5) rfl)) rfl, gT_of (tb_4 (List.mem_of_getElem? (i := 6) rfl)) rfl⟩
theorem mb_X5_28 : kMB RX5 28 2 mX5_hasItems := ⟨gT_of (tb_4 (List.mem_of_getElem? (i := 8) rfl)) rfl, gT_of (tb_1 (List.mem_of_getElem? (i := 10) rfl)) rfl, gT_of (tb_4 (List.mem_of_getElem? (i := 11) rfl)) rfl, ⟨by decide +kernel, by decide +kernel, by decide +kernel⟩, by decide⟩
theorem mv_X5_28 : kMV RX5 28 2 mX5_hasItems := ⟨mb_X5_28, gT_of (tb_4 (List.mem_of_getElem? (i := 9) rfl)) rfl, gT_of (tb_4 (List.mem_of_getElem? (i := 10) rfl)) rfl⟩
theorem mb_L_116 : kMB RL 116 2 mX6_taps := ⟨gT_of (tb_4 (List.mem_of_getElem? (i := 12) rfl)) rfl, gT_of (tb_1 (List.mem_of_getElem? (i := 1) rfl)) rfl, gT_of (tb_4 (List.mem_of_getElem? (i := 15) rfl)) rfl, ⟨by decide +kernel, by decide +kernel, by decide +kernel⟩, by decide⟩
theorem mv_L_116 : kMV RL 116 2 mX6_taps := ⟨mb_L_116, gT_of (tb_4 (List.mem_of_getElem? (i := 13) rfl)) rfl, gT_of (tb_4 (List.mem_of_getElem? (i := 14) rfl)) rfl⟩
theorem mb_L_120 : kMB RL 120 3 mX6_sheet := ⟨gT_of (tb_4 (List.mem_of_getElem? (i := 16) rfl)) rfl, gT_of (tb_1 (List.mem_of_getElem? (i := 1) rfl)) rfl, gT_of (tb_4 (List.mem_of_getElem? (i := 19) rfl)) rfl, ⟨by decide +kernel, by decide +kernel, by decide +kernel⟩, by decide⟩
theorem mv_L_120 : kMV RL 120 3 mX6_sheet := ⟨mb_L_120, gT_of (tb_4 (List.mem_of_getElem? (i := 17) rfl)) rfl, gT_of (tb_4 (List.mem_of_getElem? (i := 18) rfl)) rfl⟩
theorem mb_X6_247 : kMB RX6 247 2 mX5_begin := ⟨gT_of (tb_4 (List.mem_of_getElem? (i := 20) rfl)) rfl, gT_of (tb_1 (List.mem_of_getElem? (i := 10) rfl)) rfl, gT_of (tb_4 (List.mem_of_getElem? (i := 23) rfl)) rfl, ⟨by decide +kernel, by decide +kernel, by decide +kernel⟩, by decide⟩
theorem mv_X6_247 : kMV RX6 247 2 mX5_begin := ⟨mb_X6_247, gT_of (tb_4 (List.mem_of_getElem? (i := 21) rfl)) rfl, gT_of (tb_4 (List.mem_of_getElem? (i := 22) rfl)) rfl⟩
theorem mb_X5_22 : kMB RX5 22 2 mJ7_fill_53178 := ⟨gT_of (tb_4 (List.mem_of_getElem? (i := 24) rfl)) rfl, gT_of (tb_1 (List.mem_of_getElem? (i := 5) rfl)) rfl, gT_of (tb_4 (List.mem_of_getElem? (i := 26) rfl)) rfl, ⟨by decide +kernel, by decide +kernel, by decide +kernel⟩, by decide⟩
theorem ms_X5_22 : kMS RX5 22 2 mJ7_fill_53178 := ⟨mb_X5_22, gT_of (tb_4 (List.mem_of_getElem? (i := 25) rfl)) rfl⟩
theorem mb_L_124 : kMB RL 124 1 mX6_drop := ⟨gT_of (tb_4 (List.mem_of_getElem? (i := 27) rfl)) rfl, gT_of (tb_1 (List.mem_of_getElem? (i := 1) rfl)) rfl, gT_of (tb_4 (List.mem_of_getElem? (i := 30) rfl)) rfl, ⟨by decide +kernel, by decide +kernel, by decide +kernel⟩, by decide⟩
theorem mv_L_124 : kMV RL 124 1 mX6_drop := ⟨mb_L_124, gT_of (tb_4 (List.mem_of_getElem? (i := 28) rfl)) rfl, gT_of (tb_4 (List.mem_of_getElem? (i := 29) rfl)) rfl⟩
theorem mb_L_128 : kMB RL 128 4 mX6_item := ⟨gT_of (tb_4 (List.mem_of_getElem? (i := 31) rfl)) rfl, gT_of (tb_1 (List.mem_of_getElem? (i := 1) rfl)) rfl, gT_of (tb_4 (List.mem_of_getElem? (i := 34) rfl)) rfl, ⟨by decide +kernel, by decide +kernel, by decide +kernel⟩, by decide⟩
theorem mv_L_128 : kMV RL 128 4 mX6_item := ⟨mb_L_128, gT_of (tb_4 (List.mem_of_getElem? (i := 32) rfl)) rfl, gT_of (tb_4 (List.mem_of_getElem? (i := 33) rfl)) rfl⟩
theorem mb_X6_253 : kMB RX6 253 2 mX5_put := ⟨gT_of (tb_4 (List.mem_of_getElem? (i := 35) rfl)) rfl, gT_of (tb_1 (List.mem_of_getElem? (i := 10) rfl)) rfl, gT_of (tb_4 (List.mem_of_getElem? (i := 38) rfl)) rfl, ⟨by decide +kernel, by decide +kernel, by decide +kernel⟩, by decide⟩
theorem mv_X6_253 : kMV RX6 253 2 mX5_put := ⟨mb_X6_253, gT_of (tb_4 (List.mem_of_getElem? (i := 36) rfl)) rfl, gT_of (tb_4 (List.mem_of_getElem? (i := 37) rfl)) rfl⟩
theorem mb_L_133 : kMB RL 133 5 mX6_copy := ⟨gT_of (tb_4 (List.mem_of_getElem? (i := 39) rfl)) rfl, gT_of (tb_1 (List.mem_of_getElem? (i := 1) rfl)) rfl, gT_of (tb_4 (List.mem_of_getElem? (i := 42) rfl)) rfl, ⟨by decide +kernel, by decide +kernel, by decide +kernel⟩, by decide⟩
theorem mv_L_133 : kMV RL 133 5 mX6_copy := ⟨mb_L_133, gT_of (tb_4 (List.mem_of_getElem? (i := 40) rfl)) rfl, gT_of (tb_4 (List.mem_of_getElem? (i := 41) rfl)) rfl⟩
theorem mb_X6_256 : kMB RX6 256 2 mX5_hasItems := ⟨gT_of (tb_4 (List.mem_of_getElem? (i := 43) rfl)) rfl, gT_of (tb_1 (List.mem_of_getElem? (i := 10) rfl)) rfl, gT_of (tb_4 (List.mem_of_getElem? (i := 11) rfl)) rfl, ⟨by decide +kernel, by decide +kernel, by decide +kernel⟩, by decide⟩
theorem mv_X6_256 : kMV RX6 256 2 mX5_hasItems := ⟨mb_X6_256, gT_of (tb_4 (List.mem_of_getElem? (i := 9) rfl)) rfl, gT_of (tb_4 (List.mem_of_getElem? (i := 10) rfl)) rfl⟩
theorem mb_L_12 : kMB RL 12 0 mX7_init := ⟨gT_of (tb_4 (List.mem_of_getElem? (i := 47) rfl)) rfl, gT_of (tb_1 (List.mem_of_getElem? (i := 11) rfl)) rfl, gT_of (tb_4 (List.mem_of_getElem? (i := 49) rfl)) rfl, ⟨by decide +kernel, by decide +kernel, by decide +kernel⟩, by decide⟩
theorem mc_L_12 : kMC RL 12 0 mX7_init := ⟨mb_L_12, gT_of (tb_4 (List.mem_of_getElem? (i := 48) rfl)) rfl, rfl, rfl⟩
theorem mb_L_17 : kMB RL 17 2 mX7_ring := ⟨gT_of (tb_4 (List.mem_of_getElem? (i := 115) rfl)) rfl, gT_of (tb_1 (List.mem_of_getElem? (i := 11) rfl)) rfl, gT_of (tb_4 (List.mem_of_getElem? (i := 118) rfl)) rfl, ⟨by decide +kernel, by decide +kernel, by decide +kernel⟩, by decide⟩
theorem mv_L_17 : kMV RL 17 2 mX7_ring := ⟨mb_L_17, gT_of (tb_4 (List.mem_of_getElem? (i := 116) rfl)) rfl, gT_of (tb_4 (List.mem_of_getElem? (i := 117) rfl)) rfl⟩
theorem mb_X7_53 : kMB RX7 53 3 mX7_in := ⟨gT_of (tb_4 (List.mem_of_getElem? (i := 119) rfl)) rfl, gT_of (tb_1 (List.mem_of_getElem? (i := 11) rfl)) rfl, gT_of (tb_4 (List.mem_of_getElem? (i := 121) rfl)) rfl, ⟨by decide +kernel, by decide +kernel, by decide +kernel⟩, by decide⟩
theorem ms_X7_53 : kMS RX7 53 3 mX7_in := ⟨mb_X7_53, gT_of (tb_4 (List.mem_of_getElem? (i := 120) rfl)) rfl⟩
theorem mb_L_22 : kMB RL 22 3 mX7_car := ⟨gT_of (tb_4 (List.mem_of_getElem? (i := 125) rfl)) rfl, gT_of (tb_1 (List.mem_of_getElem? (i := 11) rfl)) rfl, gT_of (tb_4 (List.mem_of_getElem? (i := 128) rfl)) rfl, ⟨by decide +kernel, by decide +kernel, by decide +kernel⟩, by decide⟩
theorem mv_L_22 : kMV RL 22 3 mX7_car := ⟨mb_L_22, gT_of (tb_4 (List.mem_of_getElem? (i := 126) rfl)) rfl, gT_of (tb_4 (List.mem_of_getElem? (i := 127) rfl)) rfl⟩
theorem mb_X7_77 : kMB RX7 77 3 mX7_carAt := ⟨gT_of (tb_4 (List.mem_of_getElem? (i := 129) rfl)) rfl, gT_of (tb_1 (List.mem_of_getElem? (i := 11) rfl)) rfl, gT_of (tb_4 (List.mem_of_getElem? (i := 132) rfl)) rfl, ⟨by decide +kernel, by decide +kernel, by decide +kernel⟩, by decide⟩
theorem mv_X7_77 : kMV RX7 77 3 mX7_carAt := ⟨mb_X7_77, gT_of (tb_4 (List.mem_of_getElem? (i := 131) rfl)) rfl, List.mem_filter.mpr ⟨List.mem_append_left _ (List.mem_of_getElem? (i := 32) rfl), rfl⟩⟩
theorem mb_X7_57 : kMB RX7 57 3 mX7_of := ⟨gT_of (tb_4 (List.mem_of_getElem? (i := 133) rfl)) rfl, gT_of (tb_1 (List.mem_of_getElem? (i := 11) rfl)) rfl, gT_of (tb_4 (List.mem_of_getElem? (i := 136) rfl)) rfl, ⟨by decide +kernel, by decide +kernel, by decide +kernel⟩, by decide⟩
theorem mv_X7_57 : kMV RX7 57 3 mX7_of := ⟨mb_X7_57, gT_of (tb_4 (List.mem_of_getElem? (i := 135) rfl)) rfl, List.mem_filter.mpr ⟨List.mem_append_left _ (List.mem_of_getElem? (i := 33) rfl), rfl⟩⟩
theorem mb_X7_80 : kMB RX7 80 3 mX7_put := ⟨gT_of (tb_4 (List.mem_of_getElem? (i := 137) rfl)) rfl, gT_of (tb_1 (List.mem_of_getElem? (i := 11) rfl)) rfl, gT_of (tb_4 (List.mem_of_getElem? (i := 140) rfl)) rfl, ⟨by decide +kernel, by decide +kernel, by decide +kernel⟩, by decide⟩
theorem mv_X7_80 : kMV RX7 80 3 mX7_put := ⟨mb_X7_80, gT_of (tb_4 (List.mem_of_getElem? (i := 139) rfl)) rfl, List.mem_filter.mpr ⟨List.mem_append_left _ (List.mem_of_getElem? (i := 34) rfl), rfl⟩⟩
theorem mb_X7_74 : kMB RX7 74 3 mX7_at := ⟨gT_of (tb_4 (List.mem_of_getElem? (i := 141) rfl)) rfl, gT_of (tb_1 (List.mem_of_getElem? (i := 11) rfl)) rfl, gT_of (tb_4 (List.mem_of_getElem? (i := 143) rfl)) rfl, ⟨by decide +kernel, by decide +kernel, by decide +kernel⟩, by decide⟩
theorem ms_X7_74 : kMS RX7 74 3 mX7_at := ⟨mb_X7_74, gT_of (tb_4 (List.mem_of_getElem? (i := 142) rfl)) rfl⟩
theorem mb_L_26 : kMB RL 26 2 mX7_evenly := ⟨gT_of (tb_4 (List.mem_of_getElem? (i := 144) rfl)) rfl, gT_of (tb_1 (List.mem_of_getElem? (i := 11) rfl)) rfl, gT_of (tb_4 (List.mem_of_getElem? (i := 147) rfl)) rfl, ⟨by decide +kernel, by decide +kernel, by decide +kernel⟩, by decide⟩
theorem mv_L_26 : kMV RL 26 2 mX7_evenly := ⟨mb_L_26, gT_of (tb_4 (List.mem_of_getElem? (i := 145) rfl)) rfl, gT_of (tb_4 (List.mem_of_getElem? (i := 146) rfl)) rfl⟩
theorem mb_L_30 : kMB RL 30 3 mX7_set := ⟨gT_of (tb_4 (List.mem_of_getElem? (i := 148) rfl)) rfl, gT_of (tb_1 (List.mem_of_getElem? (i := 11) rfl)) rfl, gT_of (tb_4 (List.mem_of_getElem? (i := 151) rfl)) rfl, ⟨by decide +kernel, by decide +kernel, by decide +kernel⟩, by decide⟩
theorem mv_L_30 : kMV RL 30 3 mX7_set := ⟨mb_L_30, gT_of (tb_4 (List.mem_of_getElem? (i := 149) rfl)) rfl, gT_of (tb_4 (List.mem_of_getElem? (i := 150) rfl)) rfl⟩
theorem mb_X7_84 : kMB RX7 84 1 mX7_isCar := ⟨gT_of (tb_4 (List.mem_of_getElem? (i := 152) rfl)) rfl, gT_of (tb_1 (List.mem_of_getElem? (i := 11) rfl)) rfl, gT_of (tb_4 (List.mem_of_getElem? (i := 155) rfl)) rfl, ⟨by decide +kernel, by decide +kernel, by decide +kernel⟩, by decide⟩
theorem mv_X7_84 : kMV RX7 84 1 mX7_isCar := ⟨mb_X7_84, gT_of (tb_4 (List.mem_of_getElem? (i := 154) rfl)) rfl, List.mem_filter.mpr ⟨List.mem_append_left _ (List.mem_of_getElem? (i := 35) rfl), rfl⟩⟩
theorem mb_L_34 : kMB RL 34 2 mX7_told := ⟨gT_of (tb_4 (List.mem_of_getElem? (i := 158) rfl)) rfl, gT_of (tb_1 (List.mem_of_getElem? (i := 11) rfl)) rfl, gT_of (tb_4 (List.mem_of_getElem? (i := 161) rfl)) rfl, ⟨by decide +kernel, by decide +kernel, by decide +kernel⟩, by decide⟩
theorem mv_L_34 : kMV RL 34 2 mX7_told := ⟨mb_L_34, gT_of (tb_4 (List.mem_of_getElem? (i := 159) rfl)) rfl, gT_of (tb_4 (List.mem_of_getElem? (i := 160) rfl)) rfl⟩
theorem mb_X7_92 : kMB RX7 92 2 mX7_gap := ⟨gT_of (tb_4 (List.mem_of_getElem? (i := 162) rfl)) rfl, gT_of (tb_1 (List.mem_of_getElem? (i := 11) rfl)) rfl, gT_of (tb_4 (List.mem_of_getElem? (i := 165) rfl)) rfl, ⟨by decide +kernel, by decide +kernel, by decide +kernel⟩, by decide⟩
theorem mv_X7_92 : kMV RX7 92 2 mX7_gap := ⟨mb_X7_92, gT_of (tb_4 (List.mem_of_getElem? (i := 164) rfl)) rfl, List.mem_filter.mpr ⟨List.mem_append_left _ (List.mem_of_getElem? (i := 36) rfl), rfl⟩⟩
theorem mb_X7_64 : kMB RX7 64 2 mX7_ahead := ⟨gT_of (tb_4 (List.mem_of_getElem? (i := 166) rfl)) rfl, gT_of (tb_1 (List.mem_of_getElem? (i := 11) rfl)) rfl, gT_of (tb_4 (List.mem_of_getElem? (i := 169) rfl)) rfl, ⟨by decide +kernel, by decide +kernel, by decide +kernel⟩, by decide⟩
theorem mv_X7_64 : kMV RX7 64 2 mX7_ahead := ⟨mb_X7_64, gT_of (tb_4 (List.mem_of_getElem? (i := 168) rfl)) rfl, List.mem_filter.mpr ⟨List.mem_append_left _ (List.mem_of_getElem? (i := 37) rfl), rfl⟩⟩
theorem mb_X7_61 : kMB RX7 61 3 mX7_on := ⟨gT_of (tb_4 (List.mem_of_getElem? (i := 170) rfl)) rfl, gT_of (tb_1 (List.mem_of_getElem? (i := 11) rfl)) rfl, gT_of (tb_4 (List.mem_of_getElem? (i := 173) rfl)) rfl, ⟨by decide +kernel, by decide +kernel, by decide +kernel⟩, by decide⟩
theorem mv_X7_61 : kMV RX7 61 3 mX7_on := ⟨mb_X7_61, gT_of (tb_4 (List.mem_of_getElem? (i := 172) rfl)) rfl, List.mem_filter.mpr ⟨List.mem_append_left _ (List.mem_of_getElem? (i := 38) rfl), rfl⟩⟩
theorem mb_X7_95 : kMB RX7 95 2 mX7_other := ⟨gT_of (tb_4 (List.mem_of_getElem? (i := 174) rfl)) rfl, gT_of (tb_1 (List.mem_of_getElem? (i := 11) rfl)) rfl, gT_of (tb_4 (List.mem_of_getElem? (i := 177) rfl)) rfl, ⟨by decide +kernel, by decide +kernel, by decide +kernel⟩, by decide⟩
theorem mv_X7_95 : kMV RX7 95 2 mX7_other := ⟨mb_X7_95, gT_of (tb_4 (List.mem_of_getElem? (i := 176) rfl)) rfl, List.mem_filter.mpr ⟨List.mem_append_left _ (List.mem_of_getElem? (i := 39) rfl), rfl⟩⟩
theorem mb_L_41 : kMB RL 41 2 mX7_type := ⟨gT_of (tb_4 (List.mem_of_getElem? (i := 178) rfl)) rfl, gT_of (tb_1 (List.mem_of_getElem? (i := 11) rfl)) rfl, gT_of (tb_4 (List.mem_of_getElem? (i := 181) rfl)) rfl, ⟨by decide +kernel, by decide +kernel, by decide +kernel⟩, by decide⟩
theorem mv_L_41 : kMV RL 41 2 mX7_type := ⟨mb_L_41, gT_of (tb_4 (List.mem_of_getElem? (i := 179) rfl)) rfl, gT_of (tb_4 (List.mem_of_getElem? (i := 180) rfl)) rfl⟩
theorem mb_L_46 : kMB RL 46 1 mX7_habit := ⟨gT_of (tb_4 (List.mem_of_getElem? (i := 186) rfl)) rfl, gT_of (tb_1 (List.mem_of_getElem? (i := 11) rfl)) rfl, gT_of (tb_4 (List.mem_of_getElem? (i := 189) rfl)) rfl, ⟨by decide +kernel, by decide +kernel, by decide +kernel⟩, by decide⟩
theorem mv_L_46 : kMV RL 46 1 mX7_habit := ⟨mb_L_46, gT_of (tb_4 (List.mem_of_getElem? (i := 187) rfl)) rfl, gT_of (tb_4 (List.mem_of_getElem? (i := 188) rfl)) rfl⟩
theorem mb_X7_134 : kMB RX7 134 0 mX7_clauses := ⟨gT_of (tb_4 (List.mem_of_getElem? (i := 190) rfl)) rfl, gT_of (tb_1 (List.mem_of_getElem? (i := 11) rfl)) rfl, gT_of (tb_4 (List.mem_of_getElem? (i := 193) rfl)) rfl, ⟨by decide +kernel, by decide +kernel, by decide +kernel⟩, by decide⟩
theorem mv_X7_134 : kMV RX7 134 0 mX7_clauses := ⟨mb_X7_134, gT_of (tb_4 (List.mem_of_getElem? (i := 192) rfl)) rfl, List.mem_filter.mpr ⟨List.mem_append_left _ (List.mem_of_getElem? (i := 40) rfl), rfl⟩⟩
theorem mb_X7_128 : kMB RX7 128 0 mX7_test := ⟨gT_of (tb_4 (List.mem_of_getElem? (i := 194) rfl)) rfl, gT_of (tb_1 (List.mem_of_getElem? (i := 11) rfl)) rfl, gT_of (tb_4 (List.mem_of_getElem? (i := 197) rfl)) rfl, ⟨by decide +kernel, by decide +kernel, by decide +kernel⟩, by decide⟩
theorem mv_X7_128 : kMV RX7 128 0 mX7_test := ⟨mb_X7_128, gT_of (tb_4 (List.mem_of_getElem? (i := 196) rfl)) rfl, List.mem_filter.mpr ⟨List.mem_append_left _ (List.mem_of_getElem? (i := 41) rfl), rfl⟩⟩
theorem mb_X7_117 : kMB RX7 117 0 mX7_look := ⟨gT_of (tb_4 (List.mem_of_getElem? (i := 198) rfl)) rfl, gT_of (tb_1 (List.mem_of_getElem? (i := 11) rfl)) rfl, gT_of (tb_4 (List.mem_of_getElem? (i := 201) rfl)) rfl, ⟨by decide +kernel, by decide +kernel, by decide +kernel⟩, by decide⟩
theorem mv_X7_117 : kMV RX7 117 0 mX7_look := ⟨mb_X7_117, gT_of (tb_4 (List.mem_of_getElem? (i := 200) rfl)) rfl, List.mem_filter.mpr ⟨List.mem_append_left _ (List.mem_of_getElem? (i := 42) rfl), rfl⟩⟩
theorem mb_X7_124 : kMB RX7 124 0 mX7_claim := ⟨gT_of (tb_4 (List.mem_of_getElem? (i := 202) rfl)) rfl, gT_of (tb_1 (List.mem_of_getElem? (i := 11) rfl)) rfl, gT_of (tb_4 (List.mem_of_getElem? (i := 205) rfl)) rfl, ⟨by decide +kernel, by decide +kernel, by decide +kernel⟩, by decide⟩
theorem mv_X7_124 : kMV RX7 124 0 mX7_claim := ⟨mb_X7_124, gT_of (tb_4 (List.mem_of_getElem? (i := 204) rfl)) rfl, List.mem_filter.mpr ⟨List.mem_append_left _ (List.mem_of_getElem? (i := 43) rfl), rfl⟩⟩
theorem mb_X7_121 : kMB RX7 121 1 mX7_isDigit := ⟨gT_of (tb_4 (List.mem_of_getElem? (i := 206) rfl)) rfl, gT_of (tb_1 (List.mem_of_getElem? (i := 11) rfl)) rfl, gT_of (tb_4 (List.mem_of_getElem? (i := 209) rfl)) rfl, ⟨by decide +kernel, by decide +kernel, by decide +kernel⟩, by decide⟩
theorem mv_X7_121 : kMV RX7 121 1 mX7_isDigit := ⟨mb_X7_121, gT_of (tb_4 (List.mem_of_getElem? (i := 208) rfl)) rfl, List.mem_filter.mpr ⟨List.mem_append_left _ (List.mem_of_getElem? (i := 44) rfl), rfl⟩⟩
theorem mb_X7_131 : kMB RX7 131 0 mX7_act := ⟨gT_of (tb_4 (List.mem_of_getElem? (i := 212) rfl)) rfl, gT_of (tb_1 (List.mem_of_getElem? (i := 11) rfl)) rfl, gT_of (tb_4 (List.mem_of_getElem? (i := 215) rfl)) rfl, ⟨by decide +kernel, by decide +kernel, by decide +kernel⟩, by decide⟩
theorem mv_X7_131 : kMV RX7 131 0 mX7_act := ⟨mb_X7_131, gT_of (tb_4 (List.mem_of_getElem? (i := 214) rfl)) rfl, List.mem_filter.mpr ⟨List.mem_append_left _ (List.mem_of_getElem? (i := 45) rfl), rfl⟩⟩
theorem mb_L_50 : kMB RL 50 1 mX7_holds := ⟨gT_of (tb_4 (List.mem_of_getElem? (i := 216) rfl)) rfl, gT_of (tb_1 (List.mem_of_getElem? (i := 11) rfl)) rfl, gT_of (tb_4 (List.mem_of_getElem? (i := 219) rfl)) rfl, ⟨by decide +kernel, by decide +kernel, by decide +kernel⟩, by decide⟩
theorem mv_L_50 : kMV RL 50 1 mX7_holds := ⟨mb_L_50, gT_of (tb_4 (List.mem_of_getElem? (i := 217) rfl)) rfl, gT_of (tb_4 (List.mem_of_getElem? (i := 218) rfl)) rfl⟩
theorem mb_X7_166 : kMB RX7 166 2 mX7_slower := ⟨gT_of (tb_4 (List.mem_of_getElem? (i := 220) rfl)) rfl, gT_of (tb_1 (List.mem_of_getElem? (i := 11) rfl)) rfl, gT_of (tb_4 (List.mem_of_getElem? (i := 223) rfl)) rfl, ⟨by decide +kernel, by decide +kernel, by decide +kernel⟩, by decide⟩
theorem mv_X7_166 : kMV RX7 166 2 mX7_slower := ⟨mb_X7_166, gT_of (tb_4 (List.mem_of_getElem? (i := 222) rfl)) rfl, List.mem_filter.mpr ⟨List.mem_append_left _ (List.mem_of_getElem? (i := 46) rfl), rfl⟩⟩
theorem mb_X7_169 : kMB RX7 169 6 mX7_clause := ⟨gT_of (tb_4 (List.mem_of_getElem? (i := 224) rfl)) rfl, gT_of (tb_1 (List.mem_of_getElem? (i := 11) rfl)) rfl, gT_of (tb_4 (List.mem_of_getElem? (i := 227) rfl)) rfl, ⟨by decide +kernel, by decide +kernel, by decide +kernel⟩, by decide⟩
theorem mv_X7_169 : kMV RX7 169 6 mX7_clause := ⟨mb_X7_169, gT_of (tb_4 (List.mem_of_getElem? (i := 226) rfl)) rfl, List.mem_filter.mpr ⟨List.mem_append_left _ (List.mem_of_getElem? (i := 47) rfl), rfl⟩⟩
theorem mb_X7_163 : kMB RX7 163 4 mX7_testHolds := ⟨gT_of (tb_4 (List.mem_of_getElem? (i := 228) rfl)) rfl, gT_of (tb_1 (List.mem_of_getElem? (i := 11) rfl)) rfl, gT_of (tb_4 (List.mem_of_getElem? (i := 231) rfl)) rfl, ⟨by decide +kernel, by decide +kernel, by decide +kernel⟩, by decide⟩
theorem mv_X7_163 : kMV RX7 163 4 mX7_testHolds := ⟨mb_X7_163, gT_of (tb_4 (List.mem_of_getElem? (i := 230) rfl)) rfl, List.mem_filter.mpr ⟨List.mem_append_left _ (List.mem_of_getElem? (i := 48) rfl), rfl⟩⟩
theorem mb_X7_143 : kMB RX7 143 0 mX7_sign := ⟨gT_of (tb_4 (List.mem_of_getElem? (i := 232) rfl)) rfl, gT_of (tb_1 (List.mem_of_getElem? (i := 11) rfl)) rfl, gT_of (tb_4 (List.mem_of_getElem? (i := 235) rfl)) rfl, ⟨by decide +kernel, by decide +kernel, by decide +kernel⟩, by decide⟩
theorem mv_X7_143 : kMV RX7 143 0 mX7_sign := ⟨mb_X7_143, gT_of (tb_4 (List.mem_of_getElem? (i := 234) rfl)) rfl, List.mem_filter.mpr ⟨List.mem_append_left _ (List.mem_of_getElem? (i := 49) rfl), rfl⟩⟩
theorem mb_X7_152 : kMB RX7 152 4 mX7_claimHolds := ⟨gT_of (tb_4 (List.mem_of_getElem? (i := 236) rfl)) rfl, gT_of (tb_1 (List.mem_of_getElem? (i := 11) rfl)) rfl, gT_of (tb_4 (List.mem_of_getElem? (i := 239) rfl)) rfl, ⟨by decide +kernel, by decide +kernel, by decide +kernel⟩, by decide⟩
theorem mv_X7_152 : kMV RX7 152 4 mX7_claimHolds := ⟨mb_X7_152, gT_of (tb_4 (List.mem_of_getElem? (i := 238) rfl)) rfl, List.mem_filter.mpr ⟨List.mem_append_left _ (List.mem_of_getElem? (i := 50) rfl), rfl⟩⟩
theorem mb_X7_146 : kMB RX7 146 0 mX7_take := ⟨gT_of (tb_5 (List.mem_of_getElem? (i := 0) rfl)) rfl, gT_of (tb_1 (List.mem_of_getElem? (i := 11) rfl)) rfl, gT_of (tb_5 (List.mem_of_getElem? (i := 3) rfl)) rfl, ⟨by decide +kernel, by decide +kernel, by decide +kernel⟩, by decide⟩
theorem mv_X7_146 : kMV RX7 146 0 mX7_take := ⟨mb_X7_146, gT_of (tb_5 (List.mem_of_getElem? (i := 2) rfl)) rfl, List.mem_filter.mpr ⟨List.mem_append_left _ (List.mem_of_getElem? (i := 51) rfl), rfl⟩⟩
theorem mb_X7_149 : kMB RX7 149 0 mX7_digits := ⟨gT_of (tb_5 (List.mem_of_getElem? (i := 4) rfl)) rfl, gT_of (tb_1 (List.mem_of_getElem? (i := 11) rfl)) rfl, gT_of (tb_5 (List.mem_of_getElem? (i := 7) rfl)) rfl, ⟨by decide +kernel, by decide +kernel, by decide +kernel⟩, by decide⟩
theorem mv_X7_149 : kMV RX7 149 0 mX7_digits := ⟨mb_X7_149, gT_of (tb_5 (List.mem_of_getElem? (i := 6) rfl)) rfl, List.mem_filter.mpr ⟨List.mem_append_left _ (List.mem_of_getElem? (i := 52) rfl), rfl⟩⟩
theorem mb_L_54 : kMB RL 54 3 mX7_board := ⟨gT_of (tb_5 (List.mem_of_getElem? (i := 8) rfl)) rfl, gT_of (tb_1 (List.mem_of_getElem? (i := 11) rfl)) rfl, gT_of (tb_5 (List.mem_of_getElem? (i := 11) rfl)) rfl, ⟨by decide +kernel, by decide +kernel, by decide +kernel⟩, by decide⟩
theorem mv_L_54 : kMV RL 54 3 mX7_board := ⟨mb_L_54, gT_of (tb_5 (List.mem_of_getElem? (i := 9) rfl)) rfl, gT_of (tb_5 (List.mem_of_getElem? (i := 10) rfl)) rfl⟩
theorem mb_L_58 : kMB RL 58 1 mX7_loop := ⟨gT_of (tb_5 (List.mem_of_getElem? (i := 12) rfl)) rfl, gT_of (tb_1 (List.mem_of_getElem? (i := 11) rfl)) rfl, gT_of (tb_5 (List.mem_of_getElem? (i := 15) rfl)) rfl, ⟨by decide +kernel, by decide +kernel, by decide +kernel⟩, by decide⟩
theorem mv_L_58 : kMV RL 58 1 mX7_loop := ⟨mb_L_58, gT_of (tb_5 (List.mem_of_getElem? (i := 13) rfl)) rfl, gT_of (tb_5 (List.mem_of_getElem? (i := 14) rfl)) rfl⟩
theorem mb_L_62 : kMB RL 62 2 mX7_looped := ⟨gT_of (tb_5 (List.mem_of_getElem? (i := 16) rfl)) rfl, gT_of (tb_1 (List.mem_of_getElem? (i := 11) rfl)) rfl, gT_of (tb_5 (List.mem_of_getElem? (i := 19) rfl)) rfl, ⟨by decide +kernel, by decide +kernel, by decide +kernel⟩, by decide⟩
theorem mv_L_62 : kMV RL 62 2 mX7_looped := ⟨mb_L_62, gT_of (tb_5 (List.mem_of_getElem? (i := 17) rfl)) rfl, gT_of (tb_5 (List.mem_of_getElem? (i := 18) rfl)) rfl⟩
theorem mb_L_66 : kMB RL 66 1 mX7_tap := ⟨gT_of (tb_5 (List.mem_of_getElem? (i := 20) rfl)) rfl, gT_of (tb_1 (List.mem_of_getElem? (i := 11) rfl)) rfl, gT_of (tb_5 (List.mem_of_getElem? (i := 23) rfl)) rfl, ⟨by decide +kernel, by decide +kernel, by decide +kernel⟩, by decide⟩
theorem mv_L_66 : kMV RL 66 1 mX7_tap := ⟨mb_L_66, gT_of (tb_5 (List.mem_of_getElem? (i := 21) rfl)) rfl, gT_of (tb_5 (List.mem_of_getElem? (i := 22) rfl)) rfl⟩
theorem mb_L_70 : kMB RL 70 1 mX7_ticks := ⟨gT_of (tb_5 (List.mem_of_getElem? (i := 24) rfl)) rfl, gT_of (tb_1 (List.mem_of_getElem? (i := 11) rfl)) rfl, gT_of (tb_5 (List.mem_of_getElem? (i := 27) rfl)) rfl, ⟨by decide +kernel, by decide +kernel, by decide +kernel⟩, by decide⟩
theorem mv_L_70 : kMV RL 70 1 mX7_ticks := ⟨mb_L_70, gT_of (tb_5 (List.mem_of_getElem? (i := 25) rfl)) rfl, gT_of (tb_5 (List.mem_of_getElem? (i := 26) rfl)) rfl⟩
theorem mb_X7_200 : kMB RX7 200 1 mX7_tick := ⟨gT_of (tb_5 (List.mem_of_getElem? (i := 30) rfl)) rfl, gT_of (tb_1 (List.mem_of_getElem? (i := 11) rfl)) rfl, gT_of (tb_5 (List.mem_of_getElem? (i := 33) rfl)) rfl, ⟨by decide +kernel, by decide +kernel, by decide +kernel⟩, by decide⟩
theorem mv_X7_200 : kMV RX7 200 1 mX7_tick := ⟨mb_X7_200, gT_of (tb_5 (List.mem_of_getElem? (i := 32) rfl)) rfl, List.mem_filter.mpr ⟨List.mem_append_left _ (List.mem_of_getElem? (i := 53) rfl), rfl⟩⟩
theorem mb_X7_173 : kMB RX7 173 2 mX7_note := ⟨gT_of (tb_5 (List.mem_of_getElem? (i := 34) rfl)) rfl, gT_of (tb_1 (List.mem_of_getElem? (i := 11) rfl)) rfl, gT_of (tb_5 (List.mem_of_getElem? (i := 37) rfl)) rfl, ⟨by decide +kernel, by decide +kernel, by decide +kernel⟩, by decide⟩
theorem mv_X7_173 : kMV RX7 173 2 mX7_note := ⟨mb_X7_173, gT_of (tb_5 (List.mem_of_getElem? (i := 36) rfl)) rfl, List.mem_filter.mpr ⟨List.mem_append_left _ (List.mem_of_getElem? (i := 54) rfl), rfl⟩⟩
theorem mb_X7_177 : kMB RX7 177 2 mX7_decide := ⟨gT_of (tb_5 (List.mem_of_getElem? (i := 38) rfl)) rfl, gT_of (tb_1 (List.mem_of_getElem? (i := 11) rfl)) rfl, gT_of (tb_5 (List.mem_of_getElem? (i := 41) rfl)) rfl, ⟨by decide +kernel, by decide +kernel, by decide +kernel⟩, by decide⟩
theorem mv_X7_177 : kMV RX7 177 2 mX7_decide := ⟨mb_X7_177, gT_of (tb_5 (List.mem_of_getElem? (i := 40) rfl)) rfl, List.mem_filter.mpr ⟨List.mem_append_left _ (List.mem_of_getElem? (i := 55) rfl), rfl⟩⟩
theorem mb_X7_180 : kMB RX7 180 2 mX7_hasRoom := ⟨gT_of (tb_5 (List.mem_of_getElem? (i := 42) rfl)) rfl, gT_of (tb_1 (List.mem_of_getElem? (i := 11) rfl)) rfl, gT_of (tb_5 (List.mem_of_getElem? (i := 45) rfl)) rfl, ⟨by decide +kernel, by decide +kernel, by decide +kernel⟩, by decide⟩
theorem mv_X7_180 : kMV RX7 180 2 mX7_hasRoom := ⟨mb_X7_180, gT_of (tb_5 (List.mem_of_getElem? (i := 44) rfl)) rfl, List.mem_filter.mpr ⟨List.mem_append_left _ (List.mem_of_getElem? (i := 56) rfl), rfl⟩⟩
theorem mb_X7_184 : kMB RX7 184 2 mX7_limited := ⟨gT_of (tb_5 (List.mem_of_getElem? (i := 46) rfl)) rfl, gT_of (tb_1 (List.mem_of_getElem? (i := 11) rfl)) rfl, gT_of (tb_5 (List.mem_of_getElem? (i := 49) rfl)) rfl, ⟨by decide +kernel, by decide +kernel, by decide +kernel⟩, by decide⟩
theorem mv_X7_184 : kMV RX7 184 2 mX7_limited := ⟨mb_X7_184, gT_of (tb_5 (List.mem_of_getElem? (i := 48) rfl)) rfl, List.mem_filter.mpr ⟨List.mem_append_left _ (List.mem_of_getElem? (i := 57) rfl), rfl⟩⟩
theorem mb_X7_187 : kMB RX7 187 2 mX7_goOn := ⟨gT_of (tb_5 (List.mem_of_getElem? (i := 50) rfl)) rfl, gT_of (tb_1 (List.mem_of_getElem? (i := 11) rfl)) rfl, gT_of (tb_5 (List.mem_of_getElem? (i := 53) rfl)) rfl, ⟨by decide +kernel, by decide +kernel, by decide +kernel⟩, by decide⟩
theorem mv_X7_187 : kMV RX7 187 2 mX7_goOn := ⟨mb_X7_187, gT_of (tb_5 (List.mem_of_getElem? (i := 52) rfl)) rfl, List.mem_filter.mpr ⟨List.mem_append_left _ (List.mem_of_getElem? (i := 58) rfl), rfl⟩⟩
theorem mb_X7_190 : kMB RX7 190 1 mX7_noteFirst := ⟨gT_of (tb_5 (List.mem_of_getElem? (i := 54) rfl)) rfl, gT_of (tb_1 (List.mem_of_getElem? (i := 11) rfl)) rfl, gT_of (tb_5 (List.mem_of_getElem? (i := 57) rfl)) rfl, ⟨by decide +kernel, by decide +kernel, by decide +kernel⟩, by decide⟩
theorem mv_X7_190 : kMV RX7 190 1 mX7_noteFirst := ⟨mb_X7_190, gT_of (tb_5 (List.mem_of_getElem? (i := 56) rfl)) rfl, List.mem_filter.mpr ⟨List.mem_append_left _ (List.mem_of_getElem? (i := 59) rfl), rfl⟩⟩
theorem mb_X7_194 : kMB RX7 194 1 mX7_isEven := ⟨gT_of (tb_5 (List.mem_of_getElem? (i := 58) rfl)) rfl, gT_of (tb_1 (List.mem_of_getElem? (i := 11) rfl)) rfl, gT_of (tb_5 (List.mem_of_getElem? (i := 61) rfl)) rfl, ⟨by decide +kernel, by decide +kernel, by decide +kernel⟩, by decide⟩
theorem mv_X7_194 : kMV RX7 194 1 mX7_isEven := ⟨mb_X7_194, gT_of (tb_5 (List.mem_of_getElem? (i := 60) rfl)) rfl, List.mem_filter.mpr ⟨List.mem_append_left _ (List.mem_of_getElem? (i := 60) rfl), rfl⟩⟩
theorem mb_L_74 : kMB RL 74 1 mX7_count := ⟨gT_of (tb_5 (List.mem_of_getElem? (i := 62) rfl)) rfl, gT_of (tb_1 (List.mem_of_getElem? (i := 11) rfl)) rfl, gT_of (tb_5 (List.mem_of_getElem? (i := 65) rfl)) rfl, ⟨by decide +kernel, by decide +kernel, by decide +kernel⟩, by decide⟩
theorem mv_L_74 : kMV RL 74 1 mX7_count := ⟨mb_L_74, gT_of (tb_5 (List.mem_of_getElem? (i := 63) rfl)) rfl, gT_of (tb_5 (List.mem_of_getElem? (i := 64) rfl)) rfl⟩
theorem mb_X7_215 : kMB RX7 215 1 mX7_findKnots := ⟨gT_of (tb_5 (List.mem_of_getElem? (i := 66) rfl)) rfl, gT_of (tb_1 (List.mem_of_getElem? (i := 11) rfl)) rfl, gT_of (tb_5 (List.mem_of_getElem? (i := 69) rfl)) rfl, ⟨by decide +kernel, by decide +kernel, by decide +kernel⟩, by decide⟩
theorem mv_X7_215 : kMV RX7 215 1 mX7_findKnots := ⟨mb_X7_215, gT_of (tb_5 (List.mem_of_getElem? (i := 68) rfl)) rfl, List.mem_filter.mpr ⟨List.mem_append_left _ (List.mem_of_getElem? (i := 61) rfl), rfl⟩⟩
theorem mb_X7_206 : kMB RX7 206 2 mX7_isSlow := ⟨gT_of (tb_5 (List.mem_of_getElem? (i := 70) rfl)) rfl, gT_of (tb_1 (List.mem_of_getElem? (i := 11) rfl)) rfl, gT_of (tb_5 (List.mem_of_getElem? (i := 73) rfl)) rfl, ⟨by decide +kernel, by decide +kernel, by decide +kernel⟩, by decide⟩
theorem mv_X7_206 : kMV RX7 206 2 mX7_isSlow := ⟨mb_X7_206, gT_of (tb_5 (List.mem_of_getElem? (i := 72) rfl)) rfl, List.mem_filter.mpr ⟨List.mem_append_left _ (List.mem_of_getElem? (i := 62) rfl), rfl⟩⟩
theorem mb_X7_209 : kMB RX7 209 3 mX7_addKnot := ⟨gT_of (tb_5 (List.mem_of_getElem? (i := 74) rfl)) rfl, gT_of (tb_1 (List.mem_of_getElem? (i := 11) rfl)) rfl, gT_of (tb_5 (List.mem_of_getElem? (i := 77) rfl)) rfl, ⟨by decide +kernel, by decide +kernel, by decide +kernel⟩, by decide⟩
theorem mv_X7_209 : kMV RX7 209 3 mX7_addKnot := ⟨mb_X7_209, gT_of (tb_5 (List.mem_of_getElem? (i := 76) rfl)) rfl, List.mem_filter.mpr ⟨List.mem_append_left _ (List.mem_of_getElem? (i := 63) rfl), rfl⟩⟩
theorem mb_X7_212 : kMB RX7 212 2 mX7_behind := ⟨gT_of (tb_5 (List.mem_of_getElem? (i := 78) rfl)) rfl, gT_of (tb_1 (List.mem_of_getElem? (i := 11) rfl)) rfl, gT_of (tb_5 (List.mem_of_getElem? (i := 81) rfl)) rfl, ⟨by decide +kernel, by decide +kernel, by decide +kernel⟩, by decide⟩
theorem mv_X7_212 : kMV RX7 212 2 mX7_behind := ⟨mb_X7_212, gT_of (tb_5 (List.mem_of_getElem? (i := 80) rfl)) rfl, List.mem_filter.mpr ⟨List.mem_append_left _ (List.mem_of_getElem? (i := 64) rfl), rfl⟩⟩
theorem mb_L_78 : kMB RL 78 2 mX7_knot := ⟨gT_of (tb_5 (List.mem_of_getElem? (i := 82) rfl)) rfl, gT_of (tb_1 (List.mem_of_getElem? (i := 11) rfl)) rfl, gT_of (tb_5 (List.mem_of_getElem? (i := 85) rfl)) rfl, ⟨by decide +kernel, by decide +kernel, by decide +kernel⟩, by decide⟩
theorem mv_L_78 : kMV RL 78 2 mX7_knot := ⟨mb_L_78, gT_of (tb_5 (List.mem_of_getElem? (i := 83) rfl)) rfl, gT_of (tb_5 (List.mem_of_getElem? (i := 84) rfl)) rfl⟩
theorem mb_L_83 : kMB RL 83 0 mX7_first := ⟨gT_of (tb_5 (List.mem_of_getElem? (i := 86) rfl)) rfl, gT_of (tb_1 (List.mem_of_getElem? (i := 11) rfl)) rfl, gT_of (tb_5 (List.mem_of_getElem? (i := 89) rfl)) rfl, ⟨by decide +kernel, by decide +kernel, by decide +kernel⟩, by decide⟩
theorem mv_L_83 : kMV RL 83 0 mX7_first := ⟨mb_L_83, gT_of (tb_5 (List.mem_of_getElem? (i := 87) rfl)) rfl, gT_of (tb_5 (List.mem_of_getElem? (i := 88) rfl)) rfl⟩
theorem mb_L_87 : kMB RL 87 3 mX7_cost := ⟨gT_of (tb_5 (List.mem_of_getElem? (i := 90) rfl)) rfl, gT_of (tb_1 (List.mem_of_getElem? (i := 11) rfl)) rfl, gT_of (tb_5 (List.mem_of_getElem? (i := 93) rfl)) rfl, ⟨by decide +kernel, by decide +kernel, by decide +kernel⟩, by decide⟩
theorem mv_L_87 : kMV RL 87 3 mX7_cost := ⟨mb_L_87, gT_of (tb_5 (List.mem_of_getElem? (i := 91) rfl)) rfl, gT_of (tb_5 (List.mem_of_getElem? (i := 92) rfl)) rfl⟩
theorem mb_X7_219 : kMB RX7 219 2 mX7_copyRing := ⟨gT_of (tb_5 (List.mem_of_getElem? (i := 95) rfl)) rfl, gT_of (tb_1 (List.mem_of_getElem? (i := 11) rfl)) rfl, gT_of (tb_5 (List.mem_of_getElem? (i := 98) rfl)) rfl, ⟨by decide +kernel, by decide +kernel, by decide +kernel⟩, by decide⟩
theorem mv_X7_219 : kMV RX7 219 2 mX7_copyRing := ⟨mb_X7_219, gT_of (tb_5 (List.mem_of_getElem? (i := 97) rfl)) rfl, List.mem_filter.mpr ⟨List.mem_append_left _ (List.mem_of_getElem? (i := 65) rfl), rfl⟩⟩
theorem mb_X7_222 : kMB RX7 222 2 mX7_wentAll := ⟨gT_of (tb_5 (List.mem_of_getElem? (i := 99) rfl)) rfl, gT_of (tb_1 (List.mem_of_getElem? (i := 11) rfl)) rfl, gT_of (tb_5 (List.mem_of_getElem? (i := 102) rfl)) rfl, ⟨by decide +kernel, by decide +kernel, by decide +kernel⟩, by decide⟩
theorem mv_X7_222 : kMV RX7 222 2 mX7_wentAll := ⟨mb_X7_222, gT_of (tb_5 (List.mem_of_getElem? (i := 101) rfl)) rfl, List.mem_filter.mpr ⟨List.mem_append_left _ (List.mem_of_getElem? (i := 66) rfl), rfl⟩⟩
theorem mb_L_91 : kMB RL 91 2 mX7_after := ⟨gT_of (tb_5 (List.mem_of_getElem? (i := 103) rfl)) rfl, gT_of (tb_1 (List.mem_of_getElem? (i := 11) rfl)) rfl, gT_of (tb_5 (List.mem_of_getElem? (i := 106) rfl)) rfl, ⟨by decide +kernel, by decide +kernel, by decide +kernel⟩, by decide⟩
theorem mv_L_91 : kMV RL 91 2 mX7_after := ⟨mb_L_91, gT_of (tb_5 (List.mem_of_getElem? (i := 104) rfl)) rfl, gT_of (tb_5 (List.mem_of_getElem? (i := 105) rfl)) rfl⟩
theorem mb_X7_225 : kMB RX7 225 3 mX7_knotsAfter := ⟨gT_of (tb_5 (List.mem_of_getElem? (i := 107) rfl)) rfl, gT_of (tb_1 (List.mem_of_getElem? (i := 11) rfl)) rfl, gT_of (tb_5 (List.mem_of_getElem? (i := 110) rfl)) rfl, ⟨by decide +kernel, by decide +kernel, by decide +kernel⟩, by decide⟩
theorem mv_X7_225 : kMV RX7 225 3 mX7_knotsAfter := ⟨mb_X7_225, gT_of (tb_5 (List.mem_of_getElem? (i := 109) rfl)) rfl, List.mem_filter.mpr ⟨List.mem_append_left _ (List.mem_of_getElem? (i := 67) rfl), rfl⟩⟩
theorem mb_L_95 : kMB RL 95 2 mX7_calmed := ⟨gT_of (tb_5 (List.mem_of_getElem? (i := 111) rfl)) rfl, gT_of (tb_1 (List.mem_of_getElem? (i := 11) rfl)) rfl, gT_of (tb_5 (List.mem_of_getElem? (i := 114) rfl)) rfl, ⟨by decide +kernel, by decide +kernel, by decide +kernel⟩, by decide⟩
theorem mv_L_95 : kMV RL 95 2 mX7_calmed := ⟨mb_L_95, gT_of (tb_5 (List.mem_of_getElem? (i := 112) rfl)) rfl, gT_of (tb_5 (List.mem_of_getElem? (i := 113) rfl)) rfl⟩
theorem mb_X7_228 : kMB RX7 228 1 mX7_bits := ⟨gT_of (tb_5 (List.mem_of_getElem? (i := 115) rfl)) rfl, gT_of (tb_1 (List.mem_of_getElem? (i := 11) rfl)) rfl, gT_of (tb_5 (List.mem_of_getElem? (i := 117) rfl)) rfl, ⟨by decide +kernel, by decide +kernel, by decide +kernel⟩, by decide⟩
theorem ms_X7_228 : kMS RX7 228 1 mX7_bits := ⟨mb_X7_228, gT_of (tb_5 (List.mem_of_getElem? (i := 116) rfl)) rfl⟩
theorem mb_L_99 : kMB RL 99 1 mX7_round := ⟨gT_of (tb_5 (List.mem_of_getElem? (i := 118) rfl)) rfl, gT_of (tb_1 (List.mem_of_getElem? (i := 11) rfl)) rfl, gT_of (tb_5 (List.mem_of_getElem? (i := 121) rfl)) rfl, ⟨by decide +kernel, by decide +kernel, by decide +kernel⟩, by decide⟩
theorem mv_L_99 : kMV RL 99 1 mX7_round := ⟨mb_L_99, gT_of (tb_5 (List.mem_of_getElem? (i := 119) rfl)) rfl, gT_of (tb_5 (List.mem_of_getElem? (i := 120) rfl)) rfl⟩
theorem mb_X7_234 : kMB RX7 234 0 mX7_isSame := ⟨gT_of (tb_5 (List.mem_of_getElem? (i := 123) rfl)) rfl, gT_of (tb_1 (List.mem_of_getElem? (i := 11) rfl)) rfl, gT_of (tb_5 (List.mem_of_getElem? (i := 126) rfl)) rfl, ⟨by decide +kernel, by decide +kernel, by decide +kernel⟩, by decide⟩
theorem mv_X7_234 : kMV RX7 234 0 mX7_isSame := ⟨mb_X7_234, gT_of (tb_5 (List.mem_of_getElem? (i := 125) rfl)) rfl, List.mem_filter.mpr ⟨List.mem_append_left _ (List.mem_of_getElem? (i := 68) rfl), rfl⟩⟩
theorem mb_L_103 : kMB RL 103 1 mX7_evens := ⟨gT_of (tb_5 (List.mem_of_getElem? (i := 127) rfl)) rfl, gT_of (tb_1 (List.mem_of_getElem? (i := 11) rfl)) rfl, gT_of (tb_5 (List.mem_of_getElem? (i := 130) rfl)) rfl, ⟨by decide +kernel, by decide +kernel, by decide +kernel⟩, by decide⟩
theorem mv_L_103 : kMV RL 103 1 mX7_evens := ⟨mb_L_103, gT_of (tb_5 (List.mem_of_getElem? (i := 128) rfl)) rfl, gT_of (tb_5 (List.mem_of_getElem? (i := 129) rfl)) rfl⟩
theorem mb_L_107 : kMB RL 107 1 mX7_image := ⟨gT_of (tb_5 (List.mem_of_getElem? (i := 131) rfl)) rfl, gT_of (tb_1 (List.mem_of_getElem? (i := 11) rfl)) rfl, gT_of (tb_5 (List.mem_of_getElem? (i := 134) rfl)) rfl, ⟨by decide +kernel, by decide +kernel, by decide +kernel⟩, by decide⟩
theorem mv_L_107 : kMV RL 107 1 mX7_image := ⟨mb_L_107, gT_of (tb_5 (List.mem_of_getElem? (i := 132) rfl)) rfl, gT_of (tb_5 (List.mem_of_getElem? (i := 133) rfl)) rfl⟩
theorem mb_L_111 : kMB RL 111 1 mX7_restore := ⟨gT_of (tb_5 (List.mem_of_getElem? (i := 135) rfl)) rfl, gT_of (tb_1 (List.mem_of_getElem? (i := 11) rfl)) rfl, gT_of (tb_5 (List.mem_of_getElem? (i := 138) rfl)) rfl, ⟨by decide +kernel, by decide +kernel, by decide +kernel⟩, by decide⟩
theorem mv_L_111 : kMV RL 111 1 mX7_restore := ⟨mb_L_111, gT_of (tb_5 (List.mem_of_getElem? (i := 136) rfl)) rfl, gT_of (tb_5 (List.mem_of_getElem? (i := 137) rfl)) rfl⟩
theorem mb_L_115 : kMB RL 115 3 mX7_paces := ⟨gT_of (tb_5 (List.mem_of_getElem? (i := 139) rfl)) rfl, gT_of (tb_1 (List.mem_of_getElem? (i := 11) rfl)) rfl, gT_of (tb_5 (List.mem_of_getElem? (i := 142) rfl)) rfl, ⟨by decide +kernel, by decide +kernel, by decide +kernel⟩, by decide⟩
theorem mv_L_115 : kMV RL 115 3 mX7_paces := ⟨mb_L_115, gT_of (tb_5 (List.mem_of_getElem? (i := 140) rfl)) rfl, gT_of (tb_5 (List.mem_of_getElem? (i := 141) rfl)) rfl⟩
theorem mb_X7_237 : kMB RX7 237 1 mX7_isSheet := ⟨gT_of (tb_5 (List.mem_of_getElem? (i := 143) rfl)) rfl, gT_of (tb_1 (List.mem_of_getElem? (i := 11) rfl)) rfl, gT_of (tb_5 (List.mem_of_getElem? (i := 145) rfl)) rfl, ⟨by decide +kernel, by decide +kernel, by decide +kernel⟩, by decide⟩
theorem ms_X7_237 : kMS RX7 237 1 mX7_isSheet := ⟨mb_X7_237, gT_of (tb_5 (List.mem_of_getElem? (i := 144) rfl)) rfl⟩
theorem mb_X7_240 : kMB RX7 240 4 mX7_row := ⟨gT_of (tb_5 (List.mem_of_getElem? (i := 146) rfl)) rfl, gT_of (tb_1 (List.mem_of_getElem? (i := 11) rfl)) rfl, gT_of (tb_5 (List.mem_of_getElem? (i := 149) rfl)) rfl, ⟨by decide +kernel, by decide +kernel, by decide +kernel⟩, by decide⟩
theorem mv_X7_240 : kMV RX7 240 4 mX7_row := ⟨mb_X7_240, gT_of (tb_5 (List.mem_of_getElem? (i := 148) rfl)) rfl, List.mem_filter.mpr ⟨List.mem_append_left _ (List.mem_of_getElem? (i := 69) rfl), rfl⟩⟩
theorem mb_L_119 : kMB RL 119 2 mX7_taps := ⟨gT_of (tb_5 (List.mem_of_getElem? (i := 150) rfl)) rfl, gT_of (tb_1 (List.mem_of_getElem? (i := 11) rfl)) rfl, gT_of (tb_5 (List.mem_of_getElem? (i := 153) rfl)) rfl, ⟨by decide +kernel, by decide +kernel, by decide +kernel⟩, by decide⟩
theorem mv_L_119 : kMV RL 119 2 mX7_taps := ⟨mb_L_119, gT_of (tb_5 (List.mem_of_getElem? (i := 151) rfl)) rfl, gT_of (tb_5 (List.mem_of_getElem? (i := 152) rfl)) rfl⟩
theorem mb_L_123 : kMB RL 123 3 mX7_sheet := ⟨gT_of (tb_5 (List.mem_of_getElem? (i := 154) rfl)) rfl, gT_of (tb_1 (List.mem_of_getElem? (i := 11) rfl)) rfl, gT_of (tb_5 (List.mem_of_getElem? (i := 157) rfl)) rfl, ⟨by decide +kernel, by decide +kernel, by decide +kernel⟩, by decide⟩
theorem mv_L_123 : kMV RL 123 3 mX7_sheet := ⟨mb_L_123, gT_of (tb_5 (List.mem_of_getElem? (i := 155) rfl)) rfl, gT_of (tb_5 (List.mem_of_getElem? (i := 156) rfl)) rfl⟩
theorem mb_L_127 : kMB RL 127 1 mX7_drop := ⟨gT_of (tb_5 (List.mem_of_getElem? (i := 158) rfl)) rfl, gT_of (tb_1 (List.mem_of_getElem? (i := 11) rfl)) rfl, gT_of (tb_5 (List.mem_of_getElem? (i := 161) rfl)) rfl, ⟨by decide +kernel, by decide +kernel, by decide +kernel⟩, by decide⟩
theorem mv_L_127 : kMV RL 127 1 mX7_drop := ⟨mb_L_127, gT_of (tb_5 (List.mem_of_getElem? (i := 159) rfl)) rfl, gT_of (tb_5 (List.mem_of_getElem? (i := 160) rfl)) rfl⟩
theorem mb_L_132 : kMB RL 132 4 mX7_item := ⟨gT_of (tb_5 (List.mem_of_getElem? (i := 162) rfl)) rfl, gT_of (tb_1 (List.mem_of_getElem? (i := 11) rfl)) rfl, gT_of (tb_5 (List.mem_of_getElem? (i := 165) rfl)) rfl, ⟨by decide +kernel, by decide +kernel, by decide +kernel⟩, by decide⟩
theorem mv_L_132 : kMV RL 132 4 mX7_item := ⟨mb_L_132, gT_of (tb_5 (List.mem_of_getElem? (i := 163) rfl)) rfl, gT_of (tb_5 (List.mem_of_getElem? (i := 164) rfl)) rfl⟩
theorem mb_L_137 : kMB RL 137 5 mX7_copy := ⟨gT_of (tb_5 (List.mem_of_getElem? (i := 166) rfl)) rfl, gT_of (tb_1 (List.mem_of_getElem? (i := 11) rfl)) rfl, gT_of (tb_5 (List.mem_of_getElem? (i := 169) rfl)) rfl, ⟨by decide +kernel, by decide +kernel, by decide +kernel⟩, by decide⟩
theorem mv_L_137 : kMV RL 137 5 mX7_copy := ⟨mb_L_137, gT_of (tb_5 (List.mem_of_getElem? (i := 167) rfl)) rfl, gT_of (tb_5 (List.mem_of_getElem? (i := 168) rfl)) rfl⟩
theorem it_L : Cond.initialized RL ∈ gT := gT_of (tb_1 (List.mem_of_getElem? (i := 0) rfl)) rfl
theorem it_X6 : Cond.initialized RX6 ∈ gT := gT_of (tb_1 (List.mem_of_getElem? (i := 1) rfl)) rfl
theorem it_X3 : Cond.initialized RX3 ∈ gT := gT_of (tb_1 (List.mem_of_getElem? (i := 2) rfl)) rfl
theorem it_X2 : Cond.initialized RX2 ∈ gT := gT_of (tb_1 (List.mem_of_getElem? (i := 3) rfl)) rfl
theorem it_X1 : Cond.initialized RX1 ∈ gT := gT_of (tb_1 (List.mem_of_getElem? (i := 4) rfl)) rfl
theorem it_J7 : Cond.initialized RJ7 ∈ gT := gT_of (tb_1 (List.mem_of_getElem? (i := 5) rfl)) rfl
theorem it_J9 : Cond.initialized RJ9 ∈ gT := gT_of (tb_1 (List.mem_of_getElem? (i := 6) rfl)) rfl
theorem it_J10 : Cond.initialized RJ10 ∈ gT := gT_of (tb_1 (List.mem_of_getElem? (i := 7) rfl)) rfl
theorem it_X4 : Cond.initialized RX4 ∈ gT := gT_of (tb_1 (List.mem_of_getElem? (i := 8) rfl)) rfl
theorem it_X0 : Cond.initialized RX0 ∈ gT := gT_of (tb_1 (List.mem_of_getElem? (i := 9) rfl)) rfl
theorem it_X5 : Cond.initialized RX5 ∈ gT := gT_of (tb_1 (List.mem_of_getElem? (i := 10) rfl)) rfl
theorem it_X7 : Cond.initialized RX7 ∈ gT := gT_of (tb_1 (List.mem_of_getElem? (i := 11) rfl)) rfl
theorem it_J6 : Cond.initialized RJ6 ∈ gT := gT_of (tb_1 (List.mem_of_getElem? (i := 12) rfl)) rfl
theorem cl_L_7 : Cond.classLink RL 7 RX6 ∈ gT := gT_of (tb_1 (List.mem_of_getElem? (i := 13) rfl)) rfl
theorem in_X6 : Cond.instantiable RX6 7 ∈ gT := gT_of (tb_1 (List.mem_of_getElem? (i := 14) rfl)) rfl
theorem lk_X6_3 : Cond.methodLink RX6 3 Lib.objectInit ∈ gT := gT_of (tb_1 (List.mem_of_getElem? (i := 18) rfl)) rfl
theorem cl_X6_9 : Cond.classLink RX6 9 RX3 ∈ gT := gT_of (tb_1 (List.mem_of_getElem? (i := 21) rfl)) rfl
theorem in_X3 : Cond.instantiable RX3 16 ∈ gT := gT_of (tb_1 (List.mem_of_getElem? (i := 22) rfl)) rfl
theorem lk_X3_3 : Cond.methodLink RX3 3 Lib.objectInit ∈ gT := gT_of (tb_1 (List.mem_of_getElem? (i := 26) rfl)) rfl
theorem ac_int : Cond.arrayClass .int ∈ gT := gT_of (tb_1 (List.mem_of_getElem? (i := 89) rfl)) rfl
theorem cl_X6_16 : Cond.classLink RX6 16 RX4 ∈ gT := gT_of (tb_1 (List.mem_of_getElem? (i := 90) rfl)) rfl
theorem cl_X6_26 : Cond.classLink RX6 26 RX2 ∈ gT := gT_of (tb_1 (List.mem_of_getElem? (i := 92) rfl)) rfl
theorem in_X2 : Cond.instantiable RX2 4 ∈ gT := gT_of (tb_1 (List.mem_of_getElem? (i := 93) rfl)) rfl
theorem lk_X2_3 : Cond.methodLink RX2 3 Lib.objectInit ∈ gT := gT_of (tb_1 (List.mem_of_getElem? (i := 97) rfl)) rfl
theorem ac_boolean : Cond.arrayClass .boolean ∈ gT := gT_of (tb_1 (List.mem_of_getElem? (i := 113) rfl)) rfl
theorem cl_X6_33 : Cond.classLink RX6 33 RX5 ∈ gT := gT_of (tb_1 (List.mem_of_getElem? (i := 114) rfl)) rfl
theorem cl_X6_39 : Cond.classLink RX6 39 RX1 ∈ gT := gT_of (tb_1 (List.mem_of_getElem? (i := 116) rfl)) rfl
theorem in_X1 : Cond.instantiable RX1 9 ∈ gT := gT_of (tb_1 (List.mem_of_getElem? (i := 117) rfl)) rfl
theorem lk_X1_3 : Cond.methodLink RX1 3 Lib.objectInit ∈ gT := gT_of (tb_1 (List.mem_of_getElem? (i := 121) rfl)) rfl
theorem lk_J7_316 : Cond.methodLink RJ7 316 ⟨"[I", "clone", "()Ljava/lang/Object;"⟩ ∈ gT := gT_of (tb_1 (List.mem_of_getElem? (i := 125) rfl)) rfl
theorem cl_J7_317 : Cond.classLink RJ7 317 "[I" ∈ gT := gT_of (tb_1 (List.mem_of_getElem? (i := 131) rfl)) rfl
theorem lk_J7_304 : Cond.methodLink RJ7 304 Lib.Math.min.name ∈ gT := gT_of (tb_1 (List.mem_of_getElem? (i := 132) rfl)) rfl
theorem lk_J7_150 : Cond.methodLink RJ7 150 arraycopyName ∈ gT := gT_of (tb_1 (List.mem_of_getElem? (i := 135) rfl)) rfl
theorem in_X4 : Cond.instantiable RX4 15 ∈ gT := gT_of (tb_1 (List.mem_of_getElem? (i := 167) rfl)) rfl
theorem lk_X4_3 : Cond.methodLink RX4 3 Lib.objectInit ∈ gT := gT_of (tb_1 (List.mem_of_getElem? (i := 171) rfl)) rfl
theorem cl_X4_33 : Cond.classLink RX4 33 RX0 ∈ gT := gT_of (tb_1 (List.mem_of_getElem? (i := 172) rfl)) rfl
theorem cl_X4_39 : Cond.classLink RX4 39 RX1 ∈ gT := gT_of (tb_1 (List.mem_of_getElem? (i := 174) rfl)) rfl
theorem in_X0 : Cond.instantiable RX0 16 ∈ gT := gT_of (tb_1 (List.mem_of_getElem? (i := 176) rfl)) rfl
theorem lk_X0_1 : Cond.methodLink RX0 1 Lib.objectInit ∈ gT := gT_of (tb_1 (List.mem_of_getElem? (i := 180) rfl)) rfl
theorem in_X5 : Cond.instantiable RX5 3 ∈ gT := gT_of (tb_2 (List.mem_of_getElem? (i := 75) rfl)) rfl
theorem lk_X5_3 : Cond.methodLink RX5 3 Lib.objectInit ∈ gT := gT_of (tb_2 (List.mem_of_getElem? (i := 79) rfl)) rfl
theorem lk_X3_112 : Cond.methodLink RX3 112 Lib.Math.min.name ∈ gT := gT_of (tb_2 (List.mem_of_getElem? (i := 196) rfl)) rfl
theorem cs_X6_191 : Cond.constant RX6 191 (99999) ∈ gT := gT_of (tb_3 (List.mem_of_getElem? (i := 55) rfl)) rfl
theorem lk_X0_61 : Cond.methodLink RX0 61 Lib.Math.max.name ∈ gT := gT_of (tb_3 (List.mem_of_getElem? (i := 80) rfl)) rfl
theorem lk_X4_156 : Cond.methodLink RX4 156 Lib.Math.min.name ∈ gT := gT_of (tb_3 (List.mem_of_getElem? (i := 104) rfl)) rfl
theorem lk_X0_86 : Cond.methodLink RX0 86 Lib.Math.min.name ∈ gT := gT_of (tb_3 (List.mem_of_getElem? (i := 109) rfl)) rfl
theorem cs_X6_211 : Cond.constant RX6 211 (-100001) ∈ gT := gT_of (tb_3 (List.mem_of_getElem? (i := 168) rfl)) rfl
theorem lk_X0_42 : Cond.methodLink RX0 42 arraycopyName ∈ gT := gT_of (tb_3 (List.mem_of_getElem? (i := 181) rfl)) rfl
theorem cs_J6_265 : Cond.constant RJ6 265 (1431655765) ∈ gT := gT_of (tb_3 (List.mem_of_getElem? (i := 201) rfl)) rfl
theorem cs_J6_266 : Cond.constant RJ6 266 (858993459) ∈ gT := gT_of (tb_3 (List.mem_of_getElem? (i := 202) rfl)) rfl
theorem cs_J6_267 : Cond.constant RJ6 267 (252645135) ∈ gT := gT_of (tb_3 (List.mem_of_getElem? (i := 203) rfl)) rfl
theorem lk_X6_259 : Cond.methodLink RX6 259 arraycopyName ∈ gT := gT_of (tb_4 (List.mem_of_getElem? (i := 44) rfl)) rfl
theorem cl_L_10 : Cond.classLink RL 10 RX7 ∈ gT := gT_of (tb_4 (List.mem_of_getElem? (i := 45) rfl)) rfl
theorem in_X7 : Cond.instantiable RX7 21 ∈ gT := gT_of (tb_4 (List.mem_of_getElem? (i := 46) rfl)) rfl
theorem lk_X7_1 : Cond.methodLink RX7 1 Lib.objectInit ∈ gT := gT_of (tb_4 (List.mem_of_getElem? (i := 50) rfl)) rfl
theorem cs_X7_68 : Cond.constantLong RX7 68 (12) ∈ gT := gT_of (tb_4 (List.mem_of_getElem? (i := 122) rfl)) rfl
theorem cs_X7_70 : Cond.constantLong RX7 70 (99) ∈ gT := gT_of (tb_4 (List.mem_of_getElem? (i := 123) rfl)) rfl
theorem cs_X7_72 : Cond.constantLong RX7 72 (9) ∈ gT := gT_of (tb_4 (List.mem_of_getElem? (i := 124) rfl)) rfl
theorem cs_X7_88 : Cond.constantLong RX7 88 (2) ∈ gT := gT_of (tb_4 (List.mem_of_getElem? (i := 156) rfl)) rfl
theorem cs_X7_90 : Cond.constantLong RX7 90 (3) ∈ gT := gT_of (tb_4 (List.mem_of_getElem? (i := 157) rfl)) rfl
theorem cs_X7_98 : Cond.constantLong RX7 98 (8) ∈ gT := gT_of (tb_4 (List.mem_of_getElem? (i := 182) rfl)) rfl
theorem cs_X7_100 : Cond.constantLong RX7 100 (255) ∈ gT := gT_of (tb_4 (List.mem_of_getElem? (i := 183) rfl)) rfl
theorem cs_X7_102 : Cond.constantLong RX7 102 (32) ∈ gT := gT_of (tb_4 (List.mem_of_getElem? (i := 184) rfl)) rfl
theorem cs_X7_104 : Cond.constantLong RX7 104 (126) ∈ gT := gT_of (tb_4 (List.mem_of_getElem? (i := 185) rfl)) rfl
theorem cs_X7_113 : Cond.constantLong RX7 113 (48) ∈ gT := gT_of (tb_4 (List.mem_of_getElem? (i := 210) rfl)) rfl
theorem cs_X7_115 : Cond.constantLong RX7 115 (57) ∈ gT := gT_of (tb_4 (List.mem_of_getElem? (i := 211) rfl)) rfl
theorem cs_X7_197 : Cond.constantLong RX7 197 (200) ∈ gT := gT_of (tb_5 (List.mem_of_getElem? (i := 28) rfl)) rfl
theorem cs_X7_199 : Cond.constant RX7 199 (99999) ∈ gT := gT_of (tb_5 (List.mem_of_getElem? (i := 29) rfl)) rfl
theorem cs_X7_218 : Cond.constant RX7 218 (-100001) ∈ gT := gT_of (tb_5 (List.mem_of_getElem? (i := 94) rfl)) rfl
theorem cs_X7_232 : Cond.constantLong RX7 232 (500) ∈ gT := gT_of (tb_5 (List.mem_of_getElem? (i := 122) rfl)) rfl
theorem cs_L_35 : Cond.constantLong RL 35 (4294967295) ∈ gT := gT_of (tb_5 (List.mem_of_getElem? (i := 170) rfl)) rfl
theorem ow_inst : Cond.instanceMethod Lib.objectInit ∈ gT := gT_of (tb_1 (List.mem_of_getElem? (i := 19) rfl)) rfl
theorem ow_code : Cond.code Lib.objectInit ⟨#[0xb1]⟩ 1 none ∈ gT := gT_of (tb_1 (List.mem_of_getElem? (i := 20) rfl)) rfl
theorem ow_maxs : Cond.static Lib.Math.max.name ∈ gT := gT_of (tb_3 (List.mem_of_getElem? (i := 81) rfl)) rfl
theorem ow_maxc : Cond.code Lib.Math.max.name Lib.Math.max.code 2 (some .int) ∈ gT := gT_of (tb_3 (List.mem_of_getElem? (i := 82) rfl)) rfl
theorem ow_mins : Cond.static Lib.Math.min.name ∈ gT := gT_of (tb_1 (List.mem_of_getElem? (i := 133) rfl)) rfl
theorem ow_minc : Cond.code Lib.Math.min.name Lib.Math.min.code 2 (some .int) ∈ gT := gT_of (tb_1 (List.mem_of_getElem? (i := 134) rfl)) rfl
theorem ow_acn : Cond.native arraycopyName ∈ gT := gT_of (tb_1 (List.mem_of_getElem? (i := 137) rfl)) rfl
theorem ow_acs : Cond.static arraycopyName ∈ gT := gT_of (tb_1 (List.mem_of_getElem? (i := 136) rfl)) rfl
theorem ow_cln : Cond.native ⟨"java/lang/Object", "clone", "()Ljava/lang/Object;"⟩ ∈ gT := gT_of (tb_1 (List.mem_of_getElem? (i := 127) rfl)) rfl
theorem ow_cli : Cond.instanceMethod ⟨"java/lang/Object", "clone", "()Ljava/lang/Object;"⟩ ∈ gT := gT_of (tb_1 (List.mem_of_getElem? (i := 128) rfl)) rfl
theorem ow_clm : Cond.sameMethod "[I" "java/lang/Object" "clone" "()Ljava/lang/Object;" ∈ gT := gT_of (tb_1 (List.mem_of_getElem? (i := 126) rfl)) rfl
theorem ow_cls : Cond.selects "[I" ⟨"[I", "clone", "()Ljava/lang/Object;"⟩ ⟨"java/lang/Object", "clone", "()Ljava/lang/Object;"⟩ ∈ gT := gT_of (tb_1 (List.mem_of_getElem? (i := 129) rfl)) rfl
end
