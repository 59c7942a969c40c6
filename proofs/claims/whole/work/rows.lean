section
-- ===== PART A: goes FIRST, ahead of the names: the tables' words, and 'selects' of the private methods out of them =====
/-- a private method of a class that the tables say can be made, by its rows of tables_1 -/
def lw_okq (q : MethodName × Nat) : Prop := (q.1.cls ≠ "java/lang/invoke/MethodHandle" ∧ q.1.cls ≠ "java/lang/invoke/VarHandle") ∧ Cond.instantiable q.1.cls q.2 ∈ tables_1 ∧ Cond.privateMethod q.1 ∈ tables_1 ∧ Cond.instanceMethod q.1 ∈ tables_1
theorem lw_p0 : lw_okq (⟨"BoundsPlanner", "putNumber", "(I)V"⟩, 5) := ⟨⟨by decide +kernel, by decide +kernel⟩, List.mem_of_getElem? (i := 29) (by decide +kernel), List.mem_of_getElem? (i := 60) (by decide +kernel), List.mem_of_getElem? (i := 61) (by decide +kernel)⟩
theorem lw_p1 : lw_okq (⟨"BoundsPlanner", "pathAt", "(II)LBoundsPlanner$Path;"⟩, 5) := ⟨⟨by decide +kernel, by decide +kernel⟩, List.mem_of_getElem? (i := 29) (by decide +kernel), List.mem_of_getElem? (i := 146) (by decide +kernel), List.mem_of_getElem? (i := 147) (by decide +kernel)⟩
theorem lw_p2 : lw_okq (⟨"BoundsPlanner", "takeTape", "(I)[B"⟩, 5) := ⟨⟨by decide +kernel, by decide +kernel⟩, List.mem_of_getElem? (i := 29) (by decide +kernel), List.mem_of_getElem? (i := 156) (by decide +kernel), List.mem_of_getElem? (i := 157) (by decide +kernel)⟩
theorem lw_p3 : lw_okq (⟨"BoundsPlanner$Reader", "readParts", "(LBoundsPlanner$Node;II)V"⟩, 4) := ⟨⟨by decide +kernel, by decide +kernel⟩, List.mem_of_getElem? (i := 154) (by decide +kernel), List.mem_of_getElem? (i := 360) (by decide +kernel), List.mem_of_getElem? (i := 361) (by decide +kernel)⟩
theorem lw_p4 : lw_okq (⟨"BoundsPlanner$Reader", "readNumber", "(II)J"⟩, 4) := ⟨⟨by decide +kernel, by decide +kernel⟩, List.mem_of_getElem? (i := 154) (by decide +kernel), List.mem_of_getElem? (i := 364) (by decide +kernel), List.mem_of_getElem? (i := 365) (by decide +kernel)⟩
theorem lw_p5 : lw_okq (⟨"BoundsPlanner$Reader", "readPart", "(II)LBoundsPlanner$Node;"⟩, 4) := ⟨⟨by decide +kernel, by decide +kernel⟩, List.mem_of_getElem? (i := 154) (by decide +kernel), List.mem_of_getElem? (i := 369) (by decide +kernel), List.mem_of_getElem? (i := 370) (by decide +kernel)⟩
theorem lw_p6 : lw_okq (⟨"java/util/ArrayList", "add", "(Ljava/lang/Object;[Ljava/lang/Object;I)V"⟩, 3) := ⟨⟨by decide +kernel, by decide +kernel⟩, List.mem_of_getElem? (i := 164) (by decide +kernel), List.mem_of_getElem? (i := 377) (by decide +kernel), List.mem_of_getElem? (i := 378) (by decide +kernel)⟩
theorem lw_p7 : lw_okq (⟨"java/util/ArrayList", "grow", "()[Ljava/lang/Object;"⟩, 3) := ⟨⟨by decide +kernel, by decide +kernel⟩, List.mem_of_getElem? (i := 164) (by decide +kernel), List.mem_of_getElem? (i := 381) (by decide +kernel), List.mem_of_getElem? (i := 382) (by decide +kernel)⟩
theorem lw_p8 : lw_okq (⟨"java/util/ArrayList", "grow", "(I)[Ljava/lang/Object;"⟩, 3) := ⟨⟨by decide +kernel, by decide +kernel⟩, List.mem_of_getElem? (i := 164) (by decide +kernel), List.mem_of_getElem? (i := 385) (by decide +kernel), List.mem_of_getElem? (i := 386) (by decide +kernel)⟩
theorem lw_p9 : lw_okq (⟨"BoundsPlanner$Reader", "readContent", "(LBoundsPlanner$Node;II)V"⟩, 4) := ⟨⟨by decide +kernel, by decide +kernel⟩, List.mem_of_getElem? (i := 154) (by decide +kernel), List.mem_of_getElem? (i := 425) (by decide +kernel), List.mem_of_getElem? (i := 426) (by decide +kernel)⟩
theorem lw_p10 : lw_okq (⟨"BoundsPlanner$Reader", "readText", "(LBoundsPlanner$Node;I)V"⟩, 4) := ⟨⟨by decide +kernel, by decide +kernel⟩, List.mem_of_getElem? (i := 154) (by decide +kernel), List.mem_of_getElem? (i := 429) (by decide +kernel), List.mem_of_getElem? (i := 430) (by decide +kernel)⟩
theorem lw_p11 : lw_okq (⟨"BoundsPlanner$Reader", "isNameDue", "(LBoundsPlanner$Node;LBoundsPlanner$Node;I)Z"⟩, 4) := ⟨⟨by decide +kernel, by decide +kernel⟩, List.mem_of_getElem? (i := 154) (by decide +kernel), List.mem_of_getElem? (i := 433) (by decide +kernel), List.mem_of_getElem? (i := 434) (by decide +kernel)⟩
theorem lw_p12 : lw_okq (⟨"BoundsPlanner$Reader", "hasRightTexts", "()Z"⟩, 4) := ⟨⟨by decide +kernel, by decide +kernel⟩, List.mem_of_getElem? (i := 154) (by decide +kernel), List.mem_of_getElem? (i := 445) (by decide +kernel), List.mem_of_getElem? (i := 446) (by decide +kernel)⟩
theorem lw_p13 : lw_okq (⟨"BoundsPlanner$Checker", "faultOfFilter", "(LBoundsPlanner$Node;I)I"⟩, 1) := ⟨⟨by decide +kernel, by decide +kernel⟩, List.mem_of_getElem? (i := 466) (by decide +kernel), List.mem_of_getElem? (i := 476) (by decide +kernel), List.mem_of_getElem? (i := 477) (by decide +kernel)⟩
theorem lw_p14 : lw_okq (⟨"BoundsPlanner$Checker", "faultOfPath", "(LBoundsPlanner$Node;I)I"⟩, 1) := ⟨⟨by decide +kernel, by decide +kernel⟩, List.mem_of_getElem? (i := 466) (by decide +kernel), List.mem_of_getElem? (i := 480) (by decide +kernel), List.mem_of_getElem? (i := 481) (by decide +kernel)⟩
theorem lw_p15 : lw_okq (⟨"BoundsPlanner$Checker", "faultOfCount", "(I)I"⟩, 1) := ⟨⟨by decide +kernel, by decide +kernel⟩, List.mem_of_getElem? (i := 466) (by decide +kernel), List.mem_of_getElem? (i := 490) (by decide +kernel), List.mem_of_getElem? (i := 491) (by decide +kernel)⟩
def lw_privs_1 : List (MethodName × Nat) := [(⟨"BoundsPlanner", "putNumber", "(I)V"⟩, 5), (⟨"BoundsPlanner", "pathAt", "(II)LBoundsPlanner$Path;"⟩, 5), (⟨"BoundsPlanner", "takeTape", "(I)[B"⟩, 5), (⟨"BoundsPlanner$Reader", "readParts", "(LBoundsPlanner$Node;II)V"⟩, 4), (⟨"BoundsPlanner$Reader", "readNumber", "(II)J"⟩, 4), (⟨"BoundsPlanner$Reader", "readPart", "(II)LBoundsPlanner$Node;"⟩, 4), (⟨"java/util/ArrayList", "add", "(Ljava/lang/Object;[Ljava/lang/Object;I)V"⟩, 3), (⟨"java/util/ArrayList", "grow", "()[Ljava/lang/Object;"⟩, 3), (⟨"java/util/ArrayList", "grow", "(I)[Ljava/lang/Object;"⟩, 3), (⟨"BoundsPlanner$Reader", "readContent", "(LBoundsPlanner$Node;II)V"⟩, 4), (⟨"BoundsPlanner$Reader", "readText", "(LBoundsPlanner$Node;I)V"⟩, 4), (⟨"BoundsPlanner$Reader", "isNameDue", "(LBoundsPlanner$Node;LBoundsPlanner$Node;I)Z"⟩, 4), (⟨"BoundsPlanner$Reader", "hasRightTexts", "()Z"⟩, 4), (⟨"BoundsPlanner$Checker", "faultOfFilter", "(LBoundsPlanner$Node;I)I"⟩, 1), (⟨"BoundsPlanner$Checker", "faultOfPath", "(LBoundsPlanner$Node;I)I"⟩, 1), (⟨"BoundsPlanner$Checker", "faultOfCount", "(I)I"⟩, 1)]
theorem lw_r1 : ∀ q ∈ lw_privs_1, lw_okq q := List.forall_mem_cons.mpr ⟨lw_p0, List.forall_mem_cons.mpr ⟨lw_p1, List.forall_mem_cons.mpr ⟨lw_p2, List.forall_mem_cons.mpr ⟨lw_p3, List.forall_mem_cons.mpr ⟨lw_p4, List.forall_mem_cons.mpr ⟨lw_p5, List.forall_mem_cons.mpr ⟨lw_p6, List.forall_mem_cons.mpr ⟨lw_p7, List.forall_mem_cons.mpr ⟨lw_p8, List.forall_mem_cons.mpr ⟨lw_p9, List.forall_mem_cons.mpr ⟨lw_p10, List.forall_mem_cons.mpr ⟨lw_p11, List.forall_mem_cons.mpr ⟨lw_p12, List.forall_mem_cons.mpr ⟨lw_p13, List.forall_mem_cons.mpr ⟨lw_p14, List.forall_mem_cons.mpr ⟨lw_p15, fun _ h => absurd h List.not_mem_nil⟩⟩⟩⟩⟩⟩⟩⟩⟩⟩⟩⟩⟩⟩⟩⟩
theorem lw_p16 : lw_okq (⟨"BoundsPlanner$Checker", "faultOfConditions", "(LBoundsPlanner$Node;I)I"⟩, 1) := ⟨⟨by decide +kernel, by decide +kernel⟩, List.mem_of_getElem? (i := 466) (by decide +kernel), List.mem_of_getElem? (i := 494) (by decide +kernel), List.mem_of_getElem? (i := 495) (by decide +kernel)⟩
theorem lw_p17 : lw_okq (⟨"BoundsPlanner$Checker", "faultOfCondition", "(LBoundsPlanner$Node;I)I"⟩, 1) := ⟨⟨by decide +kernel, by decide +kernel⟩, List.mem_of_getElem? (i := 466) (by decide +kernel), List.mem_of_getElem? (i := 498) (by decide +kernel), List.mem_of_getElem? (i := 499) (by decide +kernel)⟩
theorem lw_p18 : lw_okq (⟨"BoundsPlanner$Checker", "faultOfJoin", "(LBoundsPlanner$Node;I)I"⟩, 1) := ⟨⟨by decide +kernel, by decide +kernel⟩, List.mem_of_getElem? (i := 466) (by decide +kernel), List.mem_of_getElem? (i := 516) (by decide +kernel), List.mem_of_getElem? (i := 517) (by decide +kernel)⟩
theorem lw_p19 : lw_okq (⟨"java/util/ArrayList", "rangeCheckForAdd", "(I)V"⟩, 3) := ⟨⟨by decide +kernel, by decide +kernel⟩, List.mem_of_getElem? (i := 164) (by decide +kernel), List.mem_of_getElem? (i := 547) (by decide +kernel), List.mem_of_getElem? (i := 548) (by decide +kernel)⟩
theorem lw_p20 : lw_okq (⟨"BoundsPlanner$Filter", "gather", "(LBoundsPlanner$Node;I)V"⟩, 2) := ⟨⟨by decide +kernel, by decide +kernel⟩, List.mem_of_getElem? (i := 552) (by decide +kernel), List.mem_of_getElem? (i := 567) (by decide +kernel), List.mem_of_getElem? (i := 568) (by decide +kernel)⟩
theorem lw_p21 : lw_okq (⟨"BoundsPlanner$Filter", "addCondition", "(LBoundsPlanner$Node;LBoundsPlanner$Node;I)V"⟩, 2) := ⟨⟨by decide +kernel, by decide +kernel⟩, List.mem_of_getElem? (i := 552) (by decide +kernel), List.mem_of_getElem? (i := 573) (by decide +kernel), List.mem_of_getElem? (i := 574) (by decide +kernel)⟩
theorem lw_p22 : lw_okq (⟨"BoundsPlanner$Filter", "clauseOf", "([BII)LBoundsPlanner$Clause;"⟩, 2) := ⟨⟨by decide +kernel, by decide +kernel⟩, List.mem_of_getElem? (i := 552) (by decide +kernel), List.mem_of_getElem? (i := 668) (by decide +kernel), List.mem_of_getElem? (i := 669) (by decide +kernel)⟩
theorem lw_p23 : lw_okq (⟨"BoundsPlanner", "rankOf", "(ILBoundsPlanner$Filter;)I"⟩, 5) := ⟨⟨by decide +kernel, by decide +kernel⟩, List.mem_of_getElem? (i := 29) (by decide +kernel), List.mem_of_getElem? (i := 745) (by decide +kernel), List.mem_of_getElem? (i := 746) (by decide +kernel)⟩
theorem lw_p24 : lw_okq (⟨"BoundsPlanner", "rangesOf", "(II)I"⟩, 5) := ⟨⟨by decide +kernel, by decide +kernel⟩, List.mem_of_getElem? (i := 29) (by decide +kernel), List.mem_of_getElem? (i := 760) (by decide +kernel), List.mem_of_getElem? (i := 761) (by decide +kernel)⟩
theorem lw_p25 : lw_okq (⟨"BoundsPlannerModel", "put", "(I)V"⟩, 18) := ⟨⟨by decide +kernel, by decide +kernel⟩, List.mem_of_getElem? (i := 769) (by decide +kernel), List.mem_of_getElem? (i := 835) (by decide +kernel), List.mem_of_getElem? (i := 836) (by decide +kernel)⟩
theorem lw_p26 : lw_okq (⟨"BoundsPlannerModel", "isPath", "(II)Z"⟩, 18) := ⟨⟨by decide +kernel, by decide +kernel⟩, List.mem_of_getElem? (i := 769) (by decide +kernel), List.mem_of_getElem? (i := 843) (by decide +kernel), List.mem_of_getElem? (i := 844) (by decide +kernel)⟩
theorem lw_p27 : lw_okq (⟨"BoundsPlannerModel", "isText", "(II)Z"⟩, 18) := ⟨⟨by decide +kernel, by decide +kernel⟩, List.mem_of_getElem? (i := 769) (by decide +kernel), List.mem_of_getElem? (i := 847) (by decide +kernel), List.mem_of_getElem? (i := 848) (by decide +kernel)⟩
theorem lw_p28 : lw_okq (⟨"BoundsPlannerModel", "character", "(II)I"⟩, 18) := ⟨⟨by decide +kernel, by decide +kernel⟩, List.mem_of_getElem? (i := 769) (by decide +kernel), List.mem_of_getElem? (i := 851) (by decide +kernel), List.mem_of_getElem? (i := 852) (by decide +kernel)⟩
theorem lw_p29 : lw_okq (⟨"BoundsPlannerModel", "at", "(I)I"⟩, 18) := ⟨⟨by decide +kernel, by decide +kernel⟩, List.mem_of_getElem? (i := 769) (by decide +kernel), List.mem_of_getElem? (i := 855) (by decide +kernel), List.mem_of_getElem? (i := 856) (by decide +kernel)⟩
theorem lw_p30 : lw_okq (⟨"BoundsPlannerModel", "isDocument", "(I)Z"⟩, 18) := ⟨⟨by decide +kernel, by decide +kernel⟩, List.mem_of_getElem? (i := 769) (by decide +kernel), List.mem_of_getElem? (i := 871) (by decide +kernel), List.mem_of_getElem? (i := 872) (by decide +kernel)⟩
theorem lw_p31 : lw_okq (⟨"BoundsPlannerModel", "whole", "(I)I"⟩, 18) := ⟨⟨by decide +kernel, by decide +kernel⟩, List.mem_of_getElem? (i := 769) (by decide +kernel), List.mem_of_getElem? (i := 875) (by decide +kernel), List.mem_of_getElem? (i := 876) (by decide +kernel)⟩
def lw_privs_2 : List (MethodName × Nat) := [(⟨"BoundsPlanner$Checker", "faultOfConditions", "(LBoundsPlanner$Node;I)I"⟩, 1), (⟨"BoundsPlanner$Checker", "faultOfCondition", "(LBoundsPlanner$Node;I)I"⟩, 1), (⟨"BoundsPlanner$Checker", "faultOfJoin", "(LBoundsPlanner$Node;I)I"⟩, 1), (⟨"java/util/ArrayList", "rangeCheckForAdd", "(I)V"⟩, 3), (⟨"BoundsPlanner$Filter", "gather", "(LBoundsPlanner$Node;I)V"⟩, 2), (⟨"BoundsPlanner$Filter", "addCondition", "(LBoundsPlanner$Node;LBoundsPlanner$Node;I)V"⟩, 2), (⟨"BoundsPlanner$Filter", "clauseOf", "([BII)LBoundsPlanner$Clause;"⟩, 2), (⟨"BoundsPlanner", "rankOf", "(ILBoundsPlanner$Filter;)I"⟩, 5), (⟨"BoundsPlanner", "rangesOf", "(II)I"⟩, 5), (⟨"BoundsPlannerModel", "put", "(I)V"⟩, 18), (⟨"BoundsPlannerModel", "isPath", "(II)Z"⟩, 18), (⟨"BoundsPlannerModel", "isText", "(II)Z"⟩, 18), (⟨"BoundsPlannerModel", "character", "(II)I"⟩, 18), (⟨"BoundsPlannerModel", "at", "(I)I"⟩, 18), (⟨"BoundsPlannerModel", "isDocument", "(I)Z"⟩, 18), (⟨"BoundsPlannerModel", "whole", "(I)I"⟩, 18)]
theorem lw_r2 : ∀ q ∈ lw_privs_2, lw_okq q := List.forall_mem_cons.mpr ⟨lw_p16, List.forall_mem_cons.mpr ⟨lw_p17, List.forall_mem_cons.mpr ⟨lw_p18, List.forall_mem_cons.mpr ⟨lw_p19, List.forall_mem_cons.mpr ⟨lw_p20, List.forall_mem_cons.mpr ⟨lw_p21, List.forall_mem_cons.mpr ⟨lw_p22, List.forall_mem_cons.mpr ⟨lw_p23, List.forall_mem_cons.mpr ⟨lw_p24, List.forall_mem_cons.mpr ⟨lw_p25, List.forall_mem_cons.mpr ⟨lw_p26, List.forall_mem_cons.mpr ⟨lw_p27, List.forall_mem_cons.mpr ⟨lw_p28, List.forall_mem_cons.mpr ⟨lw_p29, List.forall_mem_cons.mpr ⟨lw_p30, List.forall_mem_cons.mpr ⟨lw_p31, fun _ h => absurd h List.not_mem_nil⟩⟩⟩⟩⟩⟩⟩⟩⟩⟩⟩⟩⟩⟩⟩⟩
theorem lw_p32 : lw_okq (⟨"BoundsPlannerModel", "isBox", "(IIIZ)Z"⟩, 18) := ⟨⟨by decide +kernel, by decide +kernel⟩, List.mem_of_getElem? (i := 769) (by decide +kernel), List.mem_of_getElem? (i := 881) (by decide +kernel), List.mem_of_getElem? (i := 882) (by decide +kernel)⟩
theorem lw_p33 : lw_okq (⟨"BoundsPlannerModel", "isName", "(IIIZI)Z"⟩, 18) := ⟨⟨by decide +kernel, by decide +kernel⟩, List.mem_of_getElem? (i := 769) (by decide +kernel), List.mem_of_getElem? (i := 885) (by decide +kernel), List.mem_of_getElem? (i := 886) (by decide +kernel)⟩
theorem lw_p34 : lw_okq (⟨"BoundsPlannerModel", "isAlike", "(II)Z"⟩, 18) := ⟨⟨by decide +kernel, by decide +kernel⟩, List.mem_of_getElem? (i := 769) (by decide +kernel), List.mem_of_getElem? (i := 889) (by decide +kernel), List.mem_of_getElem? (i := 890) (by decide +kernel)⟩
theorem lw_p35 : lw_okq (⟨"BoundsPlannerModel", "next", "(I)I"⟩, 18) := ⟨⟨by decide +kernel, by decide +kernel⟩, List.mem_of_getElem? (i := 769) (by decide +kernel), List.mem_of_getElem? (i := 893) (by decide +kernel), List.mem_of_getElem? (i := 894) (by decide +kernel)⟩
theorem lw_p36 : lw_okq (⟨"BoundsPlannerModel", "valueOf", "(I)I"⟩, 18) := ⟨⟨by decide +kernel, by decide +kernel⟩, List.mem_of_getElem? (i := 769) (by decide +kernel), List.mem_of_getElem? (i := 897) (by decide +kernel), List.mem_of_getElem? (i := 898) (by decide +kernel)⟩
theorem lw_p37 : lw_okq (⟨"BoundsPlannerModel", "nameEnd", "(I)I"⟩, 18) := ⟨⟨by decide +kernel, by decide +kernel⟩, List.mem_of_getElem? (i := 769) (by decide +kernel), List.mem_of_getElem? (i := 901) (by decide +kernel), List.mem_of_getElem? (i := 902) (by decide +kernel)⟩
theorem lw_p38 : lw_okq (⟨"BoundsPlannerModel", "behind", "(II)I"⟩, 18) := ⟨⟨by decide +kernel, by decide +kernel⟩, List.mem_of_getElem? (i := 769) (by decide +kernel), List.mem_of_getElem? (i := 905) (by decide +kernel), List.mem_of_getElem? (i := 906) (by decide +kernel)⟩
theorem lw_p39 : lw_okq (⟨"BoundsPlannerModel", "isValue", "(IIII)Z"⟩, 18) := ⟨⟨by decide +kernel, by decide +kernel⟩, List.mem_of_getElem? (i := 769) (by decide +kernel), List.mem_of_getElem? (i := 909) (by decide +kernel), List.mem_of_getElem? (i := 910) (by decide +kernel)⟩
theorem lw_p40 : lw_okq (⟨"BoundsPlannerModel", "lookFilter", "(I)V"⟩, 18) := ⟨⟨by decide +kernel, by decide +kernel⟩, List.mem_of_getElem? (i := 769) (by decide +kernel), List.mem_of_getElem? (i := 913) (by decide +kernel), List.mem_of_getElem? (i := 914) (by decide +kernel)⟩
theorem lw_p41 : lw_okq (⟨"BoundsPlannerModel", "last", "(I)I"⟩, 18) := ⟨⟨by decide +kernel, by decide +kernel⟩, List.mem_of_getElem? (i := 769) (by decide +kernel), List.mem_of_getElem? (i := 917) (by decide +kernel), List.mem_of_getElem? (i := 918) (by decide +kernel)⟩
theorem lw_p42 : lw_okq (⟨"BoundsPlannerModel", "lookJoin", "(I)V"⟩, 18) := ⟨⟨by decide +kernel, by decide +kernel⟩, List.mem_of_getElem? (i := 769) (by decide +kernel), List.mem_of_getElem? (i := 921) (by decide +kernel), List.mem_of_getElem? (i := 922) (by decide +kernel)⟩
theorem lw_p43 : lw_okq (⟨"BoundsPlannerModel", "isJoin", "(I)Z"⟩, 18) := ⟨⟨by decide +kernel, by decide +kernel⟩, List.mem_of_getElem? (i := 769) (by decide +kernel), List.mem_of_getElem? (i := 925) (by decide +kernel), List.mem_of_getElem? (i := 926) (by decide +kernel)⟩
theorem lw_p44 : lw_okq (⟨"BoundsPlannerModel", "isNamed", "(IJ)Z"⟩, 18) := ⟨⟨by decide +kernel, by decide +kernel⟩, List.mem_of_getElem? (i := 769) (by decide +kernel), List.mem_of_getElem? (i := 930) (by decide +kernel), List.mem_of_getElem? (i := 931) (by decide +kernel)⟩
theorem lw_p45 : lw_okq (⟨"BoundsPlannerModel", "fails", "(I)V"⟩, 18) := ⟨⟨by decide +kernel, by decide +kernel⟩, List.mem_of_getElem? (i := 769) (by decide +kernel), List.mem_of_getElem? (i := 937) (by decide +kernel), List.mem_of_getElem? (i := 938) (by decide +kernel)⟩
theorem lw_p46 : lw_okq (⟨"BoundsPlannerModel", "counts", "(I)V"⟩, 18) := ⟨⟨by decide +kernel, by decide +kernel⟩, List.mem_of_getElem? (i := 769) (by decide +kernel), List.mem_of_getElem? (i := 941) (by decide +kernel), List.mem_of_getElem? (i := 942) (by decide +kernel)⟩
theorem lw_p47 : lw_okq (⟨"BoundsPlannerModel", "lookPath", "(I)V"⟩, 18) := ⟨⟨by decide +kernel, by decide +kernel⟩, List.mem_of_getElem? (i := 769) (by decide +kernel), List.mem_of_getElem? (i := 945) (by decide +kernel), List.mem_of_getElem? (i := 946) (by decide +kernel)⟩
def lw_privs_3 : List (MethodName × Nat) := [(⟨"BoundsPlannerModel", "isBox", "(IIIZ)Z"⟩, 18), (⟨"BoundsPlannerModel", "isName", "(IIIZI)Z"⟩, 18), (⟨"BoundsPlannerModel", "isAlike", "(II)Z"⟩, 18), (⟨"BoundsPlannerModel", "next", "(I)I"⟩, 18), (⟨"BoundsPlannerModel", "valueOf", "(I)I"⟩, 18), (⟨"BoundsPlannerModel", "nameEnd", "(I)I"⟩, 18), (⟨"BoundsPlannerModel", "behind", "(II)I"⟩, 18), (⟨"BoundsPlannerModel", "isValue", "(IIII)Z"⟩, 18), (⟨"BoundsPlannerModel", "lookFilter", "(I)V"⟩, 18), (⟨"BoundsPlannerModel", "last", "(I)I"⟩, 18), (⟨"BoundsPlannerModel", "lookJoin", "(I)V"⟩, 18), (⟨"BoundsPlannerModel", "isJoin", "(I)Z"⟩, 18), (⟨"BoundsPlannerModel", "isNamed", "(IJ)Z"⟩, 18), (⟨"BoundsPlannerModel", "fails", "(I)V"⟩, 18), (⟨"BoundsPlannerModel", "counts", "(I)V"⟩, 18), (⟨"BoundsPlannerModel", "lookPath", "(I)V"⟩, 18)]
theorem lw_r3 : ∀ q ∈ lw_privs_3, lw_okq q := List.forall_mem_cons.mpr ⟨lw_p32, List.forall_mem_cons.mpr ⟨lw_p33, List.forall_mem_cons.mpr ⟨lw_p34, List.forall_mem_cons.mpr ⟨lw_p35, List.forall_mem_cons.mpr ⟨lw_p36, List.forall_mem_cons.mpr ⟨lw_p37, List.forall_mem_cons.mpr ⟨lw_p38, List.forall_mem_cons.mpr ⟨lw_p39, List.forall_mem_cons.mpr ⟨lw_p40, List.forall_mem_cons.mpr ⟨lw_p41, List.forall_mem_cons.mpr ⟨lw_p42, List.forall_mem_cons.mpr ⟨lw_p43, List.forall_mem_cons.mpr ⟨lw_p44, List.forall_mem_cons.mpr ⟨lw_p45, List.forall_mem_cons.mpr ⟨lw_p46, List.forall_mem_cons.mpr ⟨lw_p47, fun _ h => absurd h List.not_mem_nil⟩⟩⟩⟩⟩⟩⟩⟩⟩⟩⟩⟩⟩⟩⟩⟩
theorem lw_p48 : lw_okq (⟨"BoundsPlannerModel", "isConditions", "(I)Z"⟩, 18) := ⟨⟨by decide +kernel, by decide +kernel⟩, List.mem_of_getElem? (i := 769) (by decide +kernel), List.mem_of_getElem? (i := 949) (by decide +kernel), List.mem_of_getElem? (i := 950) (by decide +kernel)⟩
theorem lw_p49 : lw_okq (⟨"BoundsPlannerModel", "lookConditions", "(I)V"⟩, 18) := ⟨⟨by decide +kernel, by decide +kernel⟩, List.mem_of_getElem? (i := 769) (by decide +kernel), List.mem_of_getElem? (i := 953) (by decide +kernel), List.mem_of_getElem? (i := 954) (by decide +kernel)⟩
theorem lw_p50 : lw_okq (⟨"BoundsPlannerModel", "numberOf", "(I)I"⟩, 18) := ⟨⟨by decide +kernel, by decide +kernel⟩, List.mem_of_getElem? (i := 769) (by decide +kernel), List.mem_of_getElem? (i := 957) (by decide +kernel), List.mem_of_getElem? (i := 958) (by decide +kernel)⟩
theorem lw_p51 : lw_okq (⟨"BoundsPlannerModel", "longAt", "(II)J"⟩, 18) := ⟨⟨by decide +kernel, by decide +kernel⟩, List.mem_of_getElem? (i := 769) (by decide +kernel), List.mem_of_getElem? (i := 973) (by decide +kernel), List.mem_of_getElem? (i := 974) (by decide +kernel)⟩
theorem lw_p52 : lw_okq (⟨"BoundsPlannerModel", "isOfItems", "(I)Z"⟩, 18) := ⟨⟨by decide +kernel, by decide +kernel⟩, List.mem_of_getElem? (i := 769) (by decide +kernel), List.mem_of_getElem? (i := 979) (by decide +kernel), List.mem_of_getElem? (i := 980) (by decide +kernel)⟩
theorem lw_p53 : lw_okq (⟨"BoundsPlannerModel", "isPathOf", "(II)Z"⟩, 18) := ⟨⟨by decide +kernel, by decide +kernel⟩, List.mem_of_getElem? (i := 769) (by decide +kernel), List.mem_of_getElem? (i := 991) (by decide +kernel), List.mem_of_getElem? (i := 992) (by decide +kernel)⟩
theorem lw_p54 : lw_okq (⟨"BoundsPlannerModel", "find", "(II)Z"⟩, 18) := ⟨⟨by decide +kernel, by decide +kernel⟩, List.mem_of_getElem? (i := 769) (by decide +kernel), List.mem_of_getElem? (i := 995) (by decide +kernel), List.mem_of_getElem? (i := 996) (by decide +kernel)⟩
theorem lw_p55 : lw_okq (⟨"BoundsPlannerModel", "collect", "(III)V"⟩, 18) := ⟨⟨by decide +kernel, by decide +kernel⟩, List.mem_of_getElem? (i := 769) (by decide +kernel), List.mem_of_getElem? (i := 999) (by decide +kernel), List.mem_of_getElem? (i := 1000) (by decide +kernel)⟩
theorem lw_p56 : lw_okq (⟨"BoundsPlannerModel", "isPathName", "(III)Z"⟩, 18) := ⟨⟨by decide +kernel, by decide +kernel⟩, List.mem_of_getElem? (i := 769) (by decide +kernel), List.mem_of_getElem? (i := 1003) (by decide +kernel), List.mem_of_getElem? (i := 1004) (by decide +kernel)⟩
theorem lw_p57 : lw_okq (⟨"BoundsPlannerModel", "add", "(II)V"⟩, 18) := ⟨⟨by decide +kernel, by decide +kernel⟩, List.mem_of_getElem? (i := 769) (by decide +kernel), List.mem_of_getElem? (i := 1007) (by decide +kernel), List.mem_of_getElem? (i := 1008) (by decide +kernel)⟩
theorem lw_p58 : lw_okq (⟨"BoundsPlannerModel", "findOne", "()Z"⟩, 18) := ⟨⟨by decide +kernel, by decide +kernel⟩, List.mem_of_getElem? (i := 769) (by decide +kernel), List.mem_of_getElem? (i := 1011) (by decide +kernel), List.mem_of_getElem? (i := 1012) (by decide +kernel)⟩
theorem lw_p59 : lw_okq (⟨"BoundsPlannerModel", "bounds", "(IIII)Z"⟩, 18) := ⟨⟨by decide +kernel, by decide +kernel⟩, List.mem_of_getElem? (i := 769) (by decide +kernel), List.mem_of_getElem? (i := 1015) (by decide +kernel), List.mem_of_getElem? (i := 1016) (by decide +kernel)⟩
theorem lw_p60 : lw_okq (⟨"BoundsPlannerModel", "writeElem", "(IIII)Z"⟩, 18) := ⟨⟨by decide +kernel, by decide +kernel⟩, List.mem_of_getElem? (i := 769) (by decide +kernel), List.mem_of_getElem? (i := 1019) (by decide +kernel), List.mem_of_getElem? (i := 1020) (by decide +kernel)⟩
theorem lw_p61 : lw_okq (⟨"BoundsPlannerModel", "writeBounds", "(III)Z"⟩, 18) := ⟨⟨by decide +kernel, by decide +kernel⟩, List.mem_of_getElem? (i := 769) (by decide +kernel), List.mem_of_getElem? (i := 1023) (by decide +kernel), List.mem_of_getElem? (i := 1024) (by decide +kernel)⟩
theorem lw_p62 : lw_okq (⟨"BoundsPlannerModel", "writeItems", "(II)Z"⟩, 18) := ⟨⟨by decide +kernel, by decide +kernel⟩, List.mem_of_getElem? (i := 769) (by decide +kernel), List.mem_of_getElem? (i := 1027) (by decide +kernel), List.mem_of_getElem? (i := 1028) (by decide +kernel)⟩
theorem lw_p63 : lw_okq (⟨"BoundsPlannerModel", "field", "(III)I"⟩, 18) := ⟨⟨by decide +kernel, by decide +kernel⟩, List.mem_of_getElem? (i := 769) (by decide +kernel), List.mem_of_getElem? (i := 1031) (by decide +kernel), List.mem_of_getElem? (i := 1032) (by decide +kernel)⟩
def lw_privs_4 : List (MethodName × Nat) := [(⟨"BoundsPlannerModel", "isConditions", "(I)Z"⟩, 18), (⟨"BoundsPlannerModel", "lookConditions", "(I)V"⟩, 18), (⟨"BoundsPlannerModel", "numberOf", "(I)I"⟩, 18), (⟨"BoundsPlannerModel", "longAt", "(II)J"⟩, 18), (⟨"BoundsPlannerModel", "isOfItems", "(I)Z"⟩, 18), (⟨"BoundsPlannerModel", "isPathOf", "(II)Z"⟩, 18), (⟨"BoundsPlannerModel", "find", "(II)Z"⟩, 18), (⟨"BoundsPlannerModel", "collect", "(III)V"⟩, 18), (⟨"BoundsPlannerModel", "isPathName", "(III)Z"⟩, 18), (⟨"BoundsPlannerModel", "add", "(II)V"⟩, 18), (⟨"BoundsPlannerModel", "findOne", "()Z"⟩, 18), (⟨"BoundsPlannerModel", "bounds", "(IIII)Z"⟩, 18), (⟨"BoundsPlannerModel", "writeElem", "(IIII)Z"⟩, 18), (⟨"BoundsPlannerModel", "writeBounds", "(III)Z"⟩, 18), (⟨"BoundsPlannerModel", "writeItems", "(II)Z"⟩, 18), (⟨"BoundsPlannerModel", "field", "(III)I"⟩, 18)]
theorem lw_r4 : ∀ q ∈ lw_privs_4, lw_okq q := List.forall_mem_cons.mpr ⟨lw_p48, List.forall_mem_cons.mpr ⟨lw_p49, List.forall_mem_cons.mpr ⟨lw_p50, List.forall_mem_cons.mpr ⟨lw_p51, List.forall_mem_cons.mpr ⟨lw_p52, List.forall_mem_cons.mpr ⟨lw_p53, List.forall_mem_cons.mpr ⟨lw_p54, List.forall_mem_cons.mpr ⟨lw_p55, List.forall_mem_cons.mpr ⟨lw_p56, List.forall_mem_cons.mpr ⟨lw_p57, List.forall_mem_cons.mpr ⟨lw_p58, List.forall_mem_cons.mpr ⟨lw_p59, List.forall_mem_cons.mpr ⟨lw_p60, List.forall_mem_cons.mpr ⟨lw_p61, List.forall_mem_cons.mpr ⟨lw_p62, List.forall_mem_cons.mpr ⟨lw_p63, fun _ h => absurd h List.not_mem_nil⟩⟩⟩⟩⟩⟩⟩⟩⟩⟩⟩⟩⟩⟩⟩⟩
theorem lw_p64 : lw_okq (⟨"BoundsPlannerModel", "order", "(II)I"⟩, 18) := ⟨⟨by decide +kernel, by decide +kernel⟩, List.mem_of_getElem? (i := 769) (by decide +kernel), List.mem_of_getElem? (i := 1035) (by decide +kernel), List.mem_of_getElem? (i := 1036) (by decide +kernel)⟩
theorem lw_p65 : lw_okq (⟨"BoundsPlannerModel", "bytes", "(IIII)I"⟩, 18) := ⟨⟨by decide +kernel, by decide +kernel⟩, List.mem_of_getElem? (i := 769) (by decide +kernel), List.mem_of_getElem? (i := 1042) (by decide +kernel), List.mem_of_getElem? (i := 1043) (by decide +kernel)⟩
theorem lw_p66 : lw_okq (⟨"BoundsPlannerModel", "boxes", "(IIZ)I"⟩, 18) := ⟨⟨by decide +kernel, by decide +kernel⟩, List.mem_of_getElem? (i := 769) (by decide +kernel), List.mem_of_getElem? (i := 1046) (by decide +kernel), List.mem_of_getElem? (i := 1047) (by decide +kernel)⟩
theorem lw_p67 : lw_okq (⟨"BoundsPlannerModel", "writeValue", "(II)V"⟩, 18) := ⟨⟨by decide +kernel, by decide +kernel⟩, List.mem_of_getElem? (i := 769) (by decide +kernel), List.mem_of_getElem? (i := 1050) (by decide +kernel), List.mem_of_getElem? (i := 1051) (by decide +kernel)⟩
theorem lw_p68 : lw_okq (⟨"BoundsPlannerModel", "write", "(IIIIIIIII)V"⟩, 18) := ⟨⟨by decide +kernel, by decide +kernel⟩, List.mem_of_getElem? (i := 769) (by decide +kernel), List.mem_of_getElem? (i := 1054) (by decide +kernel), List.mem_of_getElem? (i := 1055) (by decide +kernel)⟩
theorem lw_p69 : lw_okq (⟨"BoundsPlannerModel", "meet", "(III)V"⟩, 18) := ⟨⟨by decide +kernel, by decide +kernel⟩, List.mem_of_getElem? (i := 769) (by decide +kernel), List.mem_of_getElem? (i := 1058) (by decide +kernel), List.mem_of_getElem? (i := 1059) (by decide +kernel)⟩
theorem lw_p70 : lw_okq (⟨"BoundsPlannerModel", "standing", "(IIIIII)I"⟩, 18) := ⟨⟨by decide +kernel, by decide +kernel⟩, List.mem_of_getElem? (i := 769) (by decide +kernel), List.mem_of_getElem? (i := 1062) (by decide +kernel), List.mem_of_getElem? (i := 1063) (by decide +kernel)⟩
theorem lw_p71 : lw_okq (⟨"BoundsPlannerModel", "copy", "(II)V"⟩, 18) := ⟨⟨by decide +kernel, by decide +kernel⟩, List.mem_of_getElem? (i := 769) (by decide +kernel), List.mem_of_getElem? (i := 1066) (by decide +kernel), List.mem_of_getElem? (i := 1067) (by decide +kernel)⟩
theorem lw_p72 : lw_okq (⟨"BoundsPlannerModel", "findAll", "()Z"⟩, 18) := ⟨⟨by decide +kernel, by decide +kernel⟩, List.mem_of_getElem? (i := 769) (by decide +kernel), List.mem_of_getElem? (i := 1070) (by decide +kernel), List.mem_of_getElem? (i := 1071) (by decide +kernel)⟩
theorem lw_p73 : lw_okq (⟨"BoundsPlannerModel", "save", "()V"⟩, 18) := ⟨⟨by decide +kernel, by decide +kernel⟩, List.mem_of_getElem? (i := 769) (by decide +kernel), List.mem_of_getElem? (i := 1074) (by decide +kernel), List.mem_of_getElem? (i := 1075) (by decide +kernel)⟩
theorem lw_p74 : lw_okq (⟨"BoundsPlannerModel", "load", "()V"⟩, 18) := ⟨⟨by decide +kernel, by decide +kernel⟩, List.mem_of_getElem? (i := 769) (by decide +kernel), List.mem_of_getElem? (i := 1078) (by decide +kernel), List.mem_of_getElem? (i := 1079) (by decide +kernel)⟩
theorem lw_p75 : lw_okq (⟨"BoundsPlannerModel", "isPoints", "()Z"⟩, 18) := ⟨⟨by decide +kernel, by decide +kernel⟩, List.mem_of_getElem? (i := 769) (by decide +kernel), List.mem_of_getElem? (i := 1094) (by decide +kernel), List.mem_of_getElem? (i := 1095) (by decide +kernel)⟩
def lw_privs_5 : List (MethodName × Nat) := [(⟨"BoundsPlannerModel", "order", "(II)I"⟩, 18), (⟨"BoundsPlannerModel", "bytes", "(IIII)I"⟩, 18), (⟨"BoundsPlannerModel", "boxes", "(IIZ)I"⟩, 18), (⟨"BoundsPlannerModel", "writeValue", "(II)V"⟩, 18), (⟨"BoundsPlannerModel", "write", "(IIIIIIIII)V"⟩, 18), (⟨"BoundsPlannerModel", "meet", "(III)V"⟩, 18), (⟨"BoundsPlannerModel", "standing", "(IIIIII)I"⟩, 18), (⟨"BoundsPlannerModel", "copy", "(II)V"⟩, 18), (⟨"BoundsPlannerModel", "findAll", "()Z"⟩, 18), (⟨"BoundsPlannerModel", "save", "()V"⟩, 18), (⟨"BoundsPlannerModel", "load", "()V"⟩, 18), (⟨"BoundsPlannerModel", "isPoints", "()Z"⟩, 18)]
theorem lw_r5 : ∀ q ∈ lw_privs_5, lw_okq q := List.forall_mem_cons.mpr ⟨lw_p64, List.forall_mem_cons.mpr ⟨lw_p65, List.forall_mem_cons.mpr ⟨lw_p66, List.forall_mem_cons.mpr ⟨lw_p67, List.forall_mem_cons.mpr ⟨lw_p68, List.forall_mem_cons.mpr ⟨lw_p69, List.forall_mem_cons.mpr ⟨lw_p70, List.forall_mem_cons.mpr ⟨lw_p71, List.forall_mem_cons.mpr ⟨lw_p72, List.forall_mem_cons.mpr ⟨lw_p73, List.forall_mem_cons.mpr ⟨lw_p74, List.forall_mem_cons.mpr ⟨lw_p75, fun _ h => absurd h List.not_mem_nil⟩⟩⟩⟩⟩⟩⟩⟩⟩⟩⟩⟩
def lw_privs : List (MethodName × Nat) := lw_privs_1 ++ (lw_privs_2 ++ (lw_privs_3 ++ (lw_privs_4 ++ (lw_privs_5))))
def lw_tbl : List Cond := k2_sels lw_privs ++ tables_1
theorem lw_privs_ok : ∀ q ∈ lw_privs, lw_okq q := by
  show ∀ q ∈ lw_privs_1 ++ (lw_privs_2 ++ (lw_privs_3 ++ (lw_privs_4 ++ (lw_privs_5)))), lw_okq q
  exact List.forall_mem_append.mpr ⟨lw_r1, List.forall_mem_append.mpr ⟨lw_r2, List.forall_mem_append.mpr ⟨lw_r3, List.forall_mem_append.mpr ⟨lw_r4, lw_r5⟩⟩⟩⟩
-- ===== end of PART A; then your names; then what follows =====
end
section
/-! THE CLAIM OUT OF ONE WALK OF THE LAW'S BODY. Your part is whole_start (and what it stands on); all else here is the same for every law, but numbers. -/
def R_law : String := "BoundsPlannerLaw"
def lw_P (b : Addr) (xs : List Int32) (args : Array Value) (s : State) : Prop := args = #[.ref b] ∧ s.IntsAt b xs ∧ xs.length ≤ 3072 ∧ (Jvm.Cond.and given_1 narrow_1).before args s = true
def lw_Q (_ : Array Value) (s : State) (o : Outcome) (t : State) : Prop := o = .returned (some (.int 1)) ∧ Framed s o t [] 600000 7302250
def lw_Z (below : List Frame) (a : Array Value) (s : State) : State → Prop := fun t => ∃ o, t.status = .running ∧ Ended t below o ∧ lw_Q a s o t
/-- the law's own end, with 1 on the stack, nothing written that was there before, its room as the claim has it -/
theorem lw_ret {p : Program} {l : Launch} {e : Env} {s : State} {m : MethodId} {below : List Frame} {meth : Method} {c : Code} {b : Nat} (hx : p.tables.exec = Jvm.exec) (hb : c.code = code) (hr : meth.sig.returnType = ret) (hlocks : meth.locks = false) {pc : Nat} {H : Heap} {ls : Array Slot} (hdg : decode code pc = .ok (.ireturn, 1)) : W p l e room_1 s m #[Value.ref b] below meth c H [] 600000 7302250 (lw_Z below #[Value.ref b] s) (F0 m pc ls [.int 1]) := by
  intro T hT X
  obtain ⟨fs, hret, hrun, hended, hW, hframe⟩ := X.leave (v := some (.int 1)) (hlocks := hlocks) (fun h => by rw [hr] at h; cases h)
  have hmeth' : T.vm.method? m = some meth := X.method'
  refine ⟨T.setFrames fs, ?_, .returned (some (.int 1)), hrun, hended, rfl, ⟨_, rfl⟩, hW, hframe⟩
  jvm_step X.here [X.here.top, hx, hb, hdg, hmeth', hr, ret, narrow_b1]
  (try refine ⟨rfl, ?_⟩); (try refine ⟨rfl, ?_⟩)
  first | (intro acts; rw [hret _ acts rfl rfl rfl]) | rw [hret _ _ rfl rfl rfl]
  exact Steps.refl _
/-- what holds at the law's entry: the machine, the code, the tables' words (any of lw_tbl by 'hts w (by decide +kernel)'), the script of L ints xs at the cell b, what the Statement gives of the start (any of its parts by flat_of_before) -/
def lw_At (p : Program) (s : State) (m : MethodId) (meth : Method) (c : Code) (b L : Nat) (xs : Nat → Int32) : Prop :=
  p.tables.exec = Jvm.exec ∧ c.code = code ∧ meth.sig.returnType = ret ∧ c.maxLocals = 4 ∧ s.vm.findClass R_law = some m.cls ∧ (∀ w ∈ lw_tbl, w.before #[Value.ref b] s = true) ∧ va_X b L xs s s.heap ∧ b < s.heap.size ∧ meth.locks = false ∧ (Jvm.Cond.and given_1 narrow_1).before #[Value.ref b] s = true
end
section
/-! PRINTED by wip/whole/tool/gen.py: the methods as blocks -/
def mm_defs (c : Nat) : List Value := match c with
  | 0 => [.null, .null, .int 0, .null, .null]
  | 1 => [.int 0, .null, .int 0, .null, .null]
  | 2 => [.null, .null, .int 0, .int 0]
  | 3 => [.null, .int 0, .int 0]
  | 4 => [.null, .int 0, .int 0, .int 0, .int 0, .int 0, .int 0, .int 0, .long 0, .null, .null, .int 0]
  | 5 => [.int 0]
  | 6 => [.int 0, .null, .int 0, .int 0, .int 0]
  | 7 => [.null, .null]
  | 8 => [.null, .null, .null, .int 0]
  | 9 => [.null, .null]
  | 10 => [.int 0, .null, .int 0, .int 0, .int 0, .null, .null, .null, .null, .int 0, .int 0, .int 0, .null, .null, .null, .null, .int 0, .null]
  | _ => []
end
section
/-! A SMALL MACHINE: the methods' instructions, cut into blocks, over a heap of cells; what it does, the JVM does (mm_sound). -/
abbrev mmC : Type := (Nat × vp_A) ⊕ (Nat × List Value)
/-- next address, slots made so far, the cells -/
abbrev mmH : Type := Nat × Nat × (Nat → Option mmC)
/-- cells that were there before: arrays (kind, length, contents), objects (fields) -/
abbrev mmZ : Type := (Nat × Nat × (Nat → Int32)) ⊕ (Nat → Value)
/-- where the new cells begin, the constants, the old cells (0 arrays, 1 objects) -/
abbrev mmE : Type := Nat × (Nat → Value) × (Nat → Nat → Option mmZ)
/-- pc, instruction, what it is linked to -/
abbrev mmI : Type := Nat × Instr × List Nat
/-- stuck; goes on; branch; jump; return; call -/
abbrev mmO : Type := Unit ⊕ (List Value × List Value × mmH) ⊕ (Bool × Nat × List Value) ⊕ (Nat × List Value) ⊕ (Option Value) ⊕ (Nat × List Value × List Value)
def mm_bad : mmO := .inl ()
def mm_nx (L S : List Value) (h : mmH) : mmO := .inr (.inl (L, S, h))
def mm_br (c : Bool) (b : Nat) (S : List Value) : mmO := .inr (.inr (.inl (c, b, S)))
def mm_jp (b : Nat) (S : List Value) : mmO := .inr (.inr (.inr (.inl (b, S))))
def mm_rt (v : Option Value) : mmO := .inr (.inr (.inr (.inr (.inl v))))
def mm_cl (c : Nat) (as r : List Value) : mmO := .inr (.inr (.inr (.inr (.inr (c, as, r)))))
abbrev mm_un : Value := .retAddr 0
def mm_set (h : mmH) (a : Nat) (c : mmC) : mmH := (h.1, h.2.1, va_up h.2.2 a (some c))
def mm_new (h : mmH) (n : Nat) (c : mmC) : mmH := (h.1 + 1, h.2.1 + n, va_up h.2.2 h.1 (some c))
def mm_wide (v : Value) : Bool := match v with
  | .long _ => true
  | .double _ => true
  | _ => false
/-- a store into a local: a long that stood with its second half there is gone -/
def mm_clr (L : List Value) (i : Nat) : List Value := match i with
  | 0 => L
  | j + 1 => match L[j]? with
    | some v => if mm_wide v then L.set j mm_un else L
    | none => L
def mm_st1 (L : List Value) (i : Nat) (v : Value) : List Value := (mm_clr L i).set i v
def mm_st2 (L : List Value) (i : Nat) (v : Value) : List Value := ((mm_clr L i).set i v).set (i + 1) mm_un
def mm_lay : List Value → List Value
  | [] => []
  | v :: vs => if mm_wide v then v :: mm_un :: mm_lay vs else v :: mm_lay vs
def mm_ent (n : Nat) (as : List Value) : List Value := mm_lay as ++ List.replicate (n - (mm_lay as).length) mm_un
def mm_ref (v : Value) : Bool := match v with
  | .null => true
  | .ref _ => true
  | _ => false
/-- what may be stored in a field, or returned: 0 int, 1 boolean, 2 long, 3 a reference, 4 byte, 5 char -/
def mm_fit (t : Nat) (v : Value) : Bool := match v with
  | .int x => match t with
    | 0 => true
    | 1 => decide (x = 0) || decide (x = 1)
    | 4 => decide (x.toInt8.toInt32 = x)
    | 5 => decide ((x.toUInt32 % 65536).toInt32 = x)
    | _ => false
  | .long _ => match t with
    | 2 => true
    | _ => false
  | .null => match t with
    | 3 => true
    | _ => false
  | .ref _ => match t with
    | 3 => true
    | _ => false
  | _ => false
def mm_vref (r : Option Nat) : Value := va_rf r
def mm_oref (v : Value) : Option (Option Nat) := match v with
  | .null => some none
  | .ref a => some (some a)
  | _ => none
def mm_k0 (ex : List Nat) : Nat := ex.getD 0 0
def mm_k1 (ex : List Nat) : Nat := ex.getD 1 0
def mm_k2 (ex : List Nat) : Nat := ex.getD 2 0
def mm_k3 (ex : List Nat) : Nat := ex.getD 3 0
def mm_ii (S : List Value) (f : Int32 → Int32 → List Value → mmO) : mmO := match S with
  | .int y :: .int x :: r => f x y r
  | _ => mm_bad
def mm_ll (S : List Value) (f : Int64 → Int64 → List Value → mmO) : mmO := match S with
  | .long y :: .long x :: r => f x y r
  | _ => mm_bad
def mm_li (S : List Value) (f : Int64 → Int32 → List Value → mmO) : mmO := match S with
  | .int y :: .long x :: r => f x y r
  | _ => mm_bad
def mm_i (S : List Value) (f : Int32 → List Value → mmO) : mmO := match S with
  | .int x :: r => f x r
  | _ => mm_bad
def mm_l (S : List Value) (f : Int64 → List Value → mmO) : mmO := match S with
  | .long x :: r => f x r
  | _ => mm_bad
def mm_a (S : List Value) (f : Nat → List Value → mmO) : mmO := match S with
  | .ref x :: r => f x r
  | _ => mm_bad
def mm_ia (S : List Value) (f : Int32 → Nat → List Value → mmO) : mmO := match S with
  | .int i :: .ref a :: r => f i a r
  | _ => mm_bad
def mm_in (i : Int32) (n : Nat) : Bool := decide (¬ (i < 0 ∨ n ≤ i.toNatClampNeg))
def mm_ld (L S : List Value) (h : mmH) (i : Nat) (t : Nat) : mmO := match L[i]? with
  | some (.int x) => if t = 0 then mm_nx L (.int x :: S) h else mm_bad
  | some (.long x) => if t = 2 then mm_nx L (.long x :: S) h else mm_bad
  | some .null => if t = 3 then mm_nx L (.null :: S) h else mm_bad
  | some (.ref a) => if t = 3 then mm_nx L (.ref a :: S) h else mm_bad
  | _ => mm_bad
def mm_sto (L S : List Value) (h : mmH) (i : Nat) (t : Nat) : mmO := match S with
  | .int x :: r => if t = 0 ∧ i < L.length then mm_nx (mm_st1 L i (.int x)) r h else mm_bad
  | .long x :: r => if t = 2 ∧ i + 1 < L.length then mm_nx (mm_st2 L i (.long x)) r h else mm_bad
  | .null :: r => if t = 3 ∧ i < L.length then mm_nx (mm_st1 L i .null) r h else mm_bad
  | .ref a :: r => if t = 3 ∧ i < L.length then mm_nx (mm_st1 L i (.ref a)) r h else mm_bad
  | _ => mm_bad
def mm_con (c : ClassFile.Cond) (x y : Int32) : Bool := match c with
  | .eq => decide (x = y)
  | .ne => decide (¬ x = y)
  | .lt => decide (x < y)
  | .ge => decide (y ≤ x)
  | .gt => decide (y < x)
  | .le => decide (x ≤ y)
def mm_acm (c : ClassFile.ACond) (x y : Option Nat) : Bool := match c with
  | .eq => decide (x = y)
  | .ne => decide (¬ x = y)
def mm_sw (d : Nat) (lo : Int) (bs : List Nat) (x : Int32) : Nat := if x.toInt < lo then d else bs.getD (x.toInt - lo).toNat d
end
section
/-- an array of ints, bytes or booleans: its kind (0 byte, 1 int, 2 boolean, 3 of references), length, contents; new or old -/
def mm_aI (E : mmE) (h : mmH) (a : Nat) : Option (Nat × Nat × (Nat → Int32)) := match h.2.2 a with
  | some (.inl (t, n, .inl f)) => some (t, n, f)
  | some _ => none
  | none => match E.2.2 0 a with
    | some (.inl x) => some x
    | _ => none
def mm_len (E : mmE) (h : mmH) (a : Nat) : Option Nat := match h.2.2 a with
  | some (.inl (_, n, _)) => some n
  | some (.inr _) => none
  | none => match E.2.2 0 a with
    | some (.inl (_, n, _)) => some n
    | _ => none
/-- what a store into an array of that kind keeps of a number -/
def mm_nar (t : Nat) (x : Int32) : Int32 := match t with
  | 0 => vp_nar .byte x
  | 2 => vp_nar .boolean x
  | _ => x
def mm_sum (S : List Value) : Nat := (S.map fun v => v.category).sum
/-- may an object stand in an array of references of that kind (3 Object, 4 Path: class 1) -/
def mm_may (h : mmH) (t b : Nat) : Bool := match h.2.2 b with
  | some (.inr (ci, _)) => (t == 3 && ci != 3) || (t == 4 && ci == 1)
  | _ => false
def mm_rcv (E : mmE) (h : mmH) (rk : Nat) (v : Option Value) : Bool := match v with
  | some (.ref b) => if rk = 100 then (match E.2.2 1 b with
      | some (.inr _) => decide (b < E.1)
      | _ => false) else (match h.2.2 b with
      | some (.inr (ci, _)) => ci + 1 == rk
      | _ => false)
  | _ => false
def mm_call (E : mmE) (L S : List Value) (h : mmH) (ex : List Nat) : mmO :=
  if mm_k1 ex ≤ S.length ∧ mm_sum (S.drop (mm_k1 ex)) ≤ 8 ∧ (mm_k2 ex = 0 ∨ mm_rcv E h (mm_k2 ex) (S[mm_k1 ex - 1]?) = true) then mm_cl (mm_k0 ex) (S.take (mm_k1 ex)).reverse (S.drop (mm_k1 ex)) else mm_bad
/-- System.arraycopy between two new arrays of one kind -/
def mm_copy (L S : List Value) (h : mmH) : mmO := match S with
  | .int n :: .int dp :: .ref a :: .int sp :: .ref b :: r => match h.2.2 b, h.2.2 a with
    | some (.inl (t0, n0, .inl f)), some (.inl (t1, n1, .inl g)) =>
      if ¬ sp < 0 ∧ ¬ dp < 0 ∧ ¬ n < 0 ∧ t0 = t1 ∧ t0 < 2 ∧ sp.toNatClampNeg + n.toNatClampNeg ≤ n0 ∧ dp.toNatClampNeg + n.toNatClampNeg ≤ n1 ∧ mm_sum r ≤ 8 then
        mm_nx L r (mm_set h a (.inl (t1, n1, .inl (va_cpy f g sp.toNatClampNeg dp.toNatClampNeg n.toNatClampNeg)))) else mm_bad
    | some (.inl (t0, n0, .inr (.inr (.inr (.inr f))))), some (.inl (t1, n1, .inr (.inr (.inr (.inr g))))) =>
      if ¬ sp < 0 ∧ ¬ dp < 0 ∧ ¬ n < 0 ∧ t0 = 3 ∧ t1 = 3 ∧ sp.toNatClampNeg + n.toNatClampNeg ≤ n0 ∧ dp.toNatClampNeg + n.toNatClampNeg ≤ n1 ∧ mm_sum r ≤ 8 then
        mm_nx L r (mm_set h a (.inl (t1, n1, .inr (.inr (.inr (.inr (va_cpy f g sp.toNatClampNeg dp.toNatClampNeg n.toNatClampNeg))))))) else mm_bad
    | _, _ => mm_bad
  | _ => mm_bad
def mm_step (E : mmE) (L S : List Value) (h : mmH) (ins : Instr) (ex : List Nat) : mmO := match ins with
  | .nop => mm_jp (mm_k0 ex) S
  | .aconst_null => mm_nx L (.null :: S) h
  | .iconst n => mm_nx L (.int (Int32.ofInt n) :: S) h
  | .lconst n => mm_nx L (.long (Int64.ofNat n.val) :: S) h
  | .bipush n => mm_nx L (.int (Int8.ofInt n).toInt32 :: S) h
  | .sipush n => mm_nx L (.int (Int16.ofInt n).toInt32 :: S) h
  | .ldc _ => if mm_k0 ex = 0 then mm_nx L (.int (Int32.ofNat (mm_k1 ex)) :: S) h else mm_nx L (E.2.1 (mm_k1 ex) :: S) h
  | .ldc2_w _ => mm_nx L (.long (Int64.ofNat (mm_k0 ex)) :: S) h
  | .getstatic _ => mm_nx L (E.2.1 (mm_k0 ex) :: S) h
  | .iload i => mm_ld L S h i 0
  | .iload_n i => mm_ld L S h i.val 0
  | .lload i => mm_ld L S h i 2
  | .lload_n i => mm_ld L S h i.val 2
  | .aload i => mm_ld L S h i 3
  | .aload_n i => mm_ld L S h i.val 3
  | .istore i => mm_sto L S h i 0
  | .istore_n i => mm_sto L S h i.val 0
  | .lstore i => mm_sto L S h i 2
  | .lstore_n i => mm_sto L S h i.val 2
  | .astore i => mm_sto L S h i 3
  | .astore_n i => mm_sto L S h i.val 3
  | .iinc i n => match L[i]? with
    | some (.int x) => mm_nx (mm_st1 L i (.int (x + Int32.ofInt n))) S h
    | _ => mm_bad
  | .pop => match S with
    | v :: r => if mm_wide v then mm_bad else mm_nx L r h
    | _ => mm_bad
  | .dup => match S with
    | v :: r => if mm_wide v then mm_bad else mm_nx L (v :: v :: r) h
    | _ => mm_bad
  | .dup_x1 => match S with
    | v :: w :: r => if mm_wide v || mm_wide w then mm_bad else mm_nx L (v :: w :: v :: r) h
    | _ => mm_bad
  | .dup2 => match S with
    | v :: w :: r => if mm_wide v || mm_wide w then mm_bad else mm_nx L (v :: w :: v :: w :: r) h
    | _ => mm_bad
  | .iadd => mm_ii S fun x y r => mm_nx L (.int (x + y) :: r) h
  | .isub => mm_ii S fun x y r => mm_nx L (.int (x - y) :: r) h
  | .imul => mm_ii S fun x y r => mm_nx L (.int (x * y) :: r) h
  | .idiv => mm_ii S fun x y r => if y = 0 then mm_bad else mm_nx L (.int (x / y) :: r) h
  | .irem => mm_ii S fun x y r => if y = 0 then mm_bad else mm_nx L (.int (x - x / y * y) :: r) h
  | .iand => mm_ii S fun x y r => mm_nx L (.int (x &&& y) :: r) h
  | .ior => mm_ii S fun x y r => mm_nx L (.int (x ||| y) :: r) h
  | .ishl => mm_ii S fun x y r => mm_nx L (.int (x <<< (y &&& 31)) :: r) h
  | .ishr => mm_ii S fun x y r => mm_nx L (.int (x >>> (y &&& 31)) :: r) h
  | .iushr => mm_ii S fun x y r => mm_nx L (.int (x.toUInt32 >>> (y.toUInt32 &&& Int32.toUInt32 31)).toInt32 :: r) h
  | .ladd => mm_ll S fun x y r => mm_nx L (.long (x + y) :: r) h
  | .lmul => mm_ll S fun x y r => mm_nx L (.long (x * y) :: r) h
  | .land => mm_ll S fun x y r => mm_nx L (.long (x &&& y) :: r) h
  | .lor => mm_ll S fun x y r => mm_nx L (.long (x ||| y) :: r) h
  | .lshl => mm_li S fun x y r => mm_nx L (.long (x <<< (y.toInt64 &&& 63)) :: r) h
  | .lshr => mm_li S fun x y r => mm_nx L (.long (x >>> (y.toInt64 &&& 63)) :: r) h
  | .lcmp => mm_ll S fun x y r => mm_nx L (.int (lg_cmp x y) :: r) h
  | .i2l => mm_i S fun x r => mm_nx L (.long x.toInt64 :: r) h
  | .l2i => mm_l S fun x r => mm_nx L (.int x.toInt32 :: r) h
  | .i2b => mm_i S fun x r => mm_nx L (.int x.toInt8.toInt32 :: r) h
  | .i2c => mm_i S fun x r => mm_nx L (.int (x.toUInt32 % 65536).toInt32 :: r) h
  | .goto _ => mm_jp (mm_k0 ex) S
  | .ifCond c _ => mm_i S fun x r => mm_br (mm_con c x 0) (mm_k0 ex) r
  | .if_icmp c _ => mm_ii S fun x y r => mm_br (mm_con c x y) (mm_k0 ex) r
  | .if_acmp c _ => match S with
    | w :: v :: r => match mm_oref v, mm_oref w with
      | some x, some y => mm_br (mm_acm c x y) (mm_k0 ex) r
      | _, _ => mm_bad
    | _ => mm_bad
  | .ifnull _ => match S with
    | .null :: r => mm_br true (mm_k0 ex) r
    | .ref _ :: r => mm_br false (mm_k0 ex) r
    | _ => mm_bad
  | .ifnonnull _ => match S with
    | .null :: r => mm_br false (mm_k0 ex) r
    | .ref _ :: r => mm_br true (mm_k0 ex) r
    | _ => mm_bad
  | .tableswitch _ lo _ _ => mm_i S fun x r => mm_jp (mm_sw (mm_k0 ex) lo ex.tail x) r
  | .arraylength => mm_a S fun a r => match mm_len E h a with
    | some n => mm_nx L (.int (Int32.ofNat n) :: r) h
    | none => mm_bad
  | .iaload => mm_ia S fun i a r => match mm_aI E h a with
    | some (t, n, f) => if t = 1 ∧ mm_in i n = true then mm_nx L (.int (f i.toNatClampNeg) :: r) h else mm_bad
    | none => mm_bad
  | .baload => mm_ia S fun i a r => match mm_aI E h a with
    | some (t, n, f) => if (t = 0 ∨ t = 2) ∧ mm_in i n = true then mm_nx L (.int (f i.toNatClampNeg) :: r) h else mm_bad
    | none => mm_bad
  | .aaload => mm_ia S fun i a r => match h.2.2 a with
    | some (.inl (_, n, .inr (.inr (.inr (.inr f))))) => if mm_in i n = true then mm_nx L (va_rf (f i.toNatClampNeg) :: r) h else mm_bad
    | _ => mm_bad
  | .iastore => mm_i S fun x S => mm_ia S fun i a r => match h.2.2 a with
    | some (.inl (t, n, .inl f)) => if t = 1 ∧ mm_in i n = true then mm_nx L r (mm_set h a (.inl (t, n, .inl (upd f i.toNatClampNeg x)))) else mm_bad
    | _ => mm_bad
  | .bastore => mm_i S fun x S => mm_ia S fun i a r => match h.2.2 a with
    | some (.inl (t, n, .inl f)) => if (t = 0 ∨ t = 2) ∧ mm_in i n = true then mm_nx L r (mm_set h a (.inl (t, n, .inl (upd f i.toNatClampNeg (mm_nar t x))))) else mm_bad
    | _ => mm_bad
  | .aastore => match S with
    | v :: S => mm_ia S fun i a r => match h.2.2 a with
      | some (.inl (t, n, .inr (.inr (.inr (.inr f))))) => match v with
        | .null => if mm_in i n = true then mm_nx L r (mm_set h a (.inl (t, n, .inr (.inr (.inr (.inr (va_up f i.toNatClampNeg none))))))) else mm_bad
        | .ref b => if mm_in i n = true ∧ mm_may h t b = true then mm_nx L r (mm_set h a (.inl (t, n, .inr (.inr (.inr (.inr (va_up f i.toNatClampNeg (some b)))))))) else mm_bad
        | _ => mm_bad
      | _ => mm_bad
    | _ => mm_bad
  | .getfield _ => mm_a S fun a r => if mm_k0 ex = 99 then (match E.2.2 1 a with
      | some (.inr fs) => if a < E.1 then mm_nx L (fs (mm_k1 ex) :: r) h else mm_bad
      | _ => mm_bad) else (match h.2.2 a with
      | some (.inr (ci, fs)) => if ci = mm_k0 ex then (match fs[mm_k1 ex]? with
        | some v => mm_nx L (v :: r) h
        | none => mm_bad) else mm_bad
      | _ => mm_bad)
  | .putfield _ => match S with
    | v :: S => mm_a S fun a r => match h.2.2 a with
      | some (.inr (ci, fs)) => if ci = mm_k0 ex ∧ mm_k1 ex < fs.length ∧ mm_fit (mm_k2 ex) v = true then mm_nx L r (mm_set h a (.inr (ci, fs.set (mm_k1 ex) v))) else mm_bad
      | _ => mm_bad
    | _ => mm_bad
  | .new _ => mm_nx L (.ref h.1 :: S) (mm_new h (mm_defs (mm_k0 ex)).length (.inr (mm_k0 ex, mm_defs (mm_k0 ex))))
  | .newarray _ => mm_i S fun n r => if n < 0 ∨ 1000000 < n then mm_bad else mm_nx L (.ref h.1 :: r) (mm_new h n.toNatClampNeg (.inl (mm_k0 ex, n.toNatClampNeg, .inl fun _ => 0)))
  | .anewarray _ => mm_i S fun n r => if n < 0 ∨ 1000000 < n then mm_bad else mm_nx L (.ref h.1 :: r) (mm_new h n.toNatClampNeg (.inl (mm_k0 ex, n.toNatClampNeg, .inr (.inr (.inr (.inr fun _ => none))))))
  | .checkcast _ => match S with
    | .null :: r => mm_nx L (.null :: r) h
    | .ref a :: r => match h.2.2 a with
      | some (.inr (ci, _)) => if mm_k0 ex = 0 ∧ ci = mm_k1 ex then mm_nx L (.ref a :: r) h else mm_bad
      | some (.inl (t, _)) => if mm_k0 ex = 1 ∧ t = mm_k1 ex then mm_nx L (.ref a :: r) h else mm_bad
      | none => mm_bad
    | _ => mm_bad
  | .invokestatic _ => if mm_k0 ex = 1000 then mm_copy L S h else mm_call E L S h ex
  | .invokevirtual _ => if mm_k0 ex = 1001 then (mm_a S fun a r => match h.2.2 a with
      | some (.inl (t, n, .inl f)) => if t = 0 ∧ mm_sum r ≤ 8 then mm_nx L (.ref h.1 :: r) (mm_new h n (.inl (t, n, .inl f))) else mm_bad
      | _ => mm_bad) else if mm_k0 ex = 1002 then (mm_a S fun a r => match h.2.2 a with
      | some (.inl (t, _)) => if t = 3 ∧ mm_sum r ≤ 8 then mm_nx L (E.2.1 (mm_k1 ex) :: r) h else mm_bad
      | _ => mm_bad) else mm_call E L S h ex
  | .invokespecial _ => if mm_k0 ex = 1003 then (mm_a S fun _ r => if mm_sum r ≤ 8 then mm_nx L r h else mm_bad) else mm_call E L S h ex
  | .ireturn => match S with
    | [.int x] => if mm_fit (mm_k0 ex) (.int x) = true then mm_rt (some (.int x)) else mm_bad
    | _ => mm_bad
  | .lreturn => match S with
    | [.long x] => mm_rt (some (.long x))
    | _ => mm_bad
  | .areturn => match S with
    | [.null] => mm_rt (some .null)
    | [.ref a] => mm_rt (some (.ref a))
    | _ => mm_bad
  | .return_ => match S with
    | [] => mm_rt none
    | _ => mm_bad
  | _ => mm_bad
end
section
/-! PRINTED by wip/whole/tool/gen.py: the methods as blocks -/
/- 0: BoundsPlanner.<init>()V -/
def B0_0 : List mmI := [(0, .aload_n 0, []), (1, .invokespecial 1, [1003, 109]), (4, .aload_n 0, []), (5, .sipush 2000, []), (8, .newarray .byte, [0]), (10, .putfield 9, [0, 0, 3, 114]), (13, .aload_n 0, []), (14, .bipush 16, []), (16, .anewarray 13, [4, 112]), (19, .putfield 15, [0, 1, 3, 115]), (22, .aload_n 0, []), (23, .iconst 0, []), (24, .putfield 19, [0, 2, 0, 116]), (27, .aload_n 0, []), (28, .aconst_null, []), (29, .putfield 23, [0, 3, 3, 117]), (32, .aload_n 0, []), (33, .aconst_null, []), (34, .putfield 27, [0, 4, 3, 118]), (37, .return_, [])]
def M0 : List (List mmI) := [B0_0]
/- 1: BoundsPlanner.feed(IIIII)I -/
def B1_0 : List mmI := [(0, .aload_n 0, []), (1, .getfield 19, [0, 2, 0, 116]), (4, .sipush 1980, []), (7, .if_icmp .le 5, [1]), (10, .iconst (-1), []), (11, .ireturn, [0])]
def B1_1 : List mmI := [(12, .aload_n 0, []), (13, .iload_n 1, []), (14, .invokevirtual 31, [2, 2, 1, 135, 0]), (17, .aload_n 0, []), (18, .iload_n 2, []), (19, .invokevirtual 31, [2, 2, 1, 135, 0]), (22, .aload_n 0, []), (23, .iload_n 3, []), (24, .invokevirtual 31, [2, 2, 1, 135, 0]), (27, .aload_n 0, []), (28, .iload 4, []), (30, .invokevirtual 31, [2, 2, 1, 135, 0]), (33, .aload_n 0, []), (34, .iload 5, []), (36, .invokevirtual 31, [2, 2, 1, 135, 0]), (39, .aload_n 0, []), (40, .getfield 19, [0, 2, 0, 116]), (43, .ireturn, [0])]
def M1 : List (List mmI) := [B1_0, B1_1]
/- 2: BoundsPlanner.putNumber(I)V -/
def B2_0 : List mmI := [(0, .bipush 24, []), (2, .istore_n 2, []), (3, .nop, [1])]
def B2_1 : List mmI := [(3, .iload_n 2, []), (4, .ifCond .lt 51, [3]), (7, .aload_n 0, []), (8, .getfield 19, [0, 2, 0, 116]), (11, .ifCond .lt 38, [2]), (14, .aload_n 0, []), (15, .getfield 19, [0, 2, 0, 116]), (18, .aload_n 0, []), (19, .getfield 9, [0, 0, 0, 114]), (22, .arraylength, []), (23, .if_icmp .ge 26, [2]), (26, .aload_n 0, []), (27, .getfield 9, [0, 0, 0, 114]), (30, .aload_n 0, []), (31, .getfield 19, [0, 2, 0, 116]), (34, .iload_n 1, []), (35, .iload_n 2, []), (36, .ishr, []), (37, .i2b, []), (38, .bastore, []), (39, .aload_n 0, []), (40, .dup, []), (41, .getfield 19, [0, 2, 0, 116]), (44, .iconst 1, []), (45, .iadd, []), (46, .putfield 19, [0, 2, 0, 116]), (49, .nop, [2])]
def B2_2 : List mmI := [(49, .iinc 2 (-8), []), (52, .goto (-49), [1])]
def B2_3 : List mmI := [(55, .return_, [])]
def M2 : List (List mmI) := [B2_0, B2_1, B2_2, B2_3]
/- 3: BoundsPlanner.index(IIII)I -/
def B3_0 : List mmI := [(0, .iload_n 1, []), (1, .ifCond .lt 30, [1]), (4, .iload_n 1, []), (5, .bipush 8, []), (7, .if_icmp .ge 24, [1]), (10, .iload_n 2, []), (11, .iconst 1, []), (12, .if_icmp .lt 19, [1]), (15, .iload_n 3, []), (16, .ifCond .lt 15, [1]), (19, .iload 4, []), (21, .ifCond .lt 10, [1]), (24, .iload 4, []), (26, .bipush 15, []), (28, .if_icmp .le 5, [2]), (31, .nop, [1])]
def B3_1 : List mmI := [(31, .iconst (-1), []), (32, .ireturn, [0])]
def B3_2 : List mmI := [(33, .iload_n 2, []), (34, .aload_n 0, []), (35, .getfield 19, [0, 2, 0, 116]), (38, .if_icmp .gt 13, [3]), (41, .iload_n 3, []), (42, .aload_n 0, []), (43, .getfield 19, [0, 2, 0, 116]), (46, .iload_n 2, []), (47, .isub, []), (48, .if_icmp .le 5, [4]), (51, .nop, [3])]
def B3_3 : List mmI := [(51, .iconst (-1), []), (52, .ireturn, [0])]
def B3_4 : List mmI := [(53, .aload_n 0, []), (54, .getfield 9, [0, 0, 0, 114]), (57, .iconst 0, []), (58, .iload_n 2, []), (59, .invokestatic 35, [4, 3, 0, 143, 0]), (62, .astore 5, []), (64, .aload_n 0, []), (65, .getfield 9, [0, 0, 0, 114]), (68, .iload_n 2, []), (69, .iload_n 2, []), (70, .iload_n 3, []), (71, .iadd, []), (72, .invokestatic 35, [4, 3, 0, 143, 0]), (75, .astore 6, []), (77, .aload_n 0, []), (78, .iconst 0, []), (79, .putfield 19, [0, 2, 0, 116]), (82, .iload_n 3, []), (83, .ifCond .ne 7, [5]), (86, .iconst 1, []), (87, .goto 4, [6])]
def B3_5 : List mmI := [(90, .iconst 0, []), (91, .nop, [6])]
def B3_6 : List mmI := [(91, .istore 7, []), (93, .iload 7, []), (95, .ifCond .eq 11, [7]), (98, .iload 4, []), (100, .bipush 10, []), (102, .iand, []), (103, .ifCond .ne 11, [8]), (106, .nop, [7])]
def B3_7 : List mmI := [(106, .aload 5, []), (108, .invokestatic 41, [8, 1, 0, 165, 0]), (111, .ifCond .ne 6, [9]), (114, .nop, [8])]
def B3_8 : List mmI := [(114, .bipush (-2), []), (116, .ireturn, [0])]
def B3_9 : List mmI := [(117, .iload 7, []), (119, .ifCond .ne 24, [11]), (122, .aload 6, []), (124, .invokestatic 41, [8, 1, 0, 165, 0]), (127, .ifCond .eq 13, [10]), (130, .aload 5, []), (132, .aload 6, []), (134, .invokestatic 45, [13, 2, 0, 185, 0]), (137, .ifCond .eq 6, [11]), (140, .nop, [10])]
def B3_10 : List mmI := [(140, .bipush (-2), []), (142, .ireturn, [0])]
def B3_11 : List mmI := [(143, .aload_n 0, []), (144, .getfield 15, [0, 1, 0, 115]), (147, .iconst 2, []), (148, .iload_n 1, []), (149, .imul, []), (150, .new 13, [1, 112]), (153, .dup, []), (154, .aload 5, []), (156, .iload 4, []), (158, .iconst 1, []), (159, .iand, []), (160, .ifCond .eq 7, [12]), (163, .iconst 1, []), (164, .goto 4, [13])]
def B3_12 : List mmI := [(167, .iconst 0, []), (168, .nop, [13])]
def B3_13 : List mmI := [(168, .iload 4, []), (170, .iconst 4, []), (171, .iand, []), (172, .ifCond .eq 7, [14]), (175, .iconst 1, []), (176, .goto 4, [15])]
def B3_14 : List mmI := [(179, .iconst 0, []), (180, .nop, [15])]
def B3_15 : List mmI := [(180, .invokespecial 51, [16, 4, 0, 196, 0]), (183, .aastore, []), (184, .aload_n 0, []), (185, .getfield 15, [0, 1, 0, 115]), (188, .iconst 2, []), (189, .iload_n 1, []), (190, .imul, []), (191, .iconst 1, []), (192, .iadd, []), (193, .iload 7, []), (195, .ifCond .eq 7, [16]), (198, .aconst_null, []), (199, .goto 37, [21])]
def B3_16 : List mmI := [(202, .new 13, [1, 112]), (205, .dup, []), (206, .aload 6, []), (208, .iload 4, []), (210, .iconst 2, []), (211, .iand, []), (212, .ifCond .eq 7, [17]), (215, .iconst 1, []), (216, .goto 4, [18])]
def B3_17 : List mmI := [(219, .iconst 0, []), (220, .nop, [18])]
def B3_18 : List mmI := [(220, .iload 4, []), (222, .bipush 8, []), (224, .iand, []), (225, .ifCond .eq 7, [19]), (228, .iconst 1, []), (229, .goto 4, [20])]
def B3_19 : List mmI := [(232, .iconst 0, []), (233, .nop, [20])]
def B3_20 : List mmI := [(233, .invokespecial 51, [16, 4, 0, 196, 0]), (236, .nop, [21])]
def B3_21 : List mmI := [(236, .aastore, []), (237, .iconst 0, []), (238, .ireturn, [0])]
def M3 : List (List mmI) := [B3_0, B3_1, B3_2, B3_3, B3_4, B3_5, B3_6, B3_7, B3_8, B3_9, B3_10, B3_11, B3_12, B3_13, B3_14, B3_15, B3_16, B3_17, B3_18, B3_19, B3_20, B3_21]
/- 4: java/util/Arrays.copyOfRange([BII)[B -/
def B4_0 : List mmI := [(0, .iload_n 1, []), (1, .ifCond .ne 9, [1]), (4, .iload_n 2, []), (5, .aload_n 0, []), (6, .arraylength, []), (7, .if_icmp .eq 10, [2]), (10, .nop, [1])]
def B4_1 : List mmI := [(10, .aload_n 0, []), (11, .iload_n 1, []), (12, .iload_n 2, []), (13, .invokestatic 339, [5, 3, 0, 146, 0]), (16, .areturn, [])]
def B4_2 : List mmI := [(17, .aload_n 0, []), (18, .invokevirtual 310, [1001, 158]), (21, .checkcast 311, [1, 0, 164]), (24, .areturn, [])]
def M4 : List (List mmI) := [B4_0, B4_1, B4_2]
/- 5: java/util/Arrays.copyOfRangeByte([BII)[B -/
def B5_0 : List mmI := [(0, .iload_n 1, []), (1, .iload_n 2, []), (2, .invokestatic 343, [6, 2, 0, 149, 0]), (5, .iload_n 2, []), (6, .iload_n 1, []), (7, .isub, []), (8, .istore_n 3, []), (9, .iload_n 3, []), (10, .newarray .byte, [0]), (12, .astore 4, []), (14, .aload_n 0, []), (15, .iload_n 1, []), (16, .aload 4, []), (18, .iconst 0, []), (19, .aload_n 0, []), (20, .arraylength, []), (21, .iload_n 1, []), (22, .isub, []), (23, .iload_n 3, []), (24, .invokestatic 304, [7, 2, 0, 152, 0]), (27, .invokestatic 150, [1000, 155]), (30, .aload 4, []), (32, .areturn, [])]
def M5 : List (List mmI) := [B5_0]
/- 6: java/util/Arrays.checkLength(II)V -/
def B6_0 : List mmI := [(0, .iload_n 1, []), (1, .iload_n 0, []), (2, .if_icmp .ge 35, [1]), (5, .athrow, [])]
def B6_1 : List mmI := [(37, .return_, [])]
def M6 : List (List mmI) := [B6_0, B6_1]
/- 7: java/lang/Math.min(II)I -/
def B7_0 : List mmI := [(0, .iload_n 0, []), (1, .iload_n 1, []), (2, .if_icmp .gt 7, [1]), (5, .iload_n 0, []), (6, .goto 4, [2])]
def B7_1 : List mmI := [(9, .iload_n 1, []), (10, .nop, [2])]
def B7_2 : List mmI := [(10, .ireturn, [0])]
def M7 : List (List mmI) := [B7_0, B7_1, B7_2]
/- 8: BoundsPlanner$Path.isRight([B)Z -/
def B8_0 : List mmI := [(0, .aload_n 0, []), (1, .iconst 0, []), (2, .aload_n 0, []), (3, .arraylength, []), (4, .invokestatic 34, [9, 3, 0, 168, 0]), (7, .ifCond .eq 18, [1]), (10, .aload_n 0, []), (11, .iconst 0, []), (12, .aload_n 0, []), (13, .arraylength, []), (14, .iconst 1, []), (15, .invokestatic 40, [12, 4, 0, 181, 0]), (18, .ifCond .eq 7, [1]), (21, .iconst 1, []), (22, .goto 4, [2])]
def B8_1 : List mmI := [(25, .iconst 0, []), (26, .nop, [2])]
def B8_2 : List mmI := [(26, .ireturn, [1])]
def M8 : List (List mmI) := [B8_0, B8_1, B8_2]
/- 9: BoundsPlanner$Bytes.isRightUtf8([BII)Z -/
def B9_0 : List mmI := [(0, .iload_n 1, []), (1, .istore_n 3, []), (2, .iload_n 1, []), (3, .istore 4, []), (5, .nop, [1])]
def B9_1 : List mmI := [(5, .iload 4, []), (7, .iload_n 2, []), (8, .if_icmp .ge 34, [3]), (11, .iload_n 3, []), (12, .iload_n 2, []), (13, .if_icmp .ge 29, [3]), (16, .aload_n 0, []), (17, .iload_n 3, []), (18, .iload_n 2, []), (19, .invokestatic 37, [10, 3, 0, 171, 0]), (22, .istore 5, []), (24, .iload 5, []), (26, .ifCond .ne 5, [2]), (29, .iconst 0, []), (30, .ireturn, [1])]
def B9_2 : List mmI := [(31, .iload_n 3, []), (32, .iload 5, []), (34, .iadd, []), (35, .istore_n 3, []), (36, .iinc 4 1, []), (39, .goto (-34), [1])]
def B9_3 : List mmI := [(42, .iconst 1, []), (43, .ireturn, [1])]
def M9 : List (List mmI) := [B9_0, B9_1, B9_2, B9_3]
/- 10: BoundsPlanner$Bytes.lengthOfCharacter([BII)I -/
def B10_0 : List mmI := [(0, .aload_n 0, []), (1, .iload_n 1, []), (2, .invokestatic 13, [11, 2, 0, 174, 0]), (5, .istore_n 3, []), (6, .iload_n 3, []), (7, .sipush 128, []), (10, .if_icmp .ge 5, [1]), (13, .iconst 1, []), (14, .ireturn, [0])]
def B10_1 : List mmI := [(15, .iload_n 3, []), (16, .sipush 224, []), (19, .if_icmp .ge 7, [2]), (22, .iconst 2, []), (23, .goto 15, [4])]
def B10_2 : List mmI := [(26, .iload_n 3, []), (27, .sipush 240, []), (30, .if_icmp .ge 7, [3]), (33, .iconst 3, []), (34, .goto 4, [4])]
def B10_3 : List mmI := [(37, .iconst 4, []), (38, .nop, [4])]
def B10_4 : List mmI := [(38, .istore 4, []), (40, .iload_n 3, []), (41, .sipush 192, []), (44, .if_icmp .lt 18, [5]), (47, .iload_n 3, []), (48, .sipush 247, []), (51, .if_icmp .gt 11, [5]), (54, .iload 4, []), (56, .iload_n 2, []), (57, .iload_n 1, []), (58, .isub, []), (59, .if_icmp .le 5, [6]), (62, .nop, [5])]
def B10_5 : List mmI := [(62, .iconst 0, []), (63, .ireturn, [0])]
def B10_6 : List mmI := [(64, .iload_n 3, []), (65, .bipush 127, []), (67, .iload 4, []), (69, .ishr, []), (70, .iand, []), (71, .istore 5, []), (73, .iconst 1, []), (74, .istore 6, []), (76, .nop, [7])]
def B10_7 : List mmI := [(76, .iload 6, []), (78, .iload 4, []), (80, .if_icmp .ge 46, [9]), (83, .aload_n 0, []), (84, .iload_n 1, []), (85, .iload 6, []), (87, .iadd, []), (88, .invokestatic 13, [11, 2, 0, 174, 0]), (91, .istore 7, []), (93, .iload 7, []), (95, .sipush 192, []), (98, .iand, []), (99, .sipush 128, []), (102, .if_icmp .eq 5, [8]), (105, .iconst 0, []), (106, .ireturn, [0])]
def B10_8 : List mmI := [(107, .iload 5, []), (109, .bipush 6, []), (111, .ishl, []), (112, .iload 7, []), (114, .bipush 63, []), (116, .iand, []), (117, .ior, []), (118, .istore 5, []), (120, .iinc 6 1, []), (123, .goto (-47), [7])]
def B10_9 : List mmI := [(126, .iload 4, []), (128, .iconst 2, []), (129, .if_icmp .ne 9, [10]), (132, .sipush 128, []), (135, .goto 17, [12])]
def B10_10 : List mmI := [(138, .iload 4, []), (140, .iconst 3, []), (141, .if_icmp .ne 9, [11]), (144, .sipush 2048, []), (147, .goto 5, [12])]
def B10_11 : List mmI := [(150, .ldc 41, [0, 65536, 177]), (152, .nop, [12])]
def B10_12 : List mmI := [(152, .istore 6, []), (154, .iload 5, []), (156, .ldc 42, [0, 55296, 178]), (158, .if_icmp .lt 14, [13]), (161, .iload 5, []), (163, .ldc 43, [0, 57343, 179]), (165, .if_icmp .gt 7, [13]), (168, .iconst 1, []), (169, .goto 4, [14])]
def B10_13 : List mmI := [(172, .iconst 0, []), (173, .nop, [14])]
def B10_14 : List mmI := [(173, .istore 7, []), (175, .iload 5, []), (177, .iload 6, []), (179, .if_icmp .lt 15, [15]), (182, .iload 5, []), (184, .ldc 44, [0, 1114111, 180]), (186, .if_icmp .gt 8, [15]), (189, .iload 7, []), (191, .ifCond .eq 7, [16]), (194, .nop, [15])]
def B10_15 : List mmI := [(194, .iconst 0, []), (195, .goto 5, [17])]
def B10_16 : List mmI := [(198, .iload 4, []), (200, .nop, [17])]
def B10_17 : List mmI := [(200, .ireturn, [0])]
def M10 : List (List mmI) := [B10_0, B10_1, B10_2, B10_3, B10_4, B10_5, B10_6, B10_7, B10_8, B10_9, B10_10, B10_11, B10_12, B10_13, B10_14, B10_15, B10_16, B10_17]
/- 11: BoundsPlanner$Bytes.at([BI)I -/
def B11_0 : List mmI := [(0, .iload_n 1, []), (1, .ifCond .lt 19, [1]), (4, .iload_n 1, []), (5, .aload_n 0, []), (6, .arraylength, []), (7, .if_icmp .ge 13, [1]), (10, .aload_n 0, []), (11, .iload_n 1, []), (12, .baload, []), (13, .sipush 255, []), (16, .iand, []), (17, .goto 4, [2])]
def B11_1 : List mmI := [(20, .iconst 0, []), (21, .nop, [2])]
def B11_2 : List mmI := [(21, .ireturn, [0])]
def M11 : List (List mmI) := [B11_0, B11_1, B11_2]
/- 12: BoundsPlanner$Path.hasRightSteps([BIIZ)Z -/
def B12_0 : List mmI := [(0, .iconst 0, []), (1, .istore 4, []), (3, .iconst 1, []), (4, .istore 5, []), (6, .iload_n 1, []), (7, .istore 6, []), (9, .nop, [1])]
def B12_1 : List mmI := [(9, .iload 6, []), (11, .iload_n 2, []), (12, .if_icmp .ge 69, [7]), (15, .aload_n 0, []), (16, .iload 6, []), (18, .invokestatic 44, [11, 2, 0, 184, 0]), (21, .istore 7, []), (23, .iload 7, []), (25, .ifCond .eq 26, [2]), (28, .iload 5, []), (30, .ifCond .eq 23, [3]), (33, .iload 7, []), (35, .bipush 46, []), (37, .if_icmp .eq 14, [2]), (40, .iload 7, []), (42, .bipush 36, []), (44, .if_icmp .ne 9, [3]), (47, .iload_n 3, []), (48, .ifCond .ne 5, [3]), (51, .nop, [2])]
def B12_2 : List mmI := [(51, .iconst 0, []), (52, .ireturn, [1])]
def B12_3 : List mmI := [(53, .iload 5, []), (55, .ifCond .eq 6, [4]), (58, .iinc 4 1, []), (61, .nop, [4])]
def B12_4 : List mmI := [(61, .iload 7, []), (63, .bipush 46, []), (65, .if_icmp .ne 7, [5]), (68, .iconst 1, []), (69, .goto 4, [6])]
def B12_5 : List mmI := [(72, .iconst 0, []), (73, .nop, [6])]
def B12_6 : List mmI := [(73, .istore 5, []), (75, .iinc 6 1, []), (78, .goto (-69), [1])]
def B12_7 : List mmI := [(81, .iload 5, []), (83, .ifCond .ne 14, [8]), (86, .iload 4, []), (88, .bipush 8, []), (90, .if_icmp .gt 7, [8]), (93, .iconst 1, []), (94, .goto 4, [9])]
def B12_8 : List mmI := [(97, .iconst 0, []), (98, .nop, [9])]
def B12_9 : List mmI := [(98, .ireturn, [1])]
def M12 : List (List mmI) := [B12_0, B12_1, B12_2, B12_3, B12_4, B12_5, B12_6, B12_7, B12_8, B12_9]
/- 13: BoundsPlanner$Bytes.areEqual([B[B)Z -/
def B13_0 : List mmI := [(0, .aload_n 0, []), (1, .iconst 0, []), (2, .aload_n 0, []), (3, .arraylength, []), (4, .aload_n 1, []), (5, .iconst 0, []), (6, .aload_n 1, []), (7, .arraylength, []), (8, .invokestatic 24, [14, 6, 0, 188, 0]), (11, .ifCond .ne 7, [1]), (14, .iconst 1, []), (15, .goto 4, [2])]
def B13_1 : List mmI := [(18, .iconst 0, []), (19, .nop, [2])]
def B13_2 : List mmI := [(19, .ireturn, [1])]
def M13 : List (List mmI) := [B13_0, B13_1, B13_2]
/- 14: BoundsPlanner$Bytes.compare([BII[BII)I -/
def B14_0 : List mmI := [(0, .iload_n 2, []), (1, .iload_n 1, []), (2, .isub, []), (3, .iload 5, []), (5, .iload 4, []), (7, .isub, []), (8, .invokestatic 7, [7, 2, 0, 191, 0]), (11, .istore 6, []), (13, .iconst 0, []), (14, .istore 7, []), (16, .nop, [1])]
def B14_1 : List mmI := [(16, .iload 7, []), (18, .iload 6, []), (20, .if_icmp .ge 39, [3]), (23, .aload_n 0, []), (24, .iload_n 1, []), (25, .iload 7, []), (27, .iadd, []), (28, .invokestatic 13, [11, 2, 0, 174, 0]), (31, .aload_n 3, []), (32, .iload 4, []), (34, .iload 7, []), (36, .iadd, []), (37, .invokestatic 13, [11, 2, 0, 174, 0]), (40, .invokestatic 19, [15, 2, 0, 192, 0]), (43, .istore 8, []), (45, .iload 8, []), (47, .ifCond .eq 6, [2]), (50, .iload 8, []), (52, .ireturn, [0])]
def B14_2 : List mmI := [(53, .iinc 7 1, []), (56, .goto (-40), [1])]
def B14_3 : List mmI := [(59, .iload_n 2, []), (60, .iload_n 1, []), (61, .isub, []), (62, .iload 5, []), (64, .iload 4, []), (66, .isub, []), (67, .invokestatic 19, [15, 2, 0, 192, 0]), (70, .ireturn, [0])]
def M14 : List (List mmI) := [B14_0, B14_1, B14_2, B14_3]
/- 15: java/lang/Integer.compare(II)I -/
def B15_0 : List mmI := [(0, .iload_n 0, []), (1, .iload_n 1, []), (2, .if_icmp .ge 7, [1]), (5, .iconst (-1), []), (6, .goto 13, [3])]
def B15_1 : List mmI := [(9, .iload_n 0, []), (10, .iload_n 1, []), (11, .if_icmp .ne 7, [2]), (14, .iconst 0, []), (15, .goto 4, [3])]
def B15_2 : List mmI := [(18, .iconst 1, []), (19, .nop, [3])]
def B15_3 : List mmI := [(19, .ireturn, [0])]
def M15 : List (List mmI) := [B15_0, B15_1, B15_2, B15_3]
/- 16: BoundsPlanner$Path.<init>([BZZ)V -/
def B16_0 : List mmI := [(0, .aload_n 0, []), (1, .invokespecial 1, [1003, 199]), (4, .aload_n 0, []), (5, .aload_n 1, []), (6, .putfield 7, [1, 1, 3, 202]), (9, .aload_n 0, []), (10, .iload_n 2, []), (11, .putfield 13, [1, 0, 1, 200]), (14, .aload_n 0, []), (15, .iload_n 3, []), (16, .putfield 17, [1, 2, 1, 203]), (19, .return_, [])]
def M16 : List (List mmI) := [B16_0]
/- 17: BoundsPlanner.drop(I)Z -/
def B17_0 : List mmI := [(0, .aload_n 0, []), (1, .iload_n 1, []), (2, .iconst 0, []), (3, .invokevirtual 54, [18, 3, 1, 221, 0]), (6, .ifnonnull 5, [1]), (9, .iconst 0, []), (10, .ireturn, [1])]
def B17_1 : List mmI := [(11, .aload_n 0, []), (12, .getfield 15, [0, 1, 0, 115]), (15, .iconst 2, []), (16, .iload_n 1, []), (17, .imul, []), (18, .aconst_null, []), (19, .aastore, []), (20, .aload_n 0, []), (21, .getfield 15, [0, 1, 0, 115]), (24, .iconst 2, []), (25, .iload_n 1, []), (26, .imul, []), (27, .iconst 1, []), (28, .iadd, []), (29, .aconst_null, []), (30, .aastore, []), (31, .iconst 1, []), (32, .ireturn, [1])]
def M17 : List (List mmI) := [B17_0, B17_1]
/- 18: BoundsPlanner.pathAt(II)LBoundsPlanner$Path; -/
def B18_0 : List mmI := [(0, .iload_n 1, []), (1, .ifCond .lt 18, [1]), (4, .iload_n 1, []), (5, .bipush 8, []), (7, .if_icmp .ge 12, [1]), (10, .iload_n 2, []), (11, .ifCond .lt 8, [1]), (14, .iload_n 2, []), (15, .iconst 2, []), (16, .if_icmp .lt 5, [2]), (19, .nop, [1])]
def B18_1 : List mmI := [(19, .aconst_null, []), (20, .areturn, [])]
def B18_2 : List mmI := [(21, .aload_n 0, []), (22, .getfield 15, [0, 1, 0, 115]), (25, .iconst 2, []), (26, .iload_n 1, []), (27, .imul, []), (28, .iload_n 2, []), (29, .iadd, []), (30, .aaload, []), (31, .areturn, [])]
def M18 : List (List mmI) := [B18_0, B18_1, B18_2]
/- 19: BoundsPlanner.filter(I)I -/
def B19_0 : List mmI := [(0, .iload_n 1, []), (1, .ifCond .lt 11, [1]), (4, .iload_n 1, []), (5, .aload_n 0, []), (6, .getfield 19, [0, 2, 0, 116]), (9, .if_icmp .le 6, [2]), (12, .nop, [1])]
def B19_1 : List mmI := [(12, .bipush (-2), []), (14, .ireturn, [0])]
def B19_2 : List mmI := [(15, .aload_n 0, []), (16, .aconst_null, []), (17, .putfield 23, [0, 3, 3, 117]), (20, .new 58, [2, 229]), (23, .dup, []), (24, .aload_n 0, []), (25, .iload_n 1, []), (26, .invokevirtual 60, [20, 2, 1, 231, 0]), (29, .invokespecial 64, [21, 2, 0, 235, 0]), (32, .astore_n 2, []), (33, .aload_n 2, []), (34, .invokevirtual 67, [25, 1, 3, 279, 0]), (37, .astore_n 3, []), (38, .aload_n 3, []), (39, .ifnonnull 5, [3]), (42, .iconst (-1), []), (43, .ireturn, [0])]
def B19_3 : List mmI := [(44, .new 71, [5, 541]), (47, .dup, []), (48, .invokespecial 73, [58, 1, 0, 543, 0]), (51, .astore 4, []), (53, .aload 4, []), (55, .aload_n 3, []), (56, .iconst 1, []), (57, .invokevirtual 74, [59, 3, 6, 551, 1]), (60, .istore 5, []), (62, .iload 5, []), (64, .ifCond .ne 32, [4]), (67, .aload_n 2, []), (68, .getfield 78, [2, 0, 0, 266]), (71, .invokestatic 82, [69, 1, 0, 595, 0]), (74, .new 88, [9, 627]), (77, .dup, []), (78, .invokespecial 90, [76, 1, 0, 629, 1]), (81, .astore 6, []), (83, .aload 6, []), (85, .aload_n 3, []), (86, .iconst 1, []), (87, .invokevirtual 91, [77, 3, 10, 642, 1]), (90, .aload_n 0, []), (91, .aload 6, []), (93, .putfield 23, [0, 3, 3, 117]), (96, .nop, [4])]
def B19_4 : List mmI := [(96, .iload 5, []), (98, .ireturn, [0])]
def M19 : List (List mmI) := [B19_0, B19_1, B19_2, B19_3, B19_4]
/- 20: BoundsPlanner.takeTape(I)[B -/
def B20_0 : List mmI := [(0, .aload_n 0, []), (1, .iconst 0, []), (2, .putfield 19, [0, 2, 0, 116]), (5, .aload_n 0, []), (6, .getfield 9, [0, 0, 0, 114]), (9, .iconst 0, []), (10, .iload_n 1, []), (11, .invokestatic 35, [4, 3, 0, 143, 0]), (14, .areturn, [])]
def M20 : List (List mmI) := [B20_0]
/- 21: BoundsPlanner$Reader.<init>([B)V -/
def B21_0 : List mmI := [(0, .aload_n 0, []), (1, .invokespecial 3, [1003, 238]), (4, .aload_n 0, []), (5, .new 9, [3, 239]), (8, .dup, []), (9, .invokespecial 11, [22, 1, 0, 241, 0]), (12, .putfield 12, [2, 0, 3, 265]), (15, .aload_n 0, []), (16, .aload_n 1, []), (17, .putfield 18, [2, 1, 3, 267]), (20, .aload_n 0, []), (21, .iconst 0, []), (22, .putfield 22, [2, 2, 0, 268]), (25, .aload_n 0, []), (26, .iconst 0, []), (27, .putfield 26, [2, 3, 1, 269]), (30, .return_, [])]
def M21 : List (List mmI) := [B21_0]
/- 22: java/util/ArrayList.<init>()V -/
def B22_0 : List mmI := [(0, .aload_n 0, []), (1, .invokespecial 1, [23, 1, 0, 244, 0]), (4, .aload_n 0, []), (5, .getstatic 39, [0, 251]), (8, .putfield 9, [3, 0, 3, 253]), (11, .return_, [])]
def M22 : List (List mmI) := [B22_0]
/- 23: java/util/AbstractList.<init>()V -/
def B23_0 : List mmI := [(0, .aload_n 0, []), (1, .invokespecial 1, [24, 1, 0, 247, 0]), (4, .aload_n 0, []), (5, .iconst 0, []), (6, .putfield 7, [3, 2, 0, 255]), (9, .return_, [])]
def M23 : List (List mmI) := [B23_0]
/- 24: java/util/AbstractCollection.<init>()V -/
def B24_0 : List mmI := [(0, .aload_n 0, []), (1, .invokespecial 1, [1003, 250]), (4, .return_, [])]
def M24 : List (List mmI) := [B24_0]
/- 25: BoundsPlanner$Reader.readWhole()LBoundsPlanner$Node; -/
def B25_0 : List mmI := [(0, .new 30, [4, 283]), (3, .dup, []), (4, .aload_n 0, []), (5, .getfield 18, [2, 1, 0, 267]), (8, .iconst 3, []), (9, .iconst (-1), []), (10, .iconst 0, []), (11, .invokespecial 32, [26, 5, 0, 285, 0]), (14, .astore_n 1, []), (15, .aload_n 0, []), (16, .aload_n 1, []), (17, .aload_n 0, []), (18, .getfield 18, [2, 1, 0, 267]), (21, .arraylength, []), (22, .iconst 1, []), (23, .invokevirtual 35, [37, 4, 3, 435, 0]), (26, .aload_n 0, []), (27, .getfield 26, [2, 3, 0, 269]), (30, .ifCond .ne 22, [1]), (33, .aload_n 0, []), (34, .getfield 22, [2, 2, 0, 268]), (37, .aload_n 0, []), (38, .getfield 18, [2, 1, 0, 267]), (41, .arraylength, []), (42, .if_icmp .ne 10, [1]), (45, .aload_n 0, []), (46, .invokevirtual 39, [53, 1, 3, 520, 0]), (49, .ifCond .ne 7, [2]), (52, .nop, [1])]
def B25_1 : List mmI := [(52, .aconst_null, []), (53, .goto 4, [3])]
def B25_2 : List mmI := [(56, .aload_n 1, []), (57, .nop, [3])]
def B25_3 : List mmI := [(57, .areturn, [])]
def M25 : List (List mmI) := [B25_0, B25_1, B25_2, B25_3]
/- 26: BoundsPlanner$Node.<init>([BIII)V -/
def B26_0 : List mmI := [(0, .aload_n 0, []), (1, .invokespecial 1, [1003, 288]), (4, .aload_n 0, []), (5, .aload_n 1, []), (6, .putfield 7, [4, 0, 3, 362]), (9, .aload_n 0, []), (10, .iload_n 2, []), (11, .putfield 13, [4, 1, 0, 366]), (14, .aload_n 0, []), (15, .iload_n 3, []), (16, .putfield 17, [4, 2, 0, 371]), (19, .aload_n 0, []), (20, .iload 4, []), (22, .putfield 20, [4, 3, 0, 373]), (25, .aload_n 0, []), (26, .aload_n 1, []), (27, .iload_n 3, []), (28, .iconst 1, []), (29, .iadd, []), (30, .iload 4, []), (32, .invokestatic 23, [27, 3, 0, 289, 0]), (35, .putfield 27, [4, 4, 0, 378]), (38, .aload_n 0, []), (39, .iload_n 2, []), (40, .invokestatic 30, [36, 1, 0, 359, 0]), (43, .putfield 34, [4, 5, 0, 383]), (46, .return_, [])]
def M26 : List (List mmI) := [B26_0]
/- 27: BoundsPlanner$Node.wordOf([BII)I -/
def B27_0 : List mmI := [(0, .iload_n 1, []), (1, .iload_n 2, []), (2, .if_icmp .ge 13, [1]), (5, .aload_n 0, []), (6, .iload_n 1, []), (7, .invokestatic 37, [11, 2, 0, 292, 0]), (10, .bipush 36, []), (12, .if_icmp .eq 5, [2]), (15, .nop, [1])]
def B27_1 : List mmI := [(15, .iconst 0, []), (16, .ireturn, [0])]
def B27_2 : List mmI := [(17, .aload_n 0, []), (18, .iload_n 1, []), (19, .iload_n 2, []), (20, .ldc 43, [1, 10]), (22, .invokestatic 45, [28, 4, 0, 294, 0]), (25, .ifCond .eq 5, [3]), (28, .iconst 2, []), (29, .ireturn, [0])]
def B27_3 : List mmI := [(30, .aload_n 0, []), (31, .iload_n 1, []), (32, .iload_n 2, []), (33, .ldc 49, [1, 11]), (35, .invokestatic 45, [28, 4, 0, 294, 0]), (38, .ifCond .eq 5, [4]), (41, .iconst 3, []), (42, .ireturn, [0])]
def B27_4 : List mmI := [(43, .aload_n 0, []), (44, .iload_n 1, []), (45, .iload_n 2, []), (46, .ldc 51, [1, 12]), (48, .invokestatic 45, [28, 4, 0, 294, 0]), (51, .ifCond .eq 5, [5]), (54, .iconst 4, []), (55, .ireturn, [0])]
def B27_5 : List mmI := [(56, .aload_n 0, []), (57, .iload_n 1, []), (58, .iload_n 2, []), (59, .ldc 53, [1, 13]), (61, .invokestatic 45, [28, 4, 0, 294, 0]), (64, .ifCond .eq 5, [6]), (67, .iconst 5, []), (68, .ireturn, [0])]
def B27_6 : List mmI := [(69, .aload_n 0, []), (70, .iload_n 1, []), (71, .iload_n 2, []), (72, .ldc 55, [1, 14]), (74, .invokestatic 45, [28, 4, 0, 294, 0]), (77, .ifCond .eq 6, [7]), (80, .bipush 6, []), (82, .ireturn, [0])]
def B27_7 : List mmI := [(83, .aload_n 0, []), (84, .iload_n 1, []), (85, .iload_n 2, []), (86, .ldc 57, [1, 15]), (88, .invokestatic 45, [28, 4, 0, 294, 0]), (91, .ifCond .eq 6, [8]), (94, .bipush 7, []), (96, .ireturn, [0])]
def B27_8 : List mmI := [(97, .aload_n 0, []), (98, .iload_n 1, []), (99, .iload_n 2, []), (100, .ldc 59, [1, 16]), (102, .invokestatic 45, [28, 4, 0, 294, 0]), (105, .ifCond .eq 6, [9]), (108, .bipush 8, []), (110, .ireturn, [0])]
def B27_9 : List mmI := [(111, .aload_n 0, []), (112, .iload_n 1, []), (113, .iload_n 2, []), (114, .ldc 61, [1, 17]), (116, .invokestatic 45, [28, 4, 0, 294, 0]), (119, .ifCond .eq 6, [10]), (122, .bipush 9, []), (124, .ireturn, [0])]
def B27_10 : List mmI := [(125, .aload_n 0, []), (126, .iload_n 1, []), (127, .iload_n 2, []), (128, .ldc 63, [1, 18]), (130, .invokestatic 45, [28, 4, 0, 294, 0]), (133, .ifCond .eq 6, [11]), (136, .bipush 10, []), (138, .ireturn, [0])]
def B27_11 : List mmI := [(139, .aload_n 0, []), (140, .iload_n 1, []), (141, .iload_n 2, []), (142, .ldc 65, [1, 19]), (144, .invokestatic 45, [28, 4, 0, 294, 0]), (147, .ifCond .eq 6, [12]), (150, .bipush 11, []), (152, .ireturn, [0])]
def B27_12 : List mmI := [(153, .aload_n 0, []), (154, .iload_n 1, []), (155, .iload_n 2, []), (156, .ldc 67, [1, 20]), (158, .invokestatic 45, [28, 4, 0, 294, 0]), (161, .ifCond .eq 6, [13]), (164, .bipush 12, []), (166, .ireturn, [0])]
def B27_13 : List mmI := [(167, .aload_n 0, []), (168, .iload_n 1, []), (169, .iload_n 2, []), (170, .ldc 69, [1, 21]), (172, .invokestatic 45, [28, 4, 0, 294, 0]), (175, .ifCond .eq 6, [14]), (178, .bipush 13, []), (180, .ireturn, [0])]
def B27_14 : List mmI := [(181, .aload_n 0, []), (182, .iload_n 1, []), (183, .iload_n 2, []), (184, .ldc 71, [1, 22]), (186, .invokestatic 45, [28, 4, 0, 294, 0]), (189, .ifCond .eq 6, [15]), (192, .bipush 14, []), (194, .ireturn, [0])]
def B27_15 : List mmI := [(195, .aload_n 0, []), (196, .iload_n 1, []), (197, .iload_n 2, []), (198, .ldc 73, [1, 23]), (200, .invokestatic 45, [28, 4, 0, 294, 0]), (203, .ifCond .eq 6, [16]), (206, .bipush 15, []), (208, .ireturn, [0])]
def B27_16 : List mmI := [(209, .aload_n 0, []), (210, .iload_n 1, []), (211, .iload_n 2, []), (212, .ldc 75, [1, 24]), (214, .invokestatic 45, [28, 4, 0, 294, 0]), (217, .ifCond .eq 6, [17]), (220, .bipush 16, []), (222, .ireturn, [0])]
def B27_17 : List mmI := [(223, .iconst 1, []), (224, .ireturn, [0])]
def M27 : List (List mmI) := [B27_0, B27_1, B27_2, B27_3, B27_4, B27_5, B27_6, B27_7, B27_8, B27_9, B27_10, B27_11, B27_12, B27_13, B27_14, B27_15, B27_16, B27_17]
/- 28: BoundsPlanner$Bytes.isWord([BIILjava/lang/String;)Z -/
def B28_0 : List mmI := [(0, .iload_n 2, []), (1, .iload_n 1, []), (2, .isub, []), (3, .aload_n 3, []), (4, .invokevirtual 27, [29, 1, 100, 297, 0]), (7, .if_icmp .eq 5, [1]), (10, .iconst 0, []), (11, .ireturn, [1])]
def B28_1 : List mmI := [(12, .iconst 0, []), (13, .istore 4, []), (15, .nop, [2])]
def B28_2 : List mmI := [(15, .iload 4, []), (17, .aload_n 3, []), (18, .invokevirtual 27, [29, 1, 100, 297, 0]), (21, .if_icmp .ge 28, [4]), (24, .aload_n 0, []), (25, .iload_n 1, []), (26, .iload 4, []), (28, .iadd, []), (29, .invokestatic 13, [11, 2, 0, 174, 0]), (32, .aload_n 3, []), (33, .iload 4, []), (35, .invokevirtual 33, [31, 2, 100, 307, 0]), (38, .if_icmp .eq 5, [3]), (41, .iconst 0, []), (42, .ireturn, [1])]
def B28_3 : List mmI := [(43, .iinc 4 1, []), (46, .goto (-31), [2])]
def B28_4 : List mmI := [(49, .iconst 1, []), (50, .ireturn, [1])]
def M28 : List (List mmI) := [B28_0, B28_1, B28_2, B28_3, B28_4]
/- 29: java/lang/String.length()I -/
def B29_0 : List mmI := [(0, .aload_n 0, []), (1, .getfield 9, [99, 0, 1201]), (4, .arraylength, []), (5, .aload_n 0, []), (6, .invokevirtual 335, [30, 1, 100, 301, 0]), (9, .ishr, []), (10, .ireturn, [0])]
def M29 : List (List mmI) := [B29_0]
/- 30: java/lang/String.coder()B -/
def B30_0 : List mmI := [(0, .getstatic 38, [1, 305]), (3, .ifCond .eq 10, [1]), (6, .aload_n 0, []), (7, .getfield 15, [99, 1, 1202]), (10, .goto 4, [2])]
def B30_1 : List mmI := [(13, .iconst 1, []), (14, .nop, [2])]
def B30_2 : List mmI := [(14, .ireturn, [4])]
def M30 : List (List mmI) := [B30_0, B30_1, B30_2]
/- 31: java/lang/String.charAt(I)C -/
def B31_0 : List mmI := [(0, .aload_n 0, []), (1, .invokevirtual 492, [32, 1, 100, 311, 0]), (4, .ifCond .eq 12, [1]), (7, .aload_n 0, []), (8, .getfield 9, [99, 0, 1201]), (11, .iload_n 1, []), (12, .invokestatic 495, [33, 2, 0, 315, 0]), (15, .ireturn, [5])]
def B31_1 : List mmI := [(16, .aload_n 0, []), (17, .getfield 9, [99, 0, 1201]), (20, .iload_n 1, []), (21, .athrow, [])]
def M31 : List (List mmI) := [B31_0, B31_1]
/- 32: java/lang/String.isLatin1()Z -/
def B32_0 : List mmI := [(0, .getstatic 38, [1, 305]), (3, .ifCond .eq 14, [1]), (6, .aload_n 0, []), (7, .getfield 15, [99, 1, 1202]), (10, .ifCond .ne 7, [1]), (13, .iconst 1, []), (14, .goto 4, [2])]
def B32_1 : List mmI := [(17, .iconst 0, []), (18, .nop, [2])]
def B32_2 : List mmI := [(18, .ireturn, [1])]
def M32 : List (List mmI) := [B32_0, B32_1, B32_2]
/- 33: java/lang/StringLatin1.charAt([BI)C -/
def B33_0 : List mmI := [(0, .iload_n 1, []), (1, .aload_n 0, []), (2, .arraylength, []), (3, .invokestatic 9, [34, 2, 0, 318, 0]), (6, .aload_n 0, []), (7, .iload_n 1, []), (8, .baload, []), (9, .sipush 255, []), (12, .iand, []), (13, .i2c, []), (14, .ireturn, [5])]
def M33 : List (List mmI) := [B33_0]
/- 34: java/lang/String.checkIndex(II)V -/
def B34_0 : List mmI := [(0, .iload_n 0, []), (1, .iload_n 1, []), (2, .getstatic 1053, [2, 321]), (5, .invokestatic 1059, [35, 3, 0, 323, 0]), (8, .pop, []), (9, .return_, [])]
def M34 : List (List mmI) := [B34_0]
/- 35: jdk/internal/util/Preconditions.checkIndex(IILjava/util/function/BiFunction;)I -/
def B35_0 : List mmI := [(0, .iload_n 0, []), (1, .ifCond .lt 8, [1]), (4, .iload_n 0, []), (5, .iload_n 1, []), (6, .if_icmp .lt 10, [2]), (9, .nop, [1])]
def B35_1 : List mmI := [(9, .aload_n 2, []), (10, .iload_n 0, []), (11, .iload_n 1, []), (12, .athrow, [])]
def B35_2 : List mmI := [(16, .iload_n 0, []), (17, .ireturn, [0])]
def M35 : List (List mmI) := [B35_0, B35_1, B35_2]
/- 36: BoundsPlanner$Node.classOf(I)I -/
def B36_0 : List mmI := [(0, .iload_n 0, []), (1, .tableswitch 62 2 10 #[53, 55, 57, 62, 62, 62, 59, 62, 51], [6, 2, 3, 4, 6, 6, 6, 5, 6, 1])]
def B36_1 : List mmI := [(52, .iconst 1, []), (53, .ireturn, [0])]
def B36_2 : List mmI := [(54, .iconst 3, []), (55, .ireturn, [0])]
def B36_3 : List mmI := [(56, .iconst 4, []), (57, .ireturn, [0])]
def B36_4 : List mmI := [(58, .iconst 5, []), (59, .ireturn, [0])]
def B36_5 : List mmI := [(60, .bipush 6, []), (62, .ireturn, [0])]
def B36_6 : List mmI := [(63, .iconst 2, []), (64, .ireturn, [0])]
def M36 : List (List mmI) := [B36_0, B36_1, B36_2, B36_3, B36_4, B36_5, B36_6]
/- 37: BoundsPlanner$Reader.readParts(LBoundsPlanner$Node;II)V -/
def B37_0 : List mmI := [(0, .aload_n 0, []), (1, .getfield 22, [2, 2, 0, 268]), (4, .istore 4, []), (6, .aload_n 0, []), (7, .iconst 4, []), (8, .iload_n 2, []), (9, .invokevirtual 43, [38, 3, 3, 439, 0]), (12, .l2i, []), (13, .istore 5, []), (15, .aload_n 0, []), (16, .getfield 26, [2, 3, 0, 269]), (19, .ifCond .ne 24, [1]), (22, .iload_n 3, []), (23, .bipush 16, []), (25, .if_icmp .gt 18, [1]), (28, .iload 5, []), (30, .iconst 5, []), (31, .if_icmp .lt 12, [1]), (34, .iload 5, []), (36, .iload_n 2, []), (37, .iload 4, []), (39, .isub, []), (40, .if_icmp .le 9, [2]), (43, .nop, [1])]
def B37_1 : List mmI := [(43, .aload_n 0, []), (44, .iconst 1, []), (45, .putfield 26, [2, 3, 1, 269]), (48, .return_, [])]
def B37_2 : List mmI := [(49, .iload 4, []), (51, .iload 5, []), (53, .iadd, []), (54, .iconst 1, []), (55, .isub, []), (56, .istore 6, []), (58, .aconst_null, []), (59, .astore 7, []), (61, .iconst 0, []), (62, .istore 8, []), (64, .nop, [3])]
def B37_3 : List mmI := [(64, .iload 8, []), (66, .sipush 2000, []), (69, .if_icmp .ge 84, [8]), (72, .aload_n 0, []), (73, .getfield 22, [2, 2, 0, 268]), (76, .iload 6, []), (78, .if_icmp .ge 75, [8]), (81, .aload_n 0, []), (82, .getfield 26, [2, 3, 0, 269]), (85, .ifCond .ne 68, [8]), (88, .aload_n 0, []), (89, .iload 6, []), (91, .iload_n 3, []), (92, .invokevirtual 47, [39, 3, 3, 444, 0]), (95, .astore 9, []), (97, .aload 9, []), (99, .ifnull 15, [4]), (102, .aload_n 0, []), (103, .aload_n 1, []), (104, .aload 9, []), (106, .iload 8, []), (108, .invokevirtual 51, [50, 4, 3, 508, 0]), (111, .ifCond .ne 11, [5]), (114, .nop, [4])]
def B37_4 : List mmI := [(114, .aload_n 0, []), (115, .iconst 1, []), (116, .putfield 26, [2, 3, 1, 269]), (119, .goto 24, [7])]
def B37_5 : List mmI := [(122, .aload 7, []), (124, .ifnonnull 12, [6]), (127, .aload_n 1, []), (128, .aload 9, []), (130, .putfield 55, [4, 9, 3, 398]), (133, .goto 10, [7])]
def B37_6 : List mmI := [(136, .aload 7, []), (138, .aload 9, []), (140, .putfield 59, [4, 10, 3, 405]), (143, .nop, [7])]
def B37_7 : List mmI := [(143, .aload 9, []), (145, .astore 7, []), (147, .iinc 8 1, []), (150, .goto (-86), [3])]
def B37_8 : List mmI := [(153, .aload_n 0, []), (154, .getfield 22, [2, 2, 0, 268]), (157, .iload 6, []), (159, .if_icmp .ne 15, [9]), (162, .aload_n 0, []), (163, .getfield 18, [2, 1, 0, 267]), (166, .iload 6, []), (168, .invokestatic 62, [11, 2, 0, 443, 0]), (171, .ifCond .eq 8, [10]), (174, .nop, [9])]
def B37_9 : List mmI := [(174, .aload_n 0, []), (175, .iconst 1, []), (176, .putfield 26, [2, 3, 1, 269]), (179, .nop, [10])]
def B37_10 : List mmI := [(179, .aload_n 0, []), (180, .iload 6, []), (182, .iconst 1, []), (183, .iadd, []), (184, .putfield 22, [2, 2, 0, 268]), (187, .return_, [])]
def M37 : List (List mmI) := [B37_0, B37_1, B37_2, B37_3, B37_4, B37_5, B37_6, B37_7, B37_8, B37_9, B37_10]
/- 38: BoundsPlanner$Reader.readNumber(II)J -/
def B38_0 : List mmI := [(0, .iload_n 1, []), (1, .iload_n 2, []), (2, .aload_n 0, []), (3, .getfield 22, [2, 2, 0, 268]), (6, .isub, []), (7, .if_icmp .le 10, [1]), (10, .aload_n 0, []), (11, .iconst 1, []), (12, .putfield 26, [2, 3, 1, 269]), (15, .lconst 0, []), (16, .lreturn, [])]
def B38_1 : List mmI := [(17, .lconst 0, []), (18, .lstore_n 3, []), (19, .iconst 0, []), (20, .istore 5, []), (22, .nop, [2])]
def B38_2 : List mmI := [(22, .iload 5, []), (24, .iload_n 1, []), (25, .if_icmp .ge 33, [3]), (28, .lload_n 3, []), (29, .aload_n 0, []), (30, .getfield 18, [2, 1, 0, 267]), (33, .aload_n 0, []), (34, .getfield 22, [2, 2, 0, 268]), (37, .iload 5, []), (39, .iadd, []), (40, .invokestatic 62, [11, 2, 0, 443, 0]), (43, .i2l, []), (44, .bipush 8, []), (46, .iload 5, []), (48, .imul, []), (49, .lshl, []), (50, .lor, []), (51, .lstore_n 3, []), (52, .iinc 5 1, []), (55, .goto (-33), [2])]
def B38_3 : List mmI := [(58, .aload_n 0, []), (59, .dup, []), (60, .getfield 22, [2, 2, 0, 268]), (63, .iload_n 1, []), (64, .iadd, []), (65, .putfield 22, [2, 2, 0, 268]), (68, .lload_n 3, []), (69, .lreturn, [])]
def M38 : List (List mmI) := [B38_0, B38_1, B38_2, B38_3]
/- 39: BoundsPlanner$Reader.readPart(II)LBoundsPlanner$Node; -/
def B39_0 : List mmI := [(0, .aload_n 0, []), (1, .getfield 22, [2, 2, 0, 268]), (4, .iconst 1, []), (5, .iadd, []), (6, .istore_n 3, []), (7, .nop, [1])]
def B39_1 : List mmI := [(7, .iload_n 3, []), (8, .iload_n 1, []), (9, .if_icmp .ge 20, [2]), (12, .aload_n 0, []), (13, .getfield 18, [2, 1, 0, 267]), (16, .iload_n 3, []), (17, .invokestatic 62, [11, 2, 0, 443, 0]), (20, .ifCond .eq 9, [2]), (23, .iinc 3 1, []), (26, .goto (-19), [1])]
def B39_2 : List mmI := [(29, .iload_n 3, []), (30, .iload_n 1, []), (31, .if_icmp .lt 5, [3]), (34, .aconst_null, []), (35, .areturn, [])]
def B39_3 : List mmI := [(36, .new 30, [4, 283]), (39, .dup, []), (40, .aload_n 0, []), (41, .getfield 18, [2, 1, 0, 267]), (44, .aload_n 0, []), (45, .getfield 18, [2, 1, 0, 267]), (48, .aload_n 0, []), (49, .getfield 22, [2, 2, 0, 268]), (52, .invokestatic 62, [11, 2, 0, 443, 0]), (55, .aload_n 0, []), (56, .getfield 22, [2, 2, 0, 268]), (59, .iload_n 3, []), (60, .invokespecial 32, [26, 5, 0, 285, 0]), (63, .astore 4, []), (65, .aload_n 0, []), (66, .getfield 12, [2, 0, 0, 265]), (69, .aload 4, []), (71, .invokevirtual 67, [40, 2, 4, 448, 0]), (74, .pop, []), (75, .aload_n 0, []), (76, .iload_n 3, []), (77, .iconst 1, []), (78, .iadd, []), (79, .putfield 22, [2, 2, 0, 268]), (82, .aload_n 0, []), (83, .aload 4, []), (85, .iload_n 1, []), (86, .iload_n 2, []), (87, .invokevirtual 71, [48, 4, 3, 500, 0]), (90, .aload 4, []), (92, .areturn, [])]
def M39 : List (List mmI) := [B39_0, B39_1, B39_2, B39_3]
/- 40: java/util/ArrayList.add(Ljava/lang/Object;)Z -/
def B40_0 : List mmI := [(0, .aload_n 0, []), (1, .dup, []), (2, .getfield 63, [3, 2, 0, 256]), (5, .iconst 1, []), (6, .iadd, []), (7, .putfield 63, [3, 2, 0, 256]), (10, .aload_n 0, []), (11, .aload_n 1, []), (12, .aload_n 0, []), (13, .getfield 9, [3, 0, 0, 253]), (16, .aload_n 0, []), (17, .getfield 48, [3, 1, 0, 254]), (20, .invokevirtual 131, [41, 4, 4, 452, 0]), (23, .iconst 1, []), (24, .ireturn, [1])]
def M40 : List (List mmI) := [B40_0]
/- 41: java/util/ArrayList.add(Ljava/lang/Object;[Ljava/lang/Object;I)V -/
def B41_0 : List mmI := [(0, .iload_n 3, []), (1, .aload_n 2, []), (2, .arraylength, []), (3, .if_icmp .ne 8, [1]), (6, .aload_n 0, []), (7, .invokevirtual 129, [42, 1, 4, 456, 0]), (10, .astore_n 2, []), (11, .nop, [1])]
def B41_1 : List mmI := [(11, .aload_n 2, []), (12, .iload_n 3, []), (13, .aload_n 1, []), (14, .aastore, []), (15, .aload_n 0, []), (16, .iload_n 3, []), (17, .iconst 1, []), (18, .iadd, []), (19, .putfield 48, [3, 1, 0, 254]), (22, .return_, [])]
def M41 : List (List mmI) := [B41_0, B41_1]
/- 42: java/util/ArrayList.grow()[Ljava/lang/Object; -/
def B42_0 : List mmI := [(0, .aload_n 0, []), (1, .aload_n 0, []), (2, .getfield 48, [3, 1, 0, 254]), (5, .iconst 1, []), (6, .iadd, []), (7, .invokevirtual 69, [43, 2, 4, 460, 0]), (10, .areturn, [])]
def M42 : List (List mmI) := [B42_0]
/- 43: java/util/ArrayList.grow(I)[Ljava/lang/Object; -/
def B43_0 : List mmI := [(0, .aload_n 0, []), (1, .getfield 9, [3, 0, 0, 253]), (4, .arraylength, []), (5, .istore_n 2, []), (6, .iload_n 2, []), (7, .ifCond .gt 13, [1]), (10, .aload_n 0, []), (11, .getfield 9, [3, 0, 0, 253]), (14, .getstatic 39, [0, 251]), (17, .if_acmp .eq 28, [2]), (20, .nop, [1])]
def B43_1 : List mmI := [(20, .iload_n 2, []), (21, .iload_n 1, []), (22, .iload_n 2, []), (23, .isub, []), (24, .iload_n 2, []), (25, .iconst 1, []), (26, .ishr, []), (27, .invokestatic 73, [44, 3, 0, 464, 0]), (30, .istore_n 3, []), (31, .aload_n 0, []), (32, .aload_n 0, []), (33, .getfield 9, [3, 0, 0, 253]), (36, .iload_n 3, []), (37, .invokestatic 66, [46, 2, 0, 474, 0]), (40, .dup_x1, []), (41, .putfield 9, [3, 0, 3, 253]), (44, .areturn, [])]
def B43_2 : List mmI := [(45, .aload_n 0, []), (46, .bipush 10, []), (48, .iload_n 1, []), (49, .invokestatic 79, [45, 2, 0, 498, 0]), (52, .anewarray 7, [3, 499]), (55, .dup_x1, []), (56, .putfield 9, [3, 0, 3, 253]), (59, .areturn, [])]
def M43 : List (List mmI) := [B43_0, B43_1, B43_2]
/- 44: jdk/internal/util/ArraysSupport.newLength(III)I -/
def B44_0 : List mmI := [(0, .iload_n 0, []), (1, .iload_n 1, []), (2, .iload_n 2, []), (3, .invokestatic 194, [45, 2, 0, 467, 0]), (6, .iadd, []), (7, .istore_n 3, []), (8, .iconst 0, []), (9, .iload_n 3, []), (10, .if_icmp .ge 11, [1]), (13, .iload_n 3, []), (14, .ldc 200, [0, 2147483639, 470]), (16, .if_icmp .gt 5, [1]), (19, .iload_n 3, []), (20, .ireturn, [0])]
def B44_1 : List mmI := [(21, .iload_n 0, []), (22, .iload_n 1, []), (23, .athrow, [])]
def M44 : List (List mmI) := [B44_0, B44_1]
/- 45: java/lang/Math.max(II)I -/
def B45_0 : List mmI := [(0, .iload_n 0, []), (1, .iload_n 1, []), (2, .if_icmp .lt 7, [1]), (5, .iload_n 0, []), (6, .goto 4, [2])]
def B45_1 : List mmI := [(9, .iload_n 1, []), (10, .nop, [2])]
def B45_2 : List mmI := [(10, .ireturn, [0])]
def M45 : List (List mmI) := [B45_0, B45_1, B45_2]
/- 46: java/util/Arrays.copyOf([Ljava/lang/Object;I)[Ljava/lang/Object; -/
def B46_0 : List mmI := [(0, .aload_n 0, []), (1, .iload_n 1, []), (2, .aload_n 0, []), (3, .invokevirtual 86, [1002, 3, 477]), (6, .invokestatic 300, [47, 3, 0, 492, 0]), (9, .areturn, [])]
def M46 : List (List mmI) := [B46_0]
/- 47: java/util/Arrays.copyOf([Ljava/lang/Object;ILjava/lang/Class;)[Ljava/lang/Object; -/
def B47_0 : List mmI := [(0, .aload_n 2, []), (1, .ldc 110, [1, 3, 495]), (3, .if_acmp .ne 10, [1]), (6, .iload_n 1, []), (7, .anewarray 2, [3, 497]), (10, .goto 14, [2])]
def B47_1 : List mmI := [(13, .aload_n 2, []), (14, .athrow, [])]
def B47_2 : List mmI := [(24, .astore_n 3, []), (25, .aload_n 0, []), (26, .iconst 0, []), (27, .aload_n 3, []), (28, .iconst 0, []), (29, .aload_n 0, []), (30, .arraylength, []), (31, .iload_n 1, []), (32, .invokestatic 304, [7, 2, 0, 152, 0]), (35, .invokestatic 150, [1000, 155]), (38, .aload_n 3, []), (39, .areturn, [])]
def M47 : List (List mmI) := [B47_0, B47_1, B47_2]
/- 48: BoundsPlanner$Reader.readContent(LBoundsPlanner$Node;II)V -/
def B48_0 : List mmI := [(0, .aload_n 1, []), (1, .getfield 74, [4, 1, 0, 369]), (4, .tableswitch 175 2 18 #[154, 163, 163, 175, 175, 175, 113, 175, 151, 175, 175, 175, 175, 175, 84, 175, 99], [10, 8, 9, 9, 10, 10, 10, 3, 10, 7, 10, 10, 10, 10, 10, 1, 10, 2])]
def B48_1 : List mmI := [(88, .aload_n 1, []), (89, .aload_n 0, []), (90, .iconst 4, []), (91, .iload_n 2, []), (92, .invokevirtual 43, [38, 3, 3, 439, 0]), (95, .l2i, []), (96, .i2l, []), (97, .putfield 77, [4, 8, 2, 393]), (100, .goto 84, [11])]
def B48_2 : List mmI := [(103, .aload_n 1, []), (104, .aload_n 0, []), (105, .bipush 8, []), (107, .iload_n 2, []), (108, .invokevirtual 43, [38, 3, 3, 439, 0]), (111, .putfield 77, [4, 8, 2, 393]), (114, .goto 70, [11])]
def B48_3 : List mmI := [(117, .aload_n 1, []), (118, .aload_n 0, []), (119, .iconst 1, []), (120, .iload_n 2, []), (121, .invokevirtual 43, [38, 3, 3, 439, 0]), (124, .putfield 77, [4, 8, 2, 393]), (127, .aload_n 0, []), (128, .aload_n 0, []), (129, .getfield 26, [2, 3, 0, 269]), (132, .ifCond .ne 12, [4]), (135, .aload_n 1, []), (136, .getfield 77, [4, 8, 0, 393]), (139, .lconst 1, []), (140, .lcmp, []), (141, .ifCond .le 7, [5]), (144, .nop, [4])]
def B48_4 : List mmI := [(144, .iconst 1, []), (145, .goto 4, [6])]
def B48_5 : List mmI := [(148, .iconst 0, []), (149, .nop, [6])]
def B48_6 : List mmI := [(149, .putfield 26, [2, 3, 1, 269]), (152, .goto 32, [11])]
def B48_7 : List mmI := [(155, .goto 29, [11])]
def B48_8 : List mmI := [(158, .aload_n 0, []), (159, .aload_n 1, []), (160, .iload_n 2, []), (161, .invokevirtual 81, [49, 3, 3, 504, 0]), (164, .goto 20, [11])]
def B48_9 : List mmI := [(167, .aload_n 0, []), (168, .aload_n 1, []), (169, .iload_n 2, []), (170, .iload_n 3, []), (171, .iconst 1, []), (172, .iadd, []), (173, .invokevirtual 35, [37, 4, 3, 435, 0]), (176, .goto 8, [11])]
def B48_10 : List mmI := [(179, .aload_n 0, []), (180, .iconst 1, []), (181, .putfield 26, [2, 3, 1, 269]), (184, .nop, [11])]
def B48_11 : List mmI := [(184, .return_, [])]
def M48 : List (List mmI) := [B48_0, B48_1, B48_2, B48_3, B48_4, B48_5, B48_6, B48_7, B48_8, B48_9, B48_10, B48_11]
/- 49: BoundsPlanner$Reader.readText(LBoundsPlanner$Node;I)V -/
def B49_0 : List mmI := [(0, .aload_n 0, []), (1, .iconst 4, []), (2, .iload_n 2, []), (3, .invokevirtual 43, [38, 3, 3, 439, 0]), (6, .l2i, []), (7, .istore_n 3, []), (8, .aload_n 0, []), (9, .getfield 26, [2, 3, 0, 269]), (12, .ifCond .ne 18, [1]), (15, .iload_n 3, []), (16, .iconst 1, []), (17, .if_icmp .lt 13, [1]), (20, .iload_n 3, []), (21, .iload_n 2, []), (22, .aload_n 0, []), (23, .getfield 22, [2, 2, 0, 268]), (26, .isub, []), (27, .if_icmp .le 9, [2]), (30, .nop, [1])]
def B49_1 : List mmI := [(30, .aload_n 0, []), (31, .iconst 1, []), (32, .putfield 26, [2, 3, 1, 269]), (35, .return_, [])]
def B49_2 : List mmI := [(36, .aload_n 1, []), (37, .aload_n 0, []), (38, .getfield 22, [2, 2, 0, 268]), (41, .putfield 85, [4, 6, 0, 389]), (44, .aload_n 1, []), (45, .aload_n 0, []), (46, .getfield 22, [2, 2, 0, 268]), (49, .iload_n 3, []), (50, .iadd, []), (51, .iconst 1, []), (52, .isub, []), (53, .putfield 88, [4, 7, 0, 391]), (56, .aload_n 0, []), (57, .aload_n 0, []), (58, .getfield 18, [2, 1, 0, 267]), (61, .aload_n 1, []), (62, .getfield 88, [4, 7, 0, 391]), (65, .invokestatic 62, [11, 2, 0, 443, 0]), (68, .ifCond .eq 7, [3]), (71, .iconst 1, []), (72, .goto 4, [4])]
def B49_3 : List mmI := [(75, .iconst 0, []), (76, .nop, [4])]
def B49_4 : List mmI := [(76, .putfield 26, [2, 3, 1, 269]), (79, .aload_n 0, []), (80, .dup, []), (81, .getfield 22, [2, 2, 0, 268]), (84, .iload_n 3, []), (85, .iadd, []), (86, .putfield 22, [2, 2, 0, 268]), (89, .return_, [])]
def M49 : List (List mmI) := [B49_0, B49_1, B49_2, B49_3, B49_4]
/- 50: BoundsPlanner$Reader.isNameDue(LBoundsPlanner$Node;LBoundsPlanner$Node;I)Z -/
def B50_0 : List mmI := [(0, .aload_n 1, []), (1, .getfield 74, [4, 1, 0, 369]), (4, .iconst 4, []), (5, .if_icmp .ne 20, [1]), (8, .aload_n 0, []), (9, .getfield 18, [2, 1, 0, 267]), (12, .aload_n 2, []), (13, .invokevirtual 91, [51, 1, 5, 512, 0]), (16, .aload_n 2, []), (17, .getfield 95, [4, 3, 0, 377]), (20, .iload_n 3, []), (21, .invokestatic 98, [52, 4, 0, 516, 0]), (24, .ireturn, [1])]
def B50_1 : List mmI := [(25, .aload_n 1, []), (26, .getfield 55, [4, 9, 0, 398]), (29, .astore 4, []), (31, .nop, [2])]
def B50_2 : List mmI := [(31, .aload 4, []), (33, .ifnull 47, [4]), (36, .aload_n 0, []), (37, .getfield 18, [2, 1, 0, 267]), (40, .aload 4, []), (42, .invokevirtual 91, [51, 1, 5, 512, 0]), (45, .aload 4, []), (47, .getfield 95, [4, 3, 0, 377]), (50, .aload_n 0, []), (51, .getfield 18, [2, 1, 0, 267]), (54, .aload_n 2, []), (55, .invokevirtual 91, [51, 1, 5, 512, 0]), (58, .aload_n 2, []), (59, .getfield 95, [4, 3, 0, 377]), (62, .invokestatic 102, [14, 6, 0, 519, 0]), (65, .ifCond .ne 5, [3]), (68, .iconst 0, []), (69, .ireturn, [1])]
def B50_3 : List mmI := [(70, .aload 4, []), (72, .getfield 59, [4, 10, 0, 405]), (75, .astore 4, []), (77, .goto (-46), [2])]
def B50_4 : List mmI := [(80, .iconst 1, []), (81, .ireturn, [1])]
def M50 : List (List mmI) := [B50_0, B50_1, B50_2, B50_3, B50_4]
/- 51: BoundsPlanner$Node.nameFrom()I -/
def B51_0 : List mmI := [(0, .aload_n 0, []), (1, .getfield 17, [4, 2, 0, 371]), (4, .iconst 1, []), (5, .iadd, []), (6, .ireturn, [0])]
def M51 : List (List mmI) := [B51_0]
/- 52: BoundsPlanner$Bytes.isDecimal([BIII)Z -/
def B52_0 : List mmI := [(0, .iload_n 3, []), (1, .istore 4, []), (3, .iload_n 2, []), (4, .istore 5, []), (6, .nop, [1])]
def B52_1 : List mmI := [(6, .iinc 5 (-1), []), (9, .iload 5, []), (11, .iload_n 1, []), (12, .if_icmp .lt 20, [2]), (15, .aload_n 0, []), (16, .iload 5, []), (18, .invokestatic 13, [11, 2, 0, 174, 0]), (21, .bipush 48, []), (23, .iload 4, []), (25, .bipush 10, []), (27, .irem, []), (28, .iadd, []), (29, .if_icmp .eq 5, [3]), (32, .nop, [2])]
def B52_2 : List mmI := [(32, .iconst 0, []), (33, .ireturn, [1])]
def B52_3 : List mmI := [(34, .iload 4, []), (36, .bipush 10, []), (38, .idiv, []), (39, .istore 4, []), (41, .iload 4, []), (43, .ifCond .gt (-37), [1]), (46, .iload 5, []), (48, .iload_n 1, []), (49, .if_icmp .ne 7, [4]), (52, .iconst 1, []), (53, .goto 4, [5])]
def B52_4 : List mmI := [(56, .iconst 0, []), (57, .nop, [5])]
def B52_5 : List mmI := [(57, .ireturn, [1])]
def M52 : List (List mmI) := [B52_0, B52_1, B52_2, B52_3, B52_4, B52_5]
/- 53: BoundsPlanner$Reader.hasRightTexts()Z -/
def B53_0 : List mmI := [(0, .iconst 0, []), (1, .istore_n 1, []), (2, .nop, [1])]
def B53_1 : List mmI := [(2, .iload_n 1, []), (3, .aload_n 0, []), (4, .getfield 12, [2, 0, 0, 265]), (7, .invokevirtual 106, [54, 1, 4, 524, 0]), (10, .if_icmp .ge 59, [4]), (13, .aload_n 0, []), (14, .getfield 12, [2, 0, 0, 265]), (17, .iload_n 1, []), (18, .invokevirtual 109, [55, 2, 4, 528, 0]), (21, .checkcast 30, [0, 4, 283]), (24, .astore_n 2, []), (25, .aload_n 0, []), (26, .getfield 18, [2, 1, 0, 267]), (29, .aload_n 2, []), (30, .invokevirtual 91, [51, 1, 5, 512, 0]), (33, .aload_n 2, []), (34, .getfield 95, [4, 3, 0, 377]), (37, .invokestatic 113, [9, 3, 0, 540, 0]), (40, .ifCond .eq 21, [2]), (43, .aload_n 0, []), (44, .getfield 18, [2, 1, 0, 267]), (47, .aload_n 2, []), (48, .getfield 85, [4, 6, 0, 389]), (51, .aload_n 2, []), (52, .getfield 88, [4, 7, 0, 391]), (55, .invokestatic 113, [9, 3, 0, 540, 0]), (58, .ifCond .ne 5, [3]), (61, .nop, [2])]
def B53_2 : List mmI := [(61, .iconst 0, []), (62, .ireturn, [1])]
def B53_3 : List mmI := [(63, .iinc 1 1, []), (66, .goto (-64), [1])]
def B53_4 : List mmI := [(69, .iconst 1, []), (70, .ireturn, [1])]
def M53 : List (List mmI) := [B53_0, B53_1, B53_2, B53_3, B53_4]
/- 54: java/util/ArrayList.size()I -/
def B54_0 : List mmI := [(0, .aload_n 0, []), (1, .getfield 48, [3, 1, 0, 254]), (4, .ireturn, [0])]
def M54 : List (List mmI) := [B54_0]
/- 55: java/util/ArrayList.get(I)Ljava/lang/Object; -/
def B55_0 : List mmI := [(0, .iload_n 1, []), (1, .aload_n 0, []), (2, .getfield 48, [3, 1, 0, 254]), (5, .invokestatic 118, [56, 2, 0, 532, 0]), (8, .pop, []), (9, .aload_n 0, []), (10, .iload_n 1, []), (11, .invokevirtual 123, [57, 2, 4, 536, 0]), (14, .areturn, [])]
def M55 : List (List mmI) := [B55_0]
/- 56: java/util/Objects.checkIndex(II)I -/
def B56_0 : List mmI := [(0, .iload_n 0, []), (1, .iload_n 1, []), (2, .aconst_null, []), (3, .invokestatic 105, [35, 3, 0, 535, 0]), (6, .ireturn, [0])]
def M56 : List (List mmI) := [B56_0]
/- 57: java/util/ArrayList.elementData(I)Ljava/lang/Object; -/
def B57_0 : List mmI := [(0, .aload_n 0, []), (1, .getfield 9, [3, 0, 0, 253]), (4, .iload_n 1, []), (5, .aaload, []), (6, .areturn, [])]
def M57 : List (List mmI) := [B57_0]
/- 58: BoundsPlanner$Checker.<init>()V -/
def B58_0 : List mmI := [(0, .aload_n 0, []), (1, .invokespecial 1, [1003, 546]), (4, .aload_n 0, []), (5, .iconst 0, []), (6, .putfield 7, [5, 0, 0, 547]), (9, .return_, [])]
def M58 : List (List mmI) := [B58_0]
/- 59: BoundsPlanner$Checker.faultOfFilter(LBoundsPlanner$Node;I)I -/
def B59_0 : List mmI := [(0, .iconst 0, []), (1, .istore_n 3, []), (2, .aload_n 1, []), (3, .getfield 13, [4, 9, 0, 396]), (6, .astore 4, []), (8, .nop, [1])]
def B59_1 : List mmI := [(8, .aload 4, []), (10, .ifnull 43, [4]), (13, .iload_n 3, []), (14, .ifCond .ne 39, [4]), (17, .aload 4, []), (19, .getfield 19, [4, 4, 0, 380]), (22, .ifCond .ne 13, [2]), (25, .aload_n 0, []), (26, .aload 4, []), (28, .iload_n 2, []), (29, .invokevirtual 22, [60, 3, 6, 555, 0]), (32, .goto 10, [3])]
def B59_2 : List mmI := [(35, .aload_n 0, []), (36, .aload 4, []), (38, .iload_n 2, []), (39, .invokevirtual 26, [68, 3, 6, 591, 0]), (42, .nop, [3])]
def B59_3 : List mmI := [(42, .istore_n 3, []), (43, .aload 4, []), (45, .getfield 29, [4, 10, 0, 402]), (48, .astore 4, []), (50, .goto (-42), [1])]
def B59_4 : List mmI := [(53, .iload_n 3, []), (54, .ireturn, [0])]
def M59 : List (List mmI) := [B59_0, B59_1, B59_2, B59_3, B59_4]
/- 60: BoundsPlanner$Checker.faultOfPath(LBoundsPlanner$Node;I)I -/
def B60_0 : List mmI := [(0, .aload_n 1, []), (1, .getfield 48, [4, 0, 0, 364]), (4, .aload_n 1, []), (5, .invokevirtual 52, [51, 1, 5, 559, 0]), (8, .aload_n 1, []), (9, .getfield 56, [4, 3, 0, 375]), (12, .iconst 0, []), (13, .invokestatic 59, [12, 4, 0, 560, 0]), (16, .ifCond .ne 5, [1]), (19, .iconst 3, []), (20, .ireturn, [0])]
def B60_1 : List mmI := [(21, .aload_n 1, []), (22, .invokevirtual 65, [61, 1, 5, 561, 0]), (25, .ifCond .ne 9, [2]), (28, .aload_n 0, []), (29, .iconst 2, []), (30, .invokevirtual 41, [62, 2, 6, 565, 0]), (33, .ireturn, [0])]
def B60_2 : List mmI := [(34, .aload_n 0, []), (35, .iconst 1, []), (36, .invokevirtual 41, [62, 2, 6, 565, 0]), (39, .istore_n 3, []), (40, .iload_n 3, []), (41, .ifCond .ne 12, [3]), (44, .aload_n 0, []), (45, .aload_n 1, []), (46, .iload_n 2, []), (47, .invokevirtual 68, [63, 3, 6, 569, 0]), (50, .goto 4, [4])]
def B60_3 : List mmI := [(53, .iload_n 3, []), (54, .nop, [4])]
def B60_4 : List mmI := [(54, .ireturn, [0])]
def M60 : List (List mmI) := [B60_0, B60_1, B60_2, B60_3, B60_4]
/- 61: BoundsPlanner$Node.isConditions()Z -/
def B61_0 : List mmI := [(0, .aload_n 0, []), (1, .getfield 13, [4, 1, 0, 366]), (4, .iconst 3, []), (5, .if_icmp .ne 24, [1]), (8, .aload_n 0, []), (9, .getfield 77, [4, 9, 0, 400]), (12, .ifnull 17, [1]), (15, .aload_n 0, []), (16, .getfield 77, [4, 9, 0, 400]), (19, .getfield 27, [4, 4, 0, 378]), (22, .ifCond .eq 7, [1]), (25, .iconst 1, []), (26, .goto 4, [2])]
def B61_1 : List mmI := [(29, .iconst 0, []), (30, .nop, [2])]
def B61_2 : List mmI := [(30, .ireturn, [1])]
def M61 : List (List mmI) := [B61_0, B61_1, B61_2]
/- 62: BoundsPlanner$Checker.faultOfCount(I)I -/
def B62_0 : List mmI := [(0, .aload_n 0, []), (1, .dup, []), (2, .getfield 7, [5, 0, 0, 547]), (5, .iload_n 1, []), (6, .iadd, []), (7, .putfield 7, [5, 0, 0, 547]), (10, .aload_n 0, []), (11, .getfield 7, [5, 0, 0, 547]), (14, .bipush 100, []), (16, .if_icmp .le 7, [1]), (19, .iconst 5, []), (20, .goto 4, [2])]
def B62_1 : List mmI := [(23, .iconst 0, []), (24, .nop, [2])]
def B62_2 : List mmI := [(24, .ireturn, [0])]
def M62 : List (List mmI) := [B62_0, B62_1, B62_2]
/- 63: BoundsPlanner$Checker.faultOfConditions(LBoundsPlanner$Node;I)I -/
def B63_0 : List mmI := [(0, .iconst 0, []), (1, .istore_n 3, []), (2, .aload_n 1, []), (3, .getfield 13, [4, 9, 0, 396]), (6, .astore 4, []), (8, .nop, [1])]
def B63_1 : List mmI := [(8, .aload 4, []), (10, .ifnull 25, [2]), (13, .iload_n 3, []), (14, .ifCond .ne 21, [2]), (17, .aload_n 0, []), (18, .aload 4, []), (20, .iload_n 2, []), (21, .invokevirtual 71, [64, 3, 6, 573, 0]), (24, .istore_n 3, []), (25, .aload 4, []), (27, .getfield 29, [4, 10, 0, 402]), (30, .astore 4, []), (32, .goto (-24), [1])]
def B63_2 : List mmI := [(35, .iload_n 3, []), (36, .ireturn, [0])]
def M63 : List (List mmI) := [B63_0, B63_1, B63_2]
/- 64: BoundsPlanner$Checker.faultOfCondition(LBoundsPlanner$Node;I)I -/
def B64_0 : List mmI := [(0, .aload_n 1, []), (1, .getfield 19, [4, 4, 0, 380]), (4, .istore_n 3, []), (5, .iload_n 3, []), (6, .ifCond .eq 15, [1]), (9, .iload_n 3, []), (10, .iconst 1, []), (11, .if_icmp .eq 10, [1]), (14, .aload_n 1, []), (15, .invokevirtual 32, [65, 1, 5, 577, 0]), (18, .ifCond .eq 5, [2]), (21, .nop, [1])]
def B64_1 : List mmI := [(21, .iconst 1, []), (22, .ireturn, [0])]
def B64_2 : List mmI := [(23, .aload_n 1, []), (24, .invokestatic 74, [66, 1, 0, 581, 0]), (27, .ifCond .eq 9, [3]), (30, .iload_n 2, []), (31, .bipush 16, []), (33, .if_icmp .le 5, [4]), (36, .nop, [3])]
def B64_3 : List mmI := [(36, .iconst 4, []), (37, .ireturn, [0])]
def B64_4 : List mmI := [(38, .aload_n 0, []), (39, .iconst 1, []), (40, .invokevirtual 41, [62, 2, 6, 565, 0]), (43, .istore 4, []), (45, .iload 4, []), (47, .ifCond .eq 6, [5]), (50, .iload 4, []), (52, .ireturn, [0])]
def B64_5 : List mmI := [(53, .iload_n 3, []), (54, .bipush 16, []), (56, .if_icmp .eq 16, [6]), (59, .iload_n 3, []), (60, .bipush 15, []), (62, .if_icmp .ne 19, [7]), (65, .aload_n 1, []), (66, .invokevirtual 78, [67, 1, 5, 584, 0]), (69, .ifCond .eq 12, [7]), (72, .nop, [6])]
def B64_6 : List mmI := [(72, .aload_n 0, []), (73, .aload_n 1, []), (74, .iload_n 2, []), (75, .iconst 1, []), (76, .iadd, []), (77, .invokevirtual 68, [63, 3, 6, 569, 0]), (80, .ireturn, [0])]
def B64_7 : List mmI := [(81, .iload_n 3, []), (82, .bipush 15, []), (84, .if_icmp .ne 14, [8]), (87, .aload_n 0, []), (88, .aload_n 1, []), (89, .iload_n 2, []), (90, .iconst 1, []), (91, .iadd, []), (92, .invokevirtual 45, [59, 3, 6, 590, 0]), (95, .goto 4, [9])]
def B64_8 : List mmI := [(98, .iconst 0, []), (99, .nop, [9])]
def B64_9 : List mmI := [(99, .ireturn, [0])]
def M64 : List (List mmI) := [B64_0, B64_1, B64_2, B64_3, B64_4, B64_5, B64_6, B64_7, B64_8, B64_9]
/- 65: BoundsPlanner$Node.joinsFilters()Z -/
def B65_0 : List mmI := [(0, .aload_n 0, []), (1, .getfield 27, [4, 4, 0, 378]), (4, .iconst 2, []), (5, .if_icmp .eq 19, [1]), (8, .aload_n 0, []), (9, .getfield 27, [4, 4, 0, 378]), (12, .iconst 3, []), (13, .if_icmp .eq 11, [1]), (16, .aload_n 0, []), (17, .getfield 27, [4, 4, 0, 378]), (20, .iconst 4, []), (21, .if_icmp .ne 7, [2]), (24, .nop, [1])]
def B65_1 : List mmI := [(24, .iconst 1, []), (25, .goto 4, [3])]
def B65_2 : List mmI := [(28, .iconst 0, []), (29, .nop, [3])]
def B65_3 : List mmI := [(29, .ireturn, [1])]
def M65 : List (List mmI) := [B65_0, B65_1, B65_2, B65_3]
/- 66: BoundsPlanner$Checker.hasRightValue(LBoundsPlanner$Node;)Z -/
def B66_0 : List mmI := [(0, .aload_n 0, []), (1, .getfield 36, [4, 1, 0, 367]), (4, .istore_n 1, []), (5, .aload_n 0, []), (6, .getfield 19, [4, 4, 0, 380]), (9, .tableswitch 117 7 16 #[55, 55, 117, 117, 117, 117, 66, 78, 101, 112], [14, 1, 1, 14, 14, 14, 14, 4, 7, 10, 13])]
def B66_1 : List mmI := [(64, .iload_n 1, []), (65, .iconst 4, []), (66, .if_icmp .ne 7, [2]), (69, .iconst 1, []), (70, .goto 4, [3])]
def B66_2 : List mmI := [(73, .iconst 0, []), (74, .nop, [3])]
def B66_3 : List mmI := [(74, .ireturn, [1])]
def B66_4 : List mmI := [(75, .iload_n 1, []), (76, .bipush 8, []), (78, .if_icmp .ne 7, [5]), (81, .iconst 1, []), (82, .goto 4, [6])]
def B66_5 : List mmI := [(85, .iconst 0, []), (86, .nop, [6])]
def B66_6 : List mmI := [(86, .ireturn, [1])]
def B66_7 : List mmI := [(87, .aload_n 0, []), (88, .getfield 81, [4, 5, 0, 387]), (91, .iconst 2, []), (92, .if_icmp .ne 16, [8]), (95, .aload_n 0, []), (96, .getfield 84, [4, 8, 0, 394]), (99, .lconst 0, []), (100, .lcmp, []), (101, .ifCond .lt 7, [8]), (104, .iconst 1, []), (105, .goto 4, [9])]
def B66_8 : List mmI := [(108, .iconst 0, []), (109, .nop, [9])]
def B66_9 : List mmI := [(109, .ireturn, [1])]
def B66_10 : List mmI := [(110, .iload_n 1, []), (111, .iconst 3, []), (112, .if_icmp .ne 7, [11]), (115, .iconst 1, []), (116, .goto 4, [12])]
def B66_11 : List mmI := [(119, .iconst 0, []), (120, .nop, [12])]
def B66_12 : List mmI := [(120, .ireturn, [1])]
def B66_13 : List mmI := [(121, .aload_n 0, []), (122, .invokevirtual 65, [61, 1, 5, 561, 0]), (125, .ireturn, [1])]
def B66_14 : List mmI := [(126, .iconst 1, []), (127, .ireturn, [1])]
def M66 : List (List mmI) := [B66_0, B66_1, B66_2, B66_3, B66_4, B66_5, B66_6, B66_7, B66_8, B66_9, B66_10, B66_11, B66_12, B66_13, B66_14]
/- 67: BoundsPlanner$Node.isConditionsOfItem()Z -/
def B67_0 : List mmI := [(0, .aload_n 0, []), (1, .getfield 77, [4, 9, 0, 400]), (4, .ifnull 24, [1]), (7, .aload_n 0, []), (8, .invokevirtual 81, [61, 1, 5, 588, 0]), (11, .ifCond .eq 17, [1]), (14, .aload_n 0, []), (15, .getfield 77, [4, 9, 0, 400]), (18, .invokevirtual 85, [65, 1, 5, 589, 0]), (21, .ifCond .ne 7, [1]), (24, .iconst 1, []), (25, .goto 4, [2])]
def B67_1 : List mmI := [(28, .iconst 0, []), (29, .nop, [2])]
def B67_2 : List mmI := [(29, .ireturn, [1])]
def M67 : List (List mmI) := [B67_0, B67_1, B67_2]
/- 68: BoundsPlanner$Checker.faultOfJoin(LBoundsPlanner$Node;I)I -/
def B68_0 : List mmI := [(0, .aload_n 1, []), (1, .invokevirtual 32, [65, 1, 5, 577, 0]), (4, .ifCond .ne 5, [1]), (7, .iconst 1, []), (8, .ireturn, [0])]
def B68_1 : List mmI := [(9, .aload_n 1, []), (10, .getfield 36, [4, 1, 0, 367]), (13, .iconst 4, []), (14, .if_icmp .ne 16, [2]), (17, .aload_n 1, []), (18, .getfield 13, [4, 9, 0, 396]), (21, .ifnull 9, [2]), (24, .iload_n 2, []), (25, .bipush 16, []), (27, .if_icmp .le 5, [3]), (30, .nop, [2])]
def B68_2 : List mmI := [(30, .iconst 2, []), (31, .ireturn, [0])]
def B68_3 : List mmI := [(32, .aload_n 0, []), (33, .iconst 1, []), (34, .invokevirtual 41, [62, 2, 6, 565, 0]), (37, .istore_n 3, []), (38, .aload_n 1, []), (39, .getfield 13, [4, 9, 0, 396]), (42, .astore 4, []), (44, .nop, [4])]
def B68_4 : List mmI := [(44, .aload 4, []), (46, .ifnull 40, [7]), (49, .iload_n 3, []), (50, .ifCond .ne 36, [7]), (53, .aload 4, []), (55, .getfield 36, [4, 1, 0, 367]), (58, .iconst 3, []), (59, .if_icmp .ne 15, [5]), (62, .aload_n 0, []), (63, .aload 4, []), (65, .iload_n 2, []), (66, .iconst 1, []), (67, .iadd, []), (68, .invokevirtual 45, [59, 3, 6, 590, 0]), (71, .goto 4, [6])]
def B68_5 : List mmI := [(74, .iconst 2, []), (75, .nop, [6])]
def B68_6 : List mmI := [(75, .istore_n 3, []), (76, .aload 4, []), (78, .getfield 29, [4, 10, 0, 402]), (81, .astore 4, []), (83, .goto (-39), [4])]
def B68_7 : List mmI := [(86, .iload_n 3, []), (87, .ireturn, [0])]
def M68 : List (List mmI) := [B68_0, B68_1, B68_2, B68_3, B68_4, B68_5, B68_6, B68_7]
/- 69: BoundsPlanner$Order.number(Ljava/util/ArrayList;)V -/
def B69_0 : List mmI := [(0, .new 7, [3, 598]), (3, .dup, []), (4, .invokespecial 9, [22, 1, 0, 599, 0]), (7, .astore_n 1, []), (8, .iconst 0, []), (9, .istore_n 2, []), (10, .nop, [1])]
def B69_1 : List mmI := [(10, .iload_n 2, []), (11, .aload_n 0, []), (12, .invokevirtual 10, [54, 1, 4, 600, 0]), (15, .if_icmp .ge 28, [2]), (18, .aload_n 0, []), (19, .iload_n 2, []), (20, .invokevirtual 14, [55, 2, 4, 601, 0]), (23, .checkcast 18, [0, 4, 602]), (26, .astore_n 3, []), (27, .aload_n 1, []), (28, .aload_n 1, []), (29, .aload_n 3, []), (30, .invokestatic 20, [70, 2, 0, 603, 0]), (33, .aload_n 3, []), (34, .invokevirtual 26, [74, 3, 4, 618, 0]), (37, .iinc 2 1, []), (40, .goto (-30), [1])]
def B69_2 : List mmI := [(43, .iconst 0, []), (44, .istore_n 2, []), (45, .iconst 0, []), (46, .istore_n 3, []), (47, .nop, [3])]
def B69_3 : List mmI := [(47, .iload_n 3, []), (48, .aload_n 1, []), (49, .invokevirtual 10, [54, 1, 4, 600, 0]), (52, .if_icmp .ge 51, [5]), (55, .aload_n 1, []), (56, .iload_n 3, []), (57, .invokevirtual 14, [55, 2, 4, 601, 0]), (60, .checkcast 18, [0, 4, 602]), (63, .astore 4, []), (65, .iload_n 3, []), (66, .ifCond .le 25, [4]), (69, .aload_n 1, []), (70, .iload_n 3, []), (71, .iconst 1, []), (72, .isub, []), (73, .invokevirtual 14, [55, 2, 4, 601, 0]), (76, .checkcast 18, [0, 4, 602]), (79, .aload 4, []), (81, .iconst 1, []), (82, .invokestatic 30, [71, 3, 0, 606, 0]), (85, .ifCond .eq 6, [4]), (88, .iinc 2 1, []), (91, .nop, [4])]
def B69_4 : List mmI := [(91, .aload 4, []), (93, .iload_n 2, []), (94, .putfield 34, [4, 11, 0, 408]), (97, .iinc 3 1, []), (100, .goto (-53), [3])]
def B69_5 : List mmI := [(103, .return_, [])]
def M69 : List (List mmI) := [B69_0, B69_1, B69_2, B69_3, B69_4, B69_5]
/- 70: BoundsPlanner$Order.countNotGreater(Ljava/util/ArrayList;LBoundsPlanner$Node;)I -/
def B70_0 : List mmI := [(0, .iconst 0, []), (1, .istore_n 2, []), (2, .aload_n 0, []), (3, .invokevirtual 10, [54, 1, 4, 600, 0]), (6, .istore_n 3, []), (7, .nop, [1])]
def B70_1 : List mmI := [(7, .iload_n 2, []), (8, .iload_n 3, []), (9, .if_icmp .ge 41, [4]), (12, .iload_n 2, []), (13, .iload_n 3, []), (14, .iadd, []), (15, .iconst 1, []), (16, .iushr, []), (17, .istore 4, []), (19, .aload_n 0, []), (20, .iload 4, []), (22, .invokevirtual 14, [55, 2, 4, 601, 0]), (25, .checkcast 18, [0, 4, 602]), (28, .aload_n 1, []), (29, .iconst 1, []), (30, .invokestatic 30, [71, 3, 0, 606, 0]), (33, .ifCond .le 9, [2]), (36, .iload 4, []), (38, .istore_n 3, []), (39, .goto 8, [3])]
def B70_2 : List mmI := [(42, .iload 4, []), (44, .iconst 1, []), (45, .iadd, []), (46, .istore_n 2, []), (47, .nop, [3])]
def B70_3 : List mmI := [(47, .goto (-40), [1])]
def B70_4 : List mmI := [(50, .iload_n 2, []), (51, .ireturn, [0])]
def M70 : List (List mmI) := [B70_0, B70_1, B70_2, B70_3, B70_4]
/- 71: BoundsPlanner$Order.compare(LBoundsPlanner$Node;LBoundsPlanner$Node;I)I -/
def B71_0 : List mmI := [(0, .aload_n 0, []), (1, .getfield 38, [4, 5, 0, 384]), (4, .aload_n 1, []), (5, .getfield 38, [4, 5, 0, 384]), (8, .if_icmp .eq 15, [1]), (11, .aload_n 0, []), (12, .getfield 38, [4, 5, 0, 384]), (15, .aload_n 1, []), (16, .getfield 38, [4, 5, 0, 384]), (19, .invokestatic 41, [15, 2, 0, 609, 0]), (22, .ireturn, [0])]
def B71_1 : List mmI := [(23, .aload_n 0, []), (24, .getfield 38, [4, 5, 0, 384]), (27, .tableswitch 70 3 5 #[25, 53, 53], [6, 2, 3, 3])]
def B71_2 : List mmI := [(52, .aload_n 0, []), (53, .getfield 46, [4, 0, 0, 365]), (56, .aload_n 0, []), (57, .getfield 50, [4, 6, 0, 388]), (60, .aload_n 0, []), (61, .getfield 53, [4, 7, 0, 390]), (64, .aload_n 1, []), (65, .getfield 46, [4, 0, 0, 365]), (68, .aload_n 1, []), (69, .getfield 50, [4, 6, 0, 388]), (72, .aload_n 1, []), (73, .getfield 53, [4, 7, 0, 390]), (76, .invokestatic 56, [14, 6, 0, 610, 0]), (79, .ireturn, [0])]
def B71_3 : List mmI := [(80, .iload_n 2, []), (81, .bipush 16, []), (83, .if_icmp .le 7, [4]), (86, .iconst 0, []), (87, .goto 9, [5])]
def B71_4 : List mmI := [(90, .aload_n 0, []), (91, .aload_n 1, []), (92, .iload_n 2, []), (93, .invokestatic 63, [72, 3, 0, 611, 0]), (96, .nop, [5])]
def B71_5 : List mmI := [(96, .ireturn, [0])]
def B71_6 : List mmI := [(97, .aload_n 0, []), (98, .getfield 66, [4, 8, 0, 392]), (101, .aload_n 1, []), (102, .getfield 66, [4, 8, 0, 392]), (105, .invokestatic 70, [73, 2, 0, 615, 0]), (108, .ireturn, [0])]
def M71 : List (List mmI) := [B71_0, B71_1, B71_2, B71_3, B71_4, B71_5, B71_6]
/- 72: BoundsPlanner$Order.compareParts(LBoundsPlanner$Node;LBoundsPlanner$Node;I)I -/
def B72_0 : List mmI := [(0, .aload_n 0, []), (1, .getfield 75, [4, 9, 0, 399]), (4, .astore_n 3, []), (5, .aload_n 1, []), (6, .getfield 75, [4, 9, 0, 399]), (9, .astore 4, []), (11, .nop, [1])]
def B72_1 : List mmI := [(11, .aload_n 3, []), (12, .ifnull 98, [5]), (15, .aload 4, []), (17, .ifnull 93, [5]), (20, .aload_n 3, []), (21, .getfield 38, [4, 5, 0, 384]), (24, .aload 4, []), (26, .getfield 38, [4, 5, 0, 384]), (29, .invokestatic 41, [15, 2, 0, 609, 0]), (32, .istore 5, []), (34, .iload 5, []), (36, .ifCond .ne 35, [2]), (39, .aload_n 3, []), (40, .getfield 46, [4, 0, 0, 365]), (43, .aload_n 3, []), (44, .invokevirtual 79, [51, 1, 5, 614, 0]), (47, .aload_n 3, []), (48, .getfield 82, [4, 3, 0, 376]), (51, .aload 4, []), (53, .getfield 46, [4, 0, 0, 365]), (56, .aload 4, []), (58, .invokevirtual 79, [51, 1, 5, 614, 0]), (61, .aload 4, []), (63, .getfield 82, [4, 3, 0, 376]), (66, .invokestatic 56, [14, 6, 0, 610, 0]), (69, .istore 5, []), (71, .nop, [2])]
def B72_2 : List mmI := [(71, .iload 5, []), (73, .ifCond .ne 14, [3]), (76, .aload_n 3, []), (77, .aload 4, []), (79, .iload_n 2, []), (80, .iconst 1, []), (81, .iadd, []), (82, .invokestatic 30, [71, 3, 0, 606, 0]), (85, .istore 5, []), (87, .nop, [3])]
def B72_3 : List mmI := [(87, .iload 5, []), (89, .ifCond .eq 6, [4]), (92, .iload 5, []), (94, .ireturn, [0])]
def B72_4 : List mmI := [(95, .aload_n 3, []), (96, .getfield 85, [4, 10, 0, 406]), (99, .astore_n 3, []), (100, .aload 4, []), (102, .getfield 85, [4, 10, 0, 406]), (105, .astore 4, []), (107, .goto (-96), [1])]
def B72_5 : List mmI := [(110, .aload_n 3, []), (111, .ifnull 7, [6]), (114, .iconst 1, []), (115, .goto 13, [8])]
def B72_6 : List mmI := [(118, .aload 4, []), (120, .ifnull 7, [7]), (123, .iconst (-1), []), (124, .goto 4, [8])]
def B72_7 : List mmI := [(127, .iconst 0, []), (128, .nop, [8])]
def B72_8 : List mmI := [(128, .ireturn, [0])]
def M72 : List (List mmI) := [B72_0, B72_1, B72_2, B72_3, B72_4, B72_5, B72_6, B72_7, B72_8]
/- 73: java/lang/Long.compare(JJ)I -/
def B73_0 : List mmI := [(0, .lload_n 0, []), (1, .lload_n 2, []), (2, .lcmp, []), (3, .ifCond .ge 7, [1]), (6, .iconst (-1), []), (7, .goto 14, [3])]
def B73_1 : List mmI := [(10, .lload_n 0, []), (11, .lload_n 2, []), (12, .lcmp, []), (13, .ifCond .ne 7, [2]), (16, .iconst 0, []), (17, .goto 4, [3])]
def B73_2 : List mmI := [(20, .iconst 1, []), (21, .nop, [3])]
def B73_3 : List mmI := [(21, .ireturn, [0])]
def M73 : List (List mmI) := [B73_0, B73_1, B73_2, B73_3]
/- 74: java/util/ArrayList.add(ILjava/lang/Object;)V -/
def B74_0 : List mmI := [(0, .aload_n 0, []), (1, .iload_n 1, []), (2, .invokevirtual 135, [75, 2, 4, 622, 0]), (5, .aload_n 0, []), (6, .dup, []), (7, .getfield 63, [3, 2, 0, 256]), (10, .iconst 1, []), (11, .iadd, []), (12, .putfield 63, [3, 2, 0, 256]), (15, .aload_n 0, []), (16, .getfield 48, [3, 1, 0, 254]), (19, .dup, []), (20, .istore_n 3, []), (21, .aload_n 0, []), (22, .getfield 9, [3, 0, 0, 253]), (25, .dup, []), (26, .astore 4, []), (28, .arraylength, []), (29, .if_icmp .ne 9, [1]), (32, .aload_n 0, []), (33, .invokevirtual 129, [42, 1, 4, 456, 0]), (36, .astore 4, []), (38, .nop, [1])]
def B74_1 : List mmI := [(38, .aload 4, []), (40, .iload_n 1, []), (41, .aload 4, []), (43, .iload_n 1, []), (44, .iconst 1, []), (45, .iadd, []), (46, .iload_n 3, []), (47, .iload_n 1, []), (48, .isub, []), (49, .invokestatic 112, [1000, 626]), (52, .aload 4, []), (54, .iload_n 1, []), (55, .aload_n 2, []), (56, .aastore, []), (57, .aload_n 0, []), (58, .iload_n 3, []), (59, .iconst 1, []), (60, .iadd, []), (61, .putfield 48, [3, 1, 0, 254]), (64, .return_, [])]
def M74 : List (List mmI) := [B74_0, B74_1]
/- 75: java/util/ArrayList.rangeCheckForAdd(I)V -/
def B75_0 : List mmI := [(0, .iload_n 1, []), (1, .aload_n 0, []), (2, .getfield 48, [3, 1, 0, 254]), (5, .if_icmp .gt 7, [1]), (8, .iload_n 1, []), (9, .ifCond .ge 16, [2]), (12, .nop, [1])]
def B75_1 : List mmI := [(12, .athrow, [])]
def B75_2 : List mmI := [(25, .return_, [])]
def M75 : List (List mmI) := [B75_0, B75_1, B75_2]
/- 76: BoundsPlanner$Filter.<init>()V -/
def B76_0 : List mmI := [(0, .aload_n 0, []), (1, .invokespecial 1, [1003, 632]), (4, .aload_n 0, []), (5, .new 7, [3, 633]), (8, .dup, []), (9, .invokespecial 9, [22, 1, 0, 634, 0]), (12, .putfield 10, [9, 0, 3, 635]), (15, .aload_n 0, []), (16, .new 7, [3, 633]), (19, .dup, []), (20, .invokespecial 9, [22, 1, 0, 634, 0]), (23, .putfield 16, [9, 1, 3, 636]), (26, .return_, [])]
def M76 : List (List mmI) := [B76_0]
/- 77: BoundsPlanner$Filter.gather(LBoundsPlanner$Node;I)V -/
def B77_0 : List mmI := [(0, .aload_n 1, []), (1, .getfield 19, [4, 9, 0, 395]), (4, .astore_n 3, []), (5, .nop, [1])]
def B77_1 : List mmI := [(5, .aload_n 3, []), (6, .ifnull 122, [9]), (9, .aload_n 3, []), (10, .getfield 25, [4, 4, 0, 379]), (13, .iconst 2, []), (14, .if_icmp .ne 42, [4]), (17, .iload_n 2, []), (18, .bipush 16, []), (20, .if_icmp .gt 36, [4]), (23, .aload_n 3, []), (24, .getfield 19, [4, 9, 0, 395]), (27, .astore 4, []), (29, .nop, [2])]
def B77_2 : List mmI := [(29, .aload 4, []), (31, .ifnull 22, [3]), (34, .aload_n 0, []), (35, .aload 4, []), (37, .iload_n 2, []), (38, .iconst 1, []), (39, .iadd, []), (40, .invokevirtual 31, [77, 3, 10, 646, 0]), (43, .aload 4, []), (45, .getfield 35, [4, 10, 0, 403]), (48, .astore 4, []), (50, .goto (-21), [2])]
def B77_3 : List mmI := [(53, .goto 67, [8])]
def B77_4 : List mmI := [(56, .aload_n 3, []), (57, .getfield 25, [4, 4, 0, 379]), (60, .ifCond .ne 46, [7]), (63, .aload_n 3, []), (64, .invokevirtual 38, [61, 1, 5, 647, 0]), (67, .ifCond .eq 39, [7]), (70, .aload_n 3, []), (71, .getfield 19, [4, 9, 0, 395]), (74, .astore 4, []), (76, .nop, [5])]
def B77_5 : List mmI := [(76, .aload 4, []), (78, .ifnull 25, [6]), (81, .aload_n 0, []), (82, .aload_n 3, []), (83, .aload 4, []), (85, .aload 4, []), (87, .getfield 25, [4, 4, 0, 379]), (90, .invokevirtual 42, [81, 4, 10, 648, 0]), (93, .aload 4, []), (95, .getfield 35, [4, 10, 0, 403]), (98, .astore 4, []), (100, .goto (-24), [5])]
def B77_6 : List mmI := [(103, .goto 17, [8])]
def B77_7 : List mmI := [(106, .aload_n 3, []), (107, .getfield 25, [4, 4, 0, 379]), (110, .ifCond .ne 10, [8]), (113, .aload_n 0, []), (114, .aload_n 3, []), (115, .aload_n 3, []), (116, .iconst 5, []), (117, .invokevirtual 42, [81, 4, 10, 648, 0]), (120, .nop, [8])]
def B77_8 : List mmI := [(120, .aload_n 3, []), (121, .getfield 35, [4, 10, 0, 403]), (124, .astore_n 3, []), (125, .goto (-120), [1])]
def B77_9 : List mmI := [(128, .return_, [])]
def M77 : List (List mmI) := [B77_0, B77_1, B77_2, B77_3, B77_4, B77_5, B77_6, B77_7, B77_8, B77_9]
/- 78: BoundsPlanner$Bounds.ofCondition(LBoundsPlanner$Node;I)Ljava/util/ArrayList; -/
def B78_0 : List mmI := [(0, .iload_n 1, []), (1, .tableswitch 70 5 12 #[52, 70, 47, 70, 52, 52, 52, 52], [5, 2, 5, 1, 5, 2, 2, 2, 2])]
def B78_1 : List mmI := [(48, .aload_n 0, []), (49, .invokestatic 38, [79, 1, 0, 659, 0]), (52, .areturn, [])]
def B78_2 : List mmI := [(53, .aload_n 0, []), (54, .getfield 42, [4, 1, 0, 368]), (57, .iconst 4, []), (58, .if_icmp .ne 7, [3]), (61, .aconst_null, []), (62, .goto 8, [4])]
def B78_3 : List mmI := [(65, .aload_n 0, []), (66, .iload_n 1, []), (67, .invokestatic 45, [83, 2, 0, 715, 0]), (70, .nop, [4])]
def B78_4 : List mmI := [(70, .areturn, [])]
def B78_5 : List mmI := [(71, .aconst_null, []), (72, .areturn, [])]
def M78 : List (List mmI) := [B78_0, B78_1, B78_2, B78_3, B78_4, B78_5]
/- 79: BoundsPlanner$Bounds.ofItems(LBoundsPlanner$Node;)Ljava/util/ArrayList; -/
def B79_0 : List mmI := [(0, .new 48, [3, 662]), (3, .dup, []), (4, .invokespecial 50, [22, 1, 0, 663, 0]), (7, .astore_n 1, []), (8, .aload_n 0, []), (9, .getfield 13, [4, 9, 0, 397]), (12, .astore_n 2, []), (13, .nop, [1])]
def B79_1 : List mmI := [(13, .aload_n 2, []), (14, .ifnull 116, [7]), (17, .aload_n 2, []), (18, .getfield 42, [4, 1, 0, 368]), (21, .iconst 4, []), (22, .if_icmp .ne 5, [2]), (25, .aconst_null, []), (26, .areturn, [])]
def B79_2 : List mmI := [(27, .new 51, [6, 664]), (30, .dup, []), (31, .aload_n 2, []), (32, .iconst 1, []), (33, .invokespecial 53, [80, 3, 0, 666, 0]), (36, .astore_n 3, []), (37, .aload_n 1, []), (38, .invokevirtual 71, [54, 1, 4, 696, 0]), (41, .istore 4, []), (43, .nop, [3])]
def B79_3 : List mmI := [(43, .iload 4, []), (45, .ifCond .le 33, [4]), (48, .aload_n 1, []), (49, .iload 4, []), (51, .iconst 1, []), (52, .isub, []), (53, .invokevirtual 75, [55, 2, 4, 697, 0]), (56, .checkcast 56, [0, 7, 698]), (59, .getfield 79, [7, 0, 0, 705]), (62, .getfield 83, [6, 3, 0, 682]), (65, .aload_n 3, []), (66, .getfield 83, [6, 3, 0, 682]), (69, .if_icmp .le 9, [4]), (72, .iinc 4 (-1), []), (75, .goto (-32), [3])]
def B79_4 : List mmI := [(78, .iload 4, []), (80, .ifCond .eq 27, [5]), (83, .aload_n 1, []), (84, .iload 4, []), (86, .iconst 1, []), (87, .isub, []), (88, .invokevirtual 75, [55, 2, 4, 697, 0]), (91, .checkcast 56, [0, 7, 698]), (94, .getfield 79, [7, 0, 0, 705]), (97, .getfield 83, [6, 3, 0, 682]), (100, .aload_n 3, []), (101, .getfield 83, [6, 3, 0, 682]), (104, .if_icmp .ge 18, [6]), (107, .nop, [5])]
def B79_5 : List mmI := [(107, .aload_n 1, []), (108, .iload 4, []), (110, .new 56, [7, 698]), (113, .dup, []), (114, .aload_n 3, []), (115, .aload_n 3, []), (116, .invokespecial 58, [82, 3, 0, 700, 0]), (119, .invokevirtual 86, [74, 3, 4, 714, 0]), (122, .nop, [6])]
def B79_6 : List mmI := [(122, .aload_n 2, []), (123, .getfield 31, [4, 10, 0, 404]), (126, .astore_n 2, []), (127, .goto (-114), [1])]
def B79_7 : List mmI := [(130, .aload_n 1, []), (131, .areturn, [])]
def M79 : List (List mmI) := [B79_0, B79_1, B79_2, B79_3, B79_4, B79_5, B79_6, B79_7]
/- 80: BoundsPlanner$End.<init>(LBoundsPlanner$Node;Z)V -/
def B80_0 : List mmI := [(0, .aload_n 0, []), (1, .invokespecial 1, [1003, 669]), (4, .aload_n 1, []), (5, .getfield 7, [4, 5, 0, 382]), (8, .sipush 4096, []), (11, .imul, []), (12, .iconst 1, []), (13, .iadd, []), (14, .aload_n 1, []), (15, .getfield 15, [4, 11, 0, 407]), (18, .iadd, []), (19, .istore_n 3, []), (20, .aload_n 0, []), (21, .aload_n 1, []), (22, .getfield 7, [4, 5, 0, 382]), (25, .putfield 18, [6, 0, 0, 670]), (28, .aload_n 0, []), (29, .aload_n 1, []), (30, .putfield 19, [6, 1, 3, 674]), (33, .aload_n 0, []), (34, .iload_n 2, []), (35, .putfield 23, [6, 2, 1, 677]), (38, .aload_n 0, []), (39, .iconst 2, []), (40, .iload_n 3, []), (41, .imul, []), (42, .iload_n 2, []), (43, .ifCond .eq 7, [1]), (46, .iconst 0, []), (47, .goto 4, [2])]
def B80_1 : List mmI := [(50, .iconst 1, []), (51, .nop, [2])]
def B80_2 : List mmI := [(51, .iadd, []), (52, .putfield 27, [6, 3, 0, 680]), (55, .aload_n 0, []), (56, .iconst 2, []), (57, .iload_n 3, []), (58, .imul, []), (59, .iload_n 2, []), (60, .ifCond .eq 7, [3]), (63, .iconst 1, []), (64, .goto 4, [4])]
def B80_3 : List mmI := [(67, .iconst 0, []), (68, .nop, [4])]
def B80_4 : List mmI := [(68, .iadd, []), (69, .putfield 30, [6, 4, 0, 683]), (72, .return_, [])]
def M80 : List (List mmI) := [B80_0, B80_1, B80_2, B80_3, B80_4]
/- 81: BoundsPlanner$Filter.addCondition(LBoundsPlanner$Node;LBoundsPlanner$Node;I)V -/
def B81_0 : List mmI := [(0, .iload_n 3, []), (1, .bipush 15, []), (3, .if_icmp .ne 14, [1]), (6, .aload_n 2, []), (7, .aload_n 0, []), (8, .getfield 16, [9, 1, 0, 636]), (11, .invokestatic 46, [85, 2, 0, 652, 0]), (14, .goto 8, [2])]
def B81_1 : List mmI := [(17, .aload_n 2, []), (18, .iload_n 3, []), (19, .invokestatic 52, [78, 2, 0, 741, 0]), (22, .nop, [2])]
def B81_2 : List mmI := [(22, .astore 4, []), (24, .aload 4, []), (26, .ifnonnull 4, [3]), (29, .return_, [])]
def B81_3 : List mmI := [(30, .aload_n 0, []), (31, .aload_n 1, []), (32, .getfield 56, [4, 0, 0, 363]), (35, .aload_n 1, []), (36, .invokevirtual 60, [51, 1, 5, 742, 0]), (39, .aload_n 1, []), (40, .getfield 64, [4, 3, 0, 374]), (43, .invokevirtual 67, [91, 4, 10, 743, 0]), (46, .astore 5, []), (48, .aload 5, []), (50, .ifnonnull 23, [4]), (53, .new 71, [8, 749]), (56, .dup, []), (57, .aload_n 1, []), (58, .invokespecial 73, [171, 2, 0, 752, 0]), (61, .astore 5, []), (63, .aload_n 0, []), (64, .getfield 10, [9, 0, 0, 635]), (67, .aload 5, []), (69, .invokevirtual 76, [40, 2, 4, 774, 0]), (72, .pop, []), (73, .nop, [4])]
def B81_4 : List mmI := [(73, .aload 5, []), (75, .aload 4, []), (77, .iload_n 3, []), (78, .iconst 5, []), (79, .if_icmp .eq 9, [5]), (82, .iload_n 3, []), (83, .bipush 7, []), (85, .if_icmp .ne 7, [6]), (88, .nop, [5])]
def B81_5 : List mmI := [(88, .iconst 1, []), (89, .goto 4, [7])]
def B81_6 : List mmI := [(92, .iconst 0, []), (93, .nop, [7])]
def B81_7 : List mmI := [(93, .aload_n 0, []), (94, .getfield 16, [9, 1, 0, 636]), (97, .invokevirtual 80, [172, 4, 9, 775, 0]), (100, .return_, [])]
def M81 : List (List mmI) := [B81_0, B81_1, B81_2, B81_3, B81_4, B81_5, B81_6, B81_7]
/- 82: BoundsPlanner$Interval.<init>(LBoundsPlanner$End;LBoundsPlanner$End;)V -/
def B82_0 : List mmI := [(0, .aload_n 0, []), (1, .invokespecial 1, [1003, 703]), (4, .aload_n 0, []), (5, .aload_n 1, []), (6, .putfield 7, [7, 0, 3, 704]), (9, .aload_n 0, []), (10, .aload_n 2, []), (11, .putfield 13, [7, 1, 3, 707]), (14, .return_, [])]
def M82 : List (List mmI) := [B82_0]
/- 83: BoundsPlanner$Bounds.ofComparison(LBoundsPlanner$Node;I)Ljava/util/ArrayList; -/
def B83_0 : List mmI := [(0, .new 48, [3, 662]), (3, .dup, []), (4, .invokespecial 50, [22, 1, 0, 663, 0]), (7, .astore_n 2, []), (8, .iload_n 1, []), (9, .bipush 9, []), (11, .if_icmp .eq 13, [1]), (14, .iload_n 1, []), (15, .bipush 11, []), (17, .if_icmp .eq 7, [1]), (20, .iconst 1, []), (21, .goto 4, [2])]
def B83_1 : List mmI := [(24, .iconst 0, []), (25, .nop, [2])]
def B83_2 : List mmI := [(25, .istore_n 3, []), (26, .new 51, [6, 664]), (29, .dup, []), (30, .aload_n 0, []), (31, .iload_n 3, []), (32, .invokespecial 53, [80, 3, 0, 666, 0]), (35, .astore 4, []), (37, .iload_n 1, []), (38, .iconst 5, []), (39, .if_icmp .eq 12, [3]), (42, .aload_n 0, []), (43, .getfield 42, [4, 1, 0, 368]), (46, .bipush 10, []), (48, .if_icmp .ne 26, [4]), (51, .nop, [3])]
def B83_3 : List mmI := [(51, .iload_n 3, []), (52, .ifCond .eq 89, [7]), (55, .aload_n 2, []), (56, .new 56, [7, 698]), (59, .dup, []), (60, .aload 4, []), (62, .aload 4, []), (64, .invokespecial 58, [82, 3, 0, 700, 0]), (67, .invokevirtual 61, [40, 2, 4, 718, 0]), (70, .pop, []), (71, .goto 70, [7])]
def B83_4 : List mmI := [(74, .iload_n 1, []), (75, .bipush 9, []), (77, .if_icmp .eq 9, [5]), (80, .iload_n 1, []), (81, .bipush 10, []), (83, .if_icmp .ne 32, [6]), (86, .nop, [5])]
def B83_5 : List mmI := [(86, .aload_n 2, []), (87, .new 56, [7, 698]), (90, .dup, []), (91, .new 51, [6, 664]), (94, .dup, []), (95, .aload_n 0, []), (96, .getfield 65, [4, 5, 0, 386]), (99, .iconst 0, []), (100, .invokespecial 68, [84, 3, 0, 719, 0]), (103, .aload 4, []), (105, .invokespecial 58, [82, 3, 0, 700, 0]), (108, .invokevirtual 61, [40, 2, 4, 718, 0]), (111, .pop, []), (112, .goto 29, [7])]
def B83_6 : List mmI := [(115, .aload_n 2, []), (116, .new 56, [7, 698]), (119, .dup, []), (120, .aload 4, []), (122, .new 51, [6, 664]), (125, .dup, []), (126, .aload_n 0, []), (127, .getfield 65, [4, 5, 0, 386]), (130, .iconst 1, []), (131, .invokespecial 68, [84, 3, 0, 719, 0]), (134, .invokespecial 58, [82, 3, 0, 700, 0]), (137, .invokevirtual 61, [40, 2, 4, 718, 0]), (140, .pop, []), (141, .nop, [7])]
def B83_7 : List mmI := [(141, .aload_n 2, []), (142, .areturn, [])]
def M83 : List (List mmI) := [B83_0, B83_1, B83_2, B83_3, B83_4, B83_5, B83_6, B83_7]
/- 84: BoundsPlanner$End.<init>(IZ)V -/
def B84_0 : List mmI := [(0, .aload_n 0, []), (1, .invokespecial 1, [1003, 669]), (4, .iload_n 1, []), (5, .sipush 4096, []), (8, .imul, []), (9, .iload_n 2, []), (10, .ifCond .eq 9, [1]), (13, .sipush 4095, []), (16, .goto 4, [2])]
def B84_1 : List mmI := [(19, .iconst 0, []), (20, .nop, [2])]
def B84_2 : List mmI := [(20, .iadd, []), (21, .istore_n 3, []), (22, .aload_n 0, []), (23, .iload_n 1, []), (24, .putfield 18, [6, 0, 0, 670]), (27, .aload_n 0, []), (28, .aconst_null, []), (29, .putfield 19, [6, 1, 3, 674]), (32, .aload_n 0, []), (33, .iconst 0, []), (34, .putfield 23, [6, 2, 1, 677]), (37, .aload_n 0, []), (38, .iconst 2, []), (39, .iload_n 3, []), (40, .imul, []), (41, .iconst 1, []), (42, .iadd, []), (43, .putfield 27, [6, 3, 0, 680]), (46, .aload_n 0, []), (47, .iconst 2, []), (48, .iload_n 3, []), (49, .imul, []), (50, .putfield 30, [6, 4, 0, 683]), (53, .return_, [])]
def M84 : List (List mmI) := [B84_0, B84_1, B84_2]
/- 85: BoundsPlanner$Bounds.ofElem(LBoundsPlanner$Node;Ljava/util/ArrayList;)Ljava/util/ArrayList; -/
def B85_0 : List mmI := [(0, .aload_n 0, []), (1, .invokevirtual 7, [67, 1, 5, 655, 0]), (4, .ifCond .ne 5, [1]), (7, .aconst_null, []), (8, .areturn, [])]
def B85_1 : List mmI := [(9, .aconst_null, []), (10, .astore_n 2, []), (11, .aload_n 0, []), (12, .getfield 13, [4, 9, 0, 397]), (15, .astore_n 3, []), (16, .nop, [2])]
def B85_2 : List mmI := [(16, .aload_n 3, []), (17, .ifnull 43, [5]), (20, .aload_n 3, []), (21, .aload_n 3, []), (22, .getfield 17, [4, 4, 0, 381]), (25, .invokestatic 21, [78, 2, 0, 656, 0]), (28, .astore 4, []), (30, .aload_n 2, []), (31, .ifnonnull 9, [3]), (34, .aload 4, []), (36, .astore_n 2, []), (37, .goto 15, [4])]
def B85_3 : List mmI := [(40, .aload 4, []), (42, .ifnull 10, [4]), (45, .aload_n 2, []), (46, .aload 4, []), (48, .aload_n 1, []), (49, .invokestatic 27, [86, 3, 0, 722, 0]), (52, .nop, [4])]
def B85_4 : List mmI := [(52, .aload_n 3, []), (53, .getfield 31, [4, 10, 0, 404]), (56, .astore_n 3, []), (57, .goto (-41), [2])]
def B85_5 : List mmI := [(60, .aload_n 2, []), (61, .ifnull 7, [6]), (64, .aload_n 2, []), (65, .invokestatic 34, [90, 1, 0, 738, 0]), (68, .nop, [6])]
def B85_6 : List mmI := [(68, .aload_n 2, []), (69, .areturn, [])]
def M85 : List (List mmI) := [B85_0, B85_1, B85_2, B85_3, B85_4, B85_5, B85_6]
/- 86: BoundsPlanner$Bounds.meet(Ljava/util/ArrayList;Ljava/util/ArrayList;Ljava/util/ArrayList;)V -/
def B86_0 : List mmI := [(0, .aload_n 0, []), (1, .aload_n 2, []), (2, .invokestatic 90, [87, 2, 0, 725, 0]), (5, .aload_n 0, []), (6, .invokevirtual 94, [88, 1, 4, 728, 0]), (9, .iconst 0, []), (10, .istore_n 3, []), (11, .nop, [1])]
def B86_1 : List mmI := [(11, .iload_n 3, []), (12, .aload_n 2, []), (13, .invokevirtual 71, [54, 1, 4, 696, 0]), (16, .if_icmp .ge 61, [5]), (19, .iconst 0, []), (20, .istore 4, []), (22, .nop, [2])]
def B86_2 : List mmI := [(22, .iload 4, []), (24, .aload_n 1, []), (25, .invokevirtual 71, [54, 1, 4, 696, 0]), (28, .if_icmp .ge 43, [4]), (31, .aload_n 2, []), (32, .iload_n 3, []), (33, .invokevirtual 75, [55, 2, 4, 697, 0]), (36, .checkcast 56, [0, 7, 698]), (39, .aload_n 1, []), (40, .iload 4, []), (42, .invokevirtual 75, [55, 2, 4, 697, 0]), (45, .checkcast 56, [0, 7, 698]), (48, .invokevirtual 97, [89, 2, 8, 732, 0]), (51, .astore 5, []), (53, .aload 5, []), (55, .ifnull 10, [3]), (58, .aload_n 0, []), (59, .aload 5, []), (61, .invokevirtual 61, [40, 2, 4, 718, 0]), (64, .pop, []), (65, .nop, [3])]
def B86_3 : List mmI := [(65, .iinc 4 1, []), (68, .goto (-46), [2])]
def B86_4 : List mmI := [(71, .iinc 3 1, []), (74, .goto (-63), [1])]
def B86_5 : List mmI := [(77, .return_, [])]
def M86 : List (List mmI) := [B86_0, B86_1, B86_2, B86_3, B86_4, B86_5]
/- 87: BoundsPlanner$Bounds.copy(Ljava/util/ArrayList;Ljava/util/ArrayList;)V -/
def B87_0 : List mmI := [(0, .aload_n 1, []), (1, .invokevirtual 94, [88, 1, 4, 728, 0]), (4, .iconst 0, []), (5, .istore_n 2, []), (6, .nop, [1])]
def B87_1 : List mmI := [(6, .iload_n 2, []), (7, .aload_n 0, []), (8, .invokevirtual 71, [54, 1, 4, 696, 0]), (11, .if_icmp .ge 22, [2]), (14, .aload_n 1, []), (15, .aload_n 0, []), (16, .iload_n 2, []), (17, .invokevirtual 75, [55, 2, 4, 697, 0]), (20, .checkcast 56, [0, 7, 698]), (23, .invokevirtual 61, [40, 2, 4, 718, 0]), (26, .pop, []), (27, .iinc 2 1, []), (30, .goto (-24), [1])]
def B87_2 : List mmI := [(33, .return_, [])]
def M87 : List (List mmI) := [B87_0, B87_1, B87_2]
/- 88: java/util/ArrayList.clear()V -/
def B88_0 : List mmI := [(0, .aload_n 0, []), (1, .dup, []), (2, .getfield 63, [3, 2, 0, 256]), (5, .iconst 1, []), (6, .iadd, []), (7, .putfield 63, [3, 2, 0, 256]), (10, .aload_n 0, []), (11, .getfield 9, [3, 0, 0, 253]), (14, .astore_n 1, []), (15, .aload_n 0, []), (16, .getfield 48, [3, 1, 0, 254]), (19, .istore_n 2, []), (20, .aload_n 0, []), (21, .iconst 0, []), (22, .dup_x1, []), (23, .putfield 48, [3, 1, 0, 254]), (26, .istore_n 3, []), (27, .nop, [1])]
def B88_1 : List mmI := [(27, .iload_n 3, []), (28, .iload_n 2, []), (29, .if_icmp .ge 13, [2]), (32, .aload_n 1, []), (33, .iload_n 3, []), (34, .aconst_null, []), (35, .aastore, []), (36, .iinc 3 1, []), (39, .goto (-12), [1])]
def B88_2 : List mmI := [(42, .return_, [])]
def M88 : List (List mmI) := [B88_0, B88_1, B88_2]
/- 89: BoundsPlanner$Interval.meet(LBoundsPlanner$Interval;)LBoundsPlanner$Interval; -/
def B89_0 : List mmI := [(0, .aload_n 1, []), (1, .getfield 7, [7, 0, 0, 704]), (4, .getfield 16, [6, 3, 0, 681]), (7, .aload_n 0, []), (8, .getfield 7, [7, 0, 0, 704]), (11, .getfield 16, [6, 3, 0, 681]), (14, .if_icmp .le 10, [1]), (17, .aload_n 1, []), (18, .getfield 7, [7, 0, 0, 704]), (21, .goto 7, [2])]
def B89_1 : List mmI := [(24, .aload_n 0, []), (25, .getfield 7, [7, 0, 0, 704]), (28, .nop, [2])]
def B89_2 : List mmI := [(28, .astore_n 2, []), (29, .aload_n 1, []), (30, .getfield 13, [7, 1, 0, 707]), (33, .getfield 22, [6, 4, 0, 684]), (36, .aload_n 0, []), (37, .getfield 13, [7, 1, 0, 707]), (40, .getfield 22, [6, 4, 0, 684]), (43, .if_icmp .ge 10, [3]), (46, .aload_n 1, []), (47, .getfield 13, [7, 1, 0, 707]), (50, .goto 7, [4])]
def B89_3 : List mmI := [(53, .aload_n 0, []), (54, .getfield 13, [7, 1, 0, 707]), (57, .nop, [4])]
def B89_4 : List mmI := [(57, .astore_n 3, []), (58, .aload_n 2, []), (59, .getfield 16, [6, 3, 0, 681]), (62, .aload_n 3, []), (63, .getfield 22, [6, 4, 0, 684]), (66, .if_icmp .lt 5, [5]), (69, .aconst_null, []), (70, .areturn, [])]
def B89_5 : List mmI := [(71, .aload_n 2, []), (72, .aload_n 0, []), (73, .getfield 7, [7, 0, 0, 704]), (76, .if_acmp .ne 13, [6]), (79, .aload_n 3, []), (80, .aload_n 0, []), (81, .getfield 13, [7, 1, 0, 707]), (84, .if_acmp .ne 5, [6]), (87, .aload_n 0, []), (88, .areturn, [])]
def B89_6 : List mmI := [(89, .aload_n 2, []), (90, .aload_n 1, []), (91, .getfield 7, [7, 0, 0, 704]), (94, .if_acmp .ne 15, [7]), (97, .aload_n 3, []), (98, .aload_n 1, []), (99, .getfield 13, [7, 1, 0, 707]), (102, .if_acmp .ne 7, [7]), (105, .iconst 1, []), (106, .goto 4, [8])]
def B89_7 : List mmI := [(109, .iconst 0, []), (110, .nop, [8])]
def B89_8 : List mmI := [(110, .istore 4, []), (112, .iload 4, []), (114, .ifCond .eq 7, [9]), (117, .aload_n 1, []), (118, .goto 12, [10])]
def B89_9 : List mmI := [(121, .new 8, [7, 736]), (124, .dup, []), (125, .aload_n 2, []), (126, .aload_n 3, []), (127, .invokespecial 25, [82, 3, 0, 737, 0]), (130, .nop, [10])]
def B89_10 : List mmI := [(130, .areturn, [])]
def M89 : List (List mmI) := [B89_0, B89_1, B89_2, B89_3, B89_4, B89_5, B89_6, B89_7, B89_8, B89_9, B89_10]
/- 90: BoundsPlanner$Bounds.addRows(Ljava/util/ArrayList;)V -/
def B90_0 : List mmI := [(0, .aload_n 0, []), (1, .invokevirtual 71, [54, 1, 4, 696, 0]), (4, .istore_n 1, []), (5, .nop, [1])]
def B90_1 : List mmI := [(5, .iload_n 1, []), (6, .ifCond .le 29, [2]), (9, .aload_n 0, []), (10, .iload_n 1, []), (11, .iconst 1, []), (12, .isub, []), (13, .invokevirtual 75, [55, 2, 4, 697, 0]), (16, .checkcast 56, [0, 7, 698]), (19, .getfield 79, [7, 0, 0, 705]), (22, .getfield 89, [6, 0, 0, 672]), (25, .iconst 5, []), (26, .if_icmp .le 9, [2]), (29, .iinc 1 (-1), []), (32, .goto (-27), [1])]
def B90_2 : List mmI := [(35, .aload_n 0, []), (36, .iload_n 1, []), (37, .new 56, [7, 698]), (40, .dup, []), (41, .new 51, [6, 664]), (44, .dup, []), (45, .iconst 5, []), (46, .iconst 0, []), (47, .invokespecial 68, [84, 3, 0, 719, 0]), (50, .new 51, [6, 664]), (53, .dup, []), (54, .iconst 5, []), (55, .iconst 1, []), (56, .invokespecial 68, [84, 3, 0, 719, 0]), (59, .invokespecial 58, [82, 3, 0, 700, 0]), (62, .invokevirtual 86, [74, 3, 4, 714, 0]), (65, .return_, [])]
def M90 : List (List mmI) := [B90_0, B90_1, B90_2]
/- 91: BoundsPlanner$Filter.clauseOf([BII)LBoundsPlanner$Clause; -/
def B91_0 : List mmI := [(0, .iconst 0, []), (1, .istore 4, []), (3, .nop, [1])]
def B91_1 : List mmI := [(3, .iload 4, []), (5, .aload_n 0, []), (6, .getfield 10, [9, 0, 0, 635]), (9, .invokevirtual 83, [54, 1, 4, 747, 0]), (12, .if_icmp .ge 63, [3]), (15, .aload_n 0, []), (16, .getfield 10, [9, 0, 0, 635]), (19, .iload 4, []), (21, .invokevirtual 86, [55, 2, 4, 748, 0]), (24, .checkcast 71, [0, 8, 749]), (27, .getfield 90, [8, 0, 0, 759]), (30, .astore 5, []), (32, .aload 5, []), (34, .getfield 56, [4, 0, 0, 363]), (37, .aload 5, []), (39, .invokevirtual 60, [51, 1, 5, 742, 0]), (42, .aload 5, []), (44, .getfield 64, [4, 3, 0, 374]), (47, .aload_n 1, []), (48, .iload_n 2, []), (49, .iload_n 3, []), (50, .invokestatic 93, [14, 6, 0, 750, 0]), (53, .ifCond .ne 16, [2]), (56, .aload_n 0, []), (57, .getfield 10, [9, 0, 0, 635]), (60, .iload 4, []), (62, .invokevirtual 86, [55, 2, 4, 748, 0]), (65, .checkcast 71, [0, 8, 749]), (68, .areturn, [])]
def B91_2 : List mmI := [(69, .iinc 4 1, []), (72, .goto (-69), [1])]
def B91_3 : List mmI := [(75, .aconst_null, []), (76, .areturn, [])]
def M91 : List (List mmI) := [B91_0, B91_1, B91_2, B91_3]
/- 92: BoundsPlanner.value(I)I -/
def B92_0 : List mmI := [(0, .iload_n 1, []), (1, .ifCond .lt 11, [1]), (4, .iload_n 1, []), (5, .aload_n 0, []), (6, .getfield 19, [0, 2, 0, 116]), (9, .if_icmp .le 6, [2]), (12, .nop, [1])]
def B92_1 : List mmI := [(12, .bipush (-2), []), (14, .ireturn, [0])]
def B92_2 : List mmI := [(15, .new 58, [2, 229]), (18, .dup, []), (19, .aload_n 0, []), (20, .iload_n 1, []), (21, .invokevirtual 60, [20, 2, 1, 231, 0]), (24, .invokespecial 64, [21, 2, 0, 235, 0]), (27, .invokevirtual 67, [25, 1, 3, 279, 0]), (30, .astore_n 2, []), (31, .aload_n 0, []), (32, .aload_n 2, []), (33, .ifnonnull 7, [3]), (36, .aconst_null, []), (37, .goto 7, [4])]
def B92_3 : List mmI := [(40, .aload_n 2, []), (41, .getfield 95, [4, 9, 0, 401]), (44, .nop, [4])]
def B92_4 : List mmI := [(44, .putfield 27, [0, 4, 3, 118]), (47, .aload_n 0, []), (48, .getfield 27, [0, 4, 0, 118]), (51, .ifnonnull 7, [5]), (54, .iconst (-1), []), (55, .goto 10, [6])]
def B92_5 : List mmI := [(58, .aload_n 0, []), (59, .getfield 27, [0, 4, 0, 118]), (62, .getfield 100, [4, 1, 0, 370]), (65, .nop, [6])]
def B92_6 : List mmI := [(65, .ireturn, [0])]
def M92 : List (List mmI) := [B92_0, B92_1, B92_2, B92_3, B92_4, B92_5, B92_6]
/- 93: BoundsPlanner.many(II)I -/
def B93_0 : List mmI := [(0, .aload_n 0, []), (1, .iload_n 1, []), (2, .iload_n 2, []), (3, .invokevirtual 54, [18, 3, 1, 221, 0]), (6, .astore_n 3, []), (7, .aload_n 3, []), (8, .ifnull 10, [1]), (11, .aload_n 0, []), (12, .getfield 23, [0, 3, 0, 117]), (15, .ifnonnull 6, [2]), (18, .nop, [1])]
def B93_1 : List mmI := [(18, .bipush (-2), []), (20, .ireturn, [0])]
def B93_2 : List mmI := [(21, .aload_n 3, []), (22, .aload_n 0, []), (23, .getfield 23, [0, 3, 0, 117]), (26, .invokevirtual 103, [94, 2, 2, 789, 0]), (29, .astore 4, []), (31, .aload 4, []), (33, .ifnonnull 7, [3]), (36, .iconst (-1), []), (37, .goto 8, [4])]
def B93_3 : List mmI := [(40, .aload 4, []), (42, .invokevirtual 107, [54, 1, 4, 797, 0]), (45, .nop, [4])]
def B93_4 : List mmI := [(45, .ireturn, [0])]
def M93 : List (List mmI) := [B93_0, B93_1, B93_2, B93_3, B93_4]
/- 94: BoundsPlanner$Path.boundsBy(LBoundsPlanner$Filter;)Ljava/util/ArrayList; -/
def B94_0 : List mmI := [(0, .aload_n 0, []), (1, .getfield 20, [1, 3, 0, 204]), (4, .aload_n 1, []), (5, .if_acmp .eq 24, [1]), (8, .aload_n 0, []), (9, .aload_n 1, []), (10, .aload_n 0, []), (11, .getfield 7, [1, 1, 0, 202]), (14, .aload_n 0, []), (15, .getfield 17, [1, 2, 0, 203]), (18, .invokevirtual 24, [95, 3, 10, 793, 0]), (21, .putfield 30, [1, 4, 3, 205]), (24, .aload_n 0, []), (25, .aload_n 1, []), (26, .putfield 20, [1, 3, 3, 204]), (29, .nop, [1])]
def B94_1 : List mmI := [(29, .aload_n 0, []), (30, .getfield 30, [1, 4, 0, 205]), (33, .areturn, [])]
def M94 : List (List mmI) := [B94_0, B94_1]
/- 95: BoundsPlanner$Filter.boundsOf([BZ)Ljava/util/ArrayList; -/
def B95_0 : List mmI := [(0, .aload_n 0, []), (1, .aload_n 1, []), (2, .iconst 0, []), (3, .aload_n 1, []), (4, .arraylength, []), (5, .invokevirtual 67, [91, 4, 10, 743, 0]), (8, .astore_n 3, []), (9, .aload_n 3, []), (10, .ifnonnull 5, [1]), (13, .aconst_null, []), (14, .areturn, [])]
def B95_1 : List mmI := [(15, .iload_n 2, []), (16, .ifCond .eq 10, [2]), (19, .aload_n 3, []), (20, .getfield 99, [8, 2, 0, 763]), (23, .goto 7, [3])]
def B95_2 : List mmI := [(26, .aload_n 3, []), (27, .getfield 102, [8, 1, 0, 761]), (30, .nop, [3])]
def B95_3 : List mmI := [(30, .areturn, [])]
def M95 : List (List mmI) := [B95_0, B95_1, B95_2, B95_3]
/- 96: BoundsPlanner.end(IIIZI)I -/
def B96_0 : List mmI := [(0, .aload_n 0, []), (1, .iload_n 1, []), (2, .iload_n 2, []), (3, .invokevirtual 54, [18, 3, 1, 221, 0]), (6, .astore 6, []), (8, .aload 6, []), (10, .ifnull 10, [1]), (13, .aload_n 0, []), (14, .getfield 23, [0, 3, 0, 117]), (17, .ifnonnull 6, [2]), (20, .nop, [1])]
def B96_1 : List mmI := [(20, .bipush (-2), []), (22, .ireturn, [0])]
def B96_2 : List mmI := [(23, .aload 6, []), (25, .aload_n 0, []), (26, .getfield 23, [0, 3, 0, 117]), (29, .invokevirtual 103, [94, 2, 2, 789, 0]), (32, .astore 7, []), (34, .aload 7, []), (36, .ifnull 16, [3]), (39, .iload_n 3, []), (40, .ifCond .lt 12, [3]), (43, .iload_n 3, []), (44, .aload 7, []), (46, .invokevirtual 107, [54, 1, 4, 797, 0]), (49, .if_icmp .lt 6, [4]), (52, .nop, [3])]
def B96_3 : List mmI := [(52, .bipush (-2), []), (54, .ireturn, [0])]
def B96_4 : List mmI := [(55, .aload 7, []), (57, .aload 6, []), (59, .getfield 113, [1, 0, 0, 201]), (62, .ifCond .eq 15, [5]), (65, .aload 7, []), (67, .invokevirtual 107, [54, 1, 4, 797, 0]), (70, .iconst 1, []), (71, .isub, []), (72, .iload_n 3, []), (73, .isub, []), (74, .goto 4, [6])]
def B96_5 : List mmI := [(77, .iload_n 3, []), (78, .nop, [6])]
def B96_6 : List mmI := [(78, .invokevirtual 117, [55, 2, 4, 802, 0]), (81, .checkcast 121, [0, 7, 803]), (84, .astore 8, []), (86, .iload 4, []), (88, .ifCond .eq 11, [7]), (91, .aload 8, []), (93, .getfield 123, [7, 1, 0, 708]), (96, .goto 8, [8])]
def B96_7 : List mmI := [(99, .aload 8, []), (101, .getfield 127, [7, 0, 0, 706]), (104, .nop, [8])]
def B96_8 : List mmI := [(104, .astore 9, []), (106, .iload 5, []), (108, .tableswitch 87 0 3 #[32, 38, 52, 66], [19, 9, 10, 13, 16])]
def B96_9 : List mmI := [(140, .aload 9, []), (142, .getfield 130, [6, 0, 0, 673]), (145, .ireturn, [0])]
def B96_10 : List mmI := [(146, .aload 9, []), (148, .getfield 135, [6, 1, 0, 676]), (151, .ifnonnull 7, [11]), (154, .iconst 0, []), (155, .goto 4, [12])]
def B96_11 : List mmI := [(158, .iconst 1, []), (159, .nop, [12])]
def B96_12 : List mmI := [(159, .ireturn, [0])]
def B96_13 : List mmI := [(160, .aload 9, []), (162, .getfield 138, [6, 2, 0, 679]), (165, .ifCond .eq 7, [14]), (168, .iconst 1, []), (169, .goto 4, [15])]
def B96_14 : List mmI := [(172, .iconst 0, []), (173, .nop, [15])]
def B96_15 : List mmI := [(173, .ireturn, [0])]
def B96_16 : List mmI := [(174, .aload 9, []), (176, .getfield 135, [6, 1, 0, 676]), (179, .ifnonnull 7, [17]), (182, .iconst (-1), []), (183, .goto 11, [18])]
def B96_17 : List mmI := [(186, .aload 9, []), (188, .getfield 135, [6, 1, 0, 676]), (191, .getfield 141, [4, 2, 0, 372]), (194, .nop, [18])]
def B96_18 : List mmI := [(194, .ireturn, [0])]
def B96_19 : List mmI := [(195, .bipush (-2), []), (197, .ireturn, [0])]
def M96 : List (List mmI) := [B96_0, B96_1, B96_2, B96_3, B96_4, B96_5, B96_6, B96_7, B96_8, B96_9, B96_10, B96_11, B96_12, B96_13, B96_14, B96_15, B96_16, B96_17, B96_18, B96_19]
/- 97: BoundsPlanner.inside(II)I -/
def B97_0 : List mmI := [(0, .aload_n 0, []), (1, .iload_n 1, []), (2, .iload_n 2, []), (3, .invokevirtual 54, [18, 3, 1, 221, 0]), (6, .astore_n 3, []), (7, .aload_n 3, []), (8, .ifnull 17, [1]), (11, .aload_n 0, []), (12, .getfield 23, [0, 3, 0, 117]), (15, .ifnull 10, [1]), (18, .aload_n 0, []), (19, .getfield 27, [0, 4, 0, 118]), (22, .ifnonnull 5, [2]), (25, .nop, [1])]
def B97_1 : List mmI := [(25, .iconst (-1), []), (26, .ireturn, [0])]
def B97_2 : List mmI := [(27, .aload_n 3, []), (28, .aload_n 0, []), (29, .getfield 23, [0, 3, 0, 117]), (32, .invokevirtual 103, [94, 2, 2, 789, 0]), (35, .astore 4, []), (37, .aload 4, []), (39, .ifnull 15, [3]), (42, .aload 4, []), (44, .aload_n 0, []), (45, .getfield 27, [0, 4, 0, 118]), (48, .invokestatic 144, [98, 2, 0, 808, 0]), (51, .ifCond .eq 7, [4]), (54, .nop, [3])]
def B97_3 : List mmI := [(54, .iconst 1, []), (55, .goto 4, [5])]
def B97_4 : List mmI := [(58, .iconst 0, []), (59, .nop, [5])]
def B97_5 : List mmI := [(59, .ireturn, [0])]
def M97 : List (List mmI) := [B97_0, B97_1, B97_2, B97_3, B97_4, B97_5]
/- 98: BoundsPlanner$Bounds.hold(Ljava/util/ArrayList;LBoundsPlanner$Node;)Z -/
def B98_0 : List mmI := [(0, .iconst 0, []), (1, .istore_n 2, []), (2, .nop, [1])]
def B98_1 : List mmI := [(2, .iload_n 2, []), (3, .aload_n 0, []), (4, .invokevirtual 71, [54, 1, 4, 696, 0]), (7, .if_icmp .ge 26, [3]), (10, .aload_n 0, []), (11, .iload_n 2, []), (12, .invokevirtual 75, [55, 2, 4, 697, 0]), (15, .checkcast 56, [0, 7, 698]), (18, .aload_n 1, []), (19, .invokevirtual 103, [99, 2, 8, 811, 0]), (22, .ifCond .eq 5, [2]), (25, .iconst 1, []), (26, .ireturn, [1])]
def B98_2 : List mmI := [(27, .iinc 2 1, []), (30, .goto (-28), [1])]
def B98_3 : List mmI := [(33, .iconst 0, []), (34, .ireturn, [1])]
def M98 : List (List mmI) := [B98_0, B98_1, B98_2, B98_3]
/- 99: BoundsPlanner$Interval.holds(LBoundsPlanner$Node;)Z -/
def B99_0 : List mmI := [(0, .aload_n 1, []), (1, .getfield 37, [4, 5, 0, 385]), (4, .aload_n 0, []), (5, .getfield 7, [7, 0, 0, 704]), (8, .getfield 40, [6, 0, 0, 671]), (11, .if_icmp .eq 5, [1]), (14, .iconst 0, []), (15, .ireturn, [1])]
def B99_1 : List mmI := [(16, .aload_n 0, []), (17, .getfield 7, [7, 0, 0, 704]), (20, .getfield 28, [6, 1, 0, 675]), (23, .ifnonnull 7, [2]), (26, .iconst 1, []), (27, .goto 15, [3])]
def B99_2 : List mmI := [(30, .aload_n 1, []), (31, .aload_n 0, []), (32, .getfield 7, [7, 0, 0, 704]), (35, .getfield 28, [6, 1, 0, 675]), (38, .iconst 1, []), (39, .invokestatic 41, [71, 3, 0, 815, 1]), (42, .nop, [3])]
def B99_3 : List mmI := [(42, .istore_n 2, []), (43, .aload_n 0, []), (44, .getfield 13, [7, 1, 0, 707]), (47, .getfield 28, [6, 1, 0, 675]), (50, .ifnonnull 7, [4]), (53, .iconst (-1), []), (54, .goto 15, [5])]
def B99_4 : List mmI := [(57, .aload_n 1, []), (58, .aload_n 0, []), (59, .getfield 13, [7, 1, 0, 707]), (62, .getfield 28, [6, 1, 0, 675]), (65, .iconst 1, []), (66, .invokestatic 41, [71, 3, 0, 815, 1]), (69, .nop, [5])]
def B99_5 : List mmI := [(69, .istore_n 3, []), (70, .iload_n 2, []), (71, .ifCond .gt 17, [6]), (74, .iload_n 2, []), (75, .ifCond .ne 35, [8]), (78, .aload_n 0, []), (79, .getfield 7, [7, 0, 0, 704]), (82, .getfield 47, [6, 2, 0, 678]), (85, .ifCond .eq 25, [8]), (88, .nop, [6])]
def B99_6 : List mmI := [(88, .iload_n 3, []), (89, .ifCond .lt 17, [7]), (92, .iload_n 3, []), (93, .ifCond .ne 17, [8]), (96, .aload_n 0, []), (97, .getfield 13, [7, 1, 0, 707]), (100, .getfield 47, [6, 2, 0, 678]), (103, .ifCond .eq 7, [8]), (106, .nop, [7])]
def B99_7 : List mmI := [(106, .iconst 1, []), (107, .goto 4, [9])]
def B99_8 : List mmI := [(110, .iconst 0, []), (111, .nop, [9])]
def B99_9 : List mmI := [(111, .ireturn, [1])]
def M99 : List (List mmI) := [B99_0, B99_1, B99_2, B99_3, B99_4, B99_5, B99_6, B99_7, B99_8, B99_9]
/- 100: BoundsPlanner.rank(I)I -/
def B100_0 : List mmI := [(0, .aload_n 0, []), (1, .getfield 23, [0, 3, 0, 117]), (4, .ifnull 12, [1]), (7, .aload_n 0, []), (8, .iload_n 1, []), (9, .iconst 0, []), (10, .invokevirtual 54, [18, 3, 1, 221, 0]), (13, .ifnonnull 7, [2]), (16, .nop, [1])]
def B100_1 : List mmI := [(16, .iconst (-1), []), (17, .goto 12, [3])]
def B100_2 : List mmI := [(20, .aload_n 0, []), (21, .iload_n 1, []), (22, .aload_n 0, []), (23, .getfield 23, [0, 3, 0, 117]), (26, .invokevirtual 150, [101, 3, 1, 820, 0]), (29, .nop, [3])]
def B100_3 : List mmI := [(29, .ireturn, [0])]
def M100 : List (List mmI) := [B100_0, B100_1, B100_2, B100_3]
/- 101: BoundsPlanner.rankOf(ILBoundsPlanner$Filter;)I -/
def B101_0 : List mmI := [(0, .aload_n 0, []), (1, .iload_n 1, []), (2, .iconst 0, []), (3, .invokevirtual 54, [18, 3, 1, 221, 0]), (6, .astore_n 3, []), (7, .aload_n 3, []), (8, .ifnonnull 7, [1]), (11, .aconst_null, []), (12, .goto 8, [2])]
def B101_1 : List mmI := [(15, .aload_n 3, []), (16, .aload_n 2, []), (17, .invokevirtual 103, [94, 2, 2, 789, 0]), (20, .nop, [2])]
def B101_2 : List mmI := [(20, .astore 4, []), (22, .aload 4, []), (24, .ifnonnull 5, [3]), (27, .iconst 0, []), (28, .ireturn, [0])]
def B101_3 : List mmI := [(29, .aload 4, []), (31, .invokestatic 158, [102, 1, 0, 824, 0]), (34, .ifCond .ne 5, [4]), (37, .iconst 1, []), (38, .ireturn, [0])]
def B101_4 : List mmI := [(39, .aload_n 0, []), (40, .iload_n 1, []), (41, .iconst 1, []), (42, .invokevirtual 54, [18, 3, 1, 221, 0]), (45, .astore 5, []), (47, .aload 5, []), (49, .ifnull 12, [5]), (52, .aload 5, []), (54, .aload_n 2, []), (55, .invokevirtual 103, [94, 2, 2, 789, 0]), (58, .ifnonnull 7, [6]), (61, .nop, [5])]
def B101_5 : List mmI := [(61, .iconst 2, []), (62, .goto 4, [7])]
def B101_6 : List mmI := [(65, .iconst 3, []), (66, .nop, [7])]
def B101_7 : List mmI := [(66, .ireturn, [0])]
def M101 : List (List mmI) := [B101_0, B101_1, B101_2, B101_3, B101_4, B101_5, B101_6, B101_7]
/- 102: BoundsPlanner$Bounds.arePoints(Ljava/util/ArrayList;)Z -/
def B102_0 : List mmI := [(0, .iconst 0, []), (1, .istore_n 1, []), (2, .nop, [1])]
def B102_1 : List mmI := [(2, .iload_n 1, []), (3, .aload_n 0, []), (4, .invokevirtual 71, [54, 1, 4, 696, 0]), (7, .if_icmp .ge 25, [3]), (10, .aload_n 0, []), (11, .iload_n 1, []), (12, .invokevirtual 75, [55, 2, 4, 697, 0]), (15, .checkcast 56, [0, 7, 698]), (18, .invokevirtual 100, [103, 1, 8, 827, 0]), (21, .ifCond .ne 5, [2]), (24, .iconst 0, []), (25, .ireturn, [1])]
def B102_2 : List mmI := [(26, .iinc 1 1, []), (29, .goto (-27), [1])]
def B102_3 : List mmI := [(32, .iconst 1, []), (33, .ireturn, [1])]
def M102 : List (List mmI) := [B102_0, B102_1, B102_2, B102_3]
/- 103: BoundsPlanner$Interval.isPoint()Z -/
def B103_0 : List mmI := [(0, .aload_n 0, []), (1, .getfield 7, [7, 0, 0, 704]), (4, .getfield 28, [6, 1, 0, 675]), (7, .ifnull 40, [1]), (10, .aload_n 0, []), (11, .getfield 13, [7, 1, 0, 707]), (14, .getfield 28, [6, 1, 0, 675]), (17, .ifnull 30, [1]), (20, .aload_n 0, []), (21, .getfield 7, [7, 0, 0, 704]), (24, .getfield 28, [6, 1, 0, 675]), (27, .getfield 32, [4, 11, 0, 409]), (30, .aload_n 0, []), (31, .getfield 13, [7, 1, 0, 707]), (34, .getfield 28, [6, 1, 0, 675]), (37, .getfield 32, [4, 11, 0, 409]), (40, .if_icmp .ne 7, [1]), (43, .iconst 1, []), (44, .goto 4, [2])]
def B103_1 : List mmI := [(47, .iconst 0, []), (48, .nop, [2])]
def B103_2 : List mmI := [(48, .ireturn, [1])]
def M103 : List (List mmI) := [B103_0, B103_1, B103_2]
/- 104: BoundsPlanner.ranges(I)I -/
def B104_0 : List mmI := [(0, .aload_n 0, []), (1, .getfield 23, [0, 3, 0, 117]), (4, .ifnull 12, [1]), (7, .aload_n 0, []), (8, .iload_n 1, []), (9, .iconst 0, []), (10, .invokevirtual 54, [18, 3, 1, 221, 0]), (13, .ifnonnull 7, [2]), (16, .nop, [1])]
def B104_1 : List mmI := [(16, .iconst (-1), []), (17, .goto 17, [3])]
def B104_2 : List mmI := [(20, .aload_n 0, []), (21, .iload_n 1, []), (22, .aload_n 0, []), (23, .iload_n 1, []), (24, .aload_n 0, []), (25, .getfield 23, [0, 3, 0, 117]), (28, .invokevirtual 150, [101, 3, 1, 820, 0]), (31, .invokevirtual 154, [105, 3, 1, 835, 0]), (34, .nop, [3])]
def B104_3 : List mmI := [(34, .ireturn, [0])]
def M104 : List (List mmI) := [B104_0, B104_1, B104_2, B104_3]
/- 105: BoundsPlanner.rangesOf(II)I -/
def B105_0 : List mmI := [(0, .iload_n 2, []), (1, .ifCond .ne 5, [1]), (4, .iconst 1, []), (5, .ireturn, [0])]
def B105_1 : List mmI := [(6, .iload_n 2, []), (7, .iconst 3, []), (8, .if_icmp .ne 19, [2]), (11, .aload_n 0, []), (12, .iload_n 1, []), (13, .iconst 0, []), (14, .invokevirtual 162, [93, 3, 1, 839, 0]), (17, .aload_n 0, []), (18, .iload_n 1, []), (19, .iconst 1, []), (20, .invokevirtual 162, [93, 3, 1, 839, 0]), (23, .imul, []), (24, .goto 9, [3])]
def B105_2 : List mmI := [(27, .aload_n 0, []), (28, .iload_n 1, []), (29, .iconst 0, []), (30, .invokevirtual 162, [93, 3, 1, 839, 0]), (33, .nop, [3])]
def B105_3 : List mmI := [(33, .ireturn, [0])]
def M105 : List (List mmI) := [B105_0, B105_1, B105_2, B105_3]
/- 106: BoundsPlanner.choose()I -/
def B106_0 : List mmI := [(0, .aload_n 0, []), (1, .getfield 23, [0, 3, 0, 117]), (4, .ifnonnull 6, [1]), (7, .bipush (-2), []), (9, .ireturn, [0])]
def B106_1 : List mmI := [(10, .iconst (-1), []), (11, .istore_n 1, []), (12, .iconst 0, []), (13, .istore_n 2, []), (14, .iconst 0, []), (15, .istore_n 3, []), (16, .iconst 0, []), (17, .istore 4, []), (19, .nop, [2])]
def B106_2 : List mmI := [(19, .iload 4, []), (21, .bipush 8, []), (23, .if_icmp .ge 63, [5]), (26, .aload_n 0, []), (27, .iload 4, []), (29, .aload_n 0, []), (30, .getfield 23, [0, 3, 0, 117]), (33, .invokevirtual 150, [101, 3, 1, 820, 0]), (36, .istore 5, []), (38, .aload_n 0, []), (39, .iload 4, []), (41, .iload 5, []), (43, .invokevirtual 154, [105, 3, 1, 835, 0]), (46, .istore 6, []), (48, .iload 5, []), (50, .iload_n 2, []), (51, .if_icmp .gt 20, [3]), (54, .iload 5, []), (56, .iload_n 2, []), (57, .if_icmp .ne 23, [4]), (60, .iload 5, []), (62, .ifCond .le 18, [4]), (65, .iload 6, []), (67, .iload_n 3, []), (68, .if_icmp .ge 12, [4]), (71, .nop, [3])]
def B106_3 : List mmI := [(71, .iload 4, []), (73, .istore_n 1, []), (74, .iload 5, []), (76, .istore_n 2, []), (77, .iload 6, []), (79, .istore_n 3, []), (80, .nop, [4])]
def B106_4 : List mmI := [(80, .iinc 4 1, []), (83, .goto (-64), [2])]
def B106_5 : List mmI := [(86, .iload_n 1, []), (87, .ireturn, [0])]
def M106 : List (List mmI) := [B106_0, B106_1, B106_2, B106_3, B106_4, B106_5]
/- 107: BoundsPlannerModel.<init>()V -/
def B107_0 : List mmI := [(0, .aload_n 0, []), (1, .invokespecial 1, [1003, 849]), (4, .aload_n 0, []), (5, .sipush 22100, []), (8, .newarray .byte, [0]), (10, .putfield 7, [10, 1, 3, 850]), (13, .aload_n 0, []), (14, .bipush 8, []), (16, .newarray .boolean, [2]), (18, .putfield 13, [10, 5, 3, 854]), (21, .aload_n 0, []), (22, .bipush 8, []), (24, .newarray .int, [1]), (26, .putfield 17, [10, 6, 3, 855]), (29, .aload_n 0, []), (30, .bipush 8, []), (32, .newarray .int, [1]), (34, .putfield 21, [10, 7, 3, 856]), (37, .aload_n 0, []), (38, .bipush 8, []), (40, .newarray .int, [1]), (42, .putfield 24, [10, 8, 3, 857]), (45, .aload_n 0, []), (46, .bipush 120, []), (48, .newarray .int, [1]), (50, .putfield 27, [10, 12, 3, 861]), (53, .aload_n 0, []), (54, .bipush 120, []), (56, .newarray .int, [1]), (58, .putfield 30, [10, 13, 3, 862]), (61, .aload_n 0, []), (62, .iconst 3, []), (63, .newarray .int, [1]), (65, .putfield 33, [10, 14, 3, 863]), (68, .aload_n 0, []), (69, .sipush 24000, []), (72, .newarray .int, [1]), (74, .putfield 36, [10, 15, 3, 864]), (77, .aload_n 0, []), (78, .sipush 8000, []), (81, .newarray .int, [1]), (83, .putfield 39, [10, 17, 3, 866]), (86, .return_, [])]
def M107 : List (List mmI) := [B107_0]
/- 108: BoundsPlannerModel.feed(IIIII)I -/
def B108_0 : List mmI := [(0, .aload_n 0, []), (1, .getfield 52, [10, 2, 0, 851]), (4, .bipush 20, []), (6, .iadd, []), (7, .sipush 2000, []), (10, .if_icmp .le 5, [1]), (13, .iconst (-1), []), (14, .ireturn, [0])]
def B108_1 : List mmI := [(15, .aload_n 0, []), (16, .iload_n 1, []), (17, .invokevirtual 55, [109, 2, 11, 910, 0]), (20, .aload_n 0, []), (21, .iload_n 2, []), (22, .invokevirtual 55, [109, 2, 11, 910, 0]), (25, .aload_n 0, []), (26, .iload_n 3, []), (27, .invokevirtual 55, [109, 2, 11, 910, 0]), (30, .aload_n 0, []), (31, .iload 4, []), (33, .invokevirtual 55, [109, 2, 11, 910, 0]), (36, .aload_n 0, []), (37, .iload 5, []), (39, .invokevirtual 55, [109, 2, 11, 910, 0]), (42, .aload_n 0, []), (43, .getfield 52, [10, 2, 0, 851]), (46, .ireturn, [0])]
def M108 : List (List mmI) := [B108_0, B108_1]
/- 109: BoundsPlannerModel.put(I)V -/
def B109_0 : List mmI := [(0, .bipush 24, []), (2, .istore_n 2, []), (3, .nop, [1])]
def B109_1 : List mmI := [(3, .iload_n 2, []), (4, .ifCond .lt 36, [2]), (7, .aload_n 0, []), (8, .getfield 7, [10, 1, 0, 850]), (11, .sipush 20000, []), (14, .aload_n 0, []), (15, .getfield 52, [10, 2, 0, 851]), (18, .iadd, []), (19, .iload_n 1, []), (20, .iload_n 2, []), (21, .ishr, []), (22, .i2b, []), (23, .bastore, []), (24, .aload_n 0, []), (25, .dup, []), (26, .getfield 52, [10, 2, 0, 851]), (29, .iconst 1, []), (30, .iadd, []), (31, .putfield 52, [10, 2, 0, 851]), (34, .iinc 2 (-8), []), (37, .goto (-34), [1])]
def B109_2 : List mmI := [(40, .return_, [])]
def M109 : List (List mmI) := [B109_0, B109_1, B109_2]
/- 110: BoundsPlannerModel.index(IIII)I -/
def B110_0 : List mmI := [(0, .iload_n 1, []), (1, .ifCond .lt 44, [1]), (4, .iload_n 1, []), (5, .bipush 7, []), (7, .if_icmp .gt 38, [1]), (10, .iload_n 2, []), (11, .iconst 1, []), (12, .if_icmp .lt 33, [1]), (15, .iload_n 3, []), (16, .ifCond .lt 29, [1]), (19, .iload_n 2, []), (20, .i2l, []), (21, .iload_n 3, []), (22, .i2l, []), (23, .ladd, []), (24, .aload_n 0, []), (25, .getfield 52, [10, 2, 0, 851]), (28, .i2l, []), (29, .lcmp, []), (30, .ifCond .gt 15, [1]), (33, .iload 4, []), (35, .ifCond .lt 10, [1]), (38, .iload 4, []), (40, .bipush 15, []), (42, .if_icmp .le 5, [2]), (45, .nop, [1])]
def B110_1 : List mmI := [(45, .iconst (-1), []), (46, .ireturn, [0])]
def B110_2 : List mmI := [(47, .aload_n 0, []), (48, .iconst 0, []), (49, .putfield 52, [10, 2, 0, 851]), (52, .iload_n 2, []), (53, .iload_n 3, []), (54, .if_icmp .ne 7, [3]), (57, .iconst 1, []), (58, .goto 4, [4])]
def B110_3 : List mmI := [(61, .iconst 0, []), (62, .nop, [4])]
def B110_4 : List mmI := [(62, .istore 5, []), (64, .iconst 0, []), (65, .istore 6, []), (67, .nop, [5])]
def B110_5 : List mmI := [(67, .iload 6, []), (69, .iload_n 2, []), (70, .if_icmp .ge 48, [8]), (73, .iload 5, []), (75, .ifCond .eq 43, [8]), (78, .aload_n 0, []), (79, .getfield 7, [10, 1, 0, 850]), (82, .sipush 20000, []), (85, .iload 6, []), (87, .iadd, []), (88, .baload, []), (89, .aload_n 0, []), (90, .getfield 7, [10, 1, 0, 850]), (93, .sipush 20000, []), (96, .iload_n 2, []), (97, .iadd, []), (98, .iload 6, []), (100, .iadd, []), (101, .baload, []), (102, .if_icmp .ne 7, [6]), (105, .iconst 1, []), (106, .goto 4, [7])]
def B110_6 : List mmI := [(109, .iconst 0, []), (110, .nop, [7])]
def B110_7 : List mmI := [(110, .istore 5, []), (112, .iinc 6 1, []), (115, .goto (-48), [5])]
def B110_8 : List mmI := [(118, .aload_n 0, []), (119, .sipush 20000, []), (122, .iload_n 2, []), (123, .invokevirtual 101, [111, 3, 11, 918, 0]), (126, .ifCond .eq 37, [10]), (129, .iload_n 3, []), (130, .ifCond .le 16, [9]), (133, .aload_n 0, []), (134, .sipush 20000, []), (137, .iload_n 2, []), (138, .iadd, []), (139, .iload_n 3, []), (140, .invokevirtual 101, [111, 3, 11, 918, 0]), (143, .ifCond .eq 20, [10]), (146, .nop, [9])]
def B110_9 : List mmI := [(146, .iload 5, []), (148, .ifCond .ne 15, [10]), (151, .iload_n 3, []), (152, .ifCond .ne 14, [11]), (155, .iload 4, []), (157, .bipush 10, []), (159, .iand, []), (160, .ifCond .le 6, [11]), (163, .nop, [10])]
def B110_10 : List mmI := [(163, .bipush (-2), []), (165, .ireturn, [0])]
def B110_11 : List mmI := [(166, .iconst 0, []), (167, .istore 6, []), (169, .nop, [12])]
def B110_12 : List mmI := [(169, .iload 6, []), (171, .iload_n 2, []), (172, .iload_n 3, []), (173, .iadd, []), (174, .if_icmp .ge 37, [13]), (177, .aload_n 0, []), (178, .getfield 7, [10, 1, 0, 850]), (181, .sipush 4000, []), (184, .sipush 2000, []), (187, .iload_n 1, []), (188, .imul, []), (189, .iadd, []), (190, .iload 6, []), (192, .iadd, []), (193, .aload_n 0, []), (194, .getfield 7, [10, 1, 0, 850]), (197, .sipush 20000, []), (200, .iload 6, []), (202, .iadd, []), (203, .baload, []), (204, .bastore, []), (205, .iinc 6 1, []), (208, .goto (-39), [12])]
def B110_13 : List mmI := [(211, .aload_n 0, []), (212, .getfield 13, [10, 5, 0, 854]), (215, .iload_n 1, []), (216, .iconst 1, []), (217, .bastore, []), (218, .aload_n 0, []), (219, .getfield 17, [10, 6, 0, 855]), (222, .iload_n 1, []), (223, .iload_n 2, []), (224, .iastore, []), (225, .aload_n 0, []), (226, .getfield 21, [10, 7, 0, 856]), (229, .iload_n 1, []), (230, .iload_n 3, []), (231, .iastore, []), (232, .aload_n 0, []), (233, .getfield 24, [10, 8, 0, 857]), (236, .iload_n 1, []), (237, .iload 4, []), (239, .iastore, []), (240, .iconst 0, []), (241, .ireturn, [0])]
def M110 : List (List mmI) := [B110_0, B110_1, B110_2, B110_3, B110_4, B110_5, B110_6, B110_7, B110_8, B110_9, B110_10, B110_11, B110_12, B110_13]
/- 111: BoundsPlannerModel.isPath(II)Z -/
def B111_0 : List mmI := [(0, .iload_n 2, []), (1, .ifCond .le 18, [1]), (4, .aload_n 0, []), (5, .iload_n 1, []), (6, .iload_n 1, []), (7, .iload_n 2, []), (8, .iadd, []), (9, .invokevirtual 79, [112, 3, 11, 922, 0]), (12, .ifCond .eq 7, [1]), (15, .iconst 1, []), (16, .goto 4, [2])]
def B111_1 : List mmI := [(19, .iconst 0, []), (20, .nop, [2])]
def B111_2 : List mmI := [(20, .istore_n 3, []), (21, .iconst 1, []), (22, .istore 4, []), (24, .iload_n 1, []), (25, .istore 5, []), (27, .nop, [3])]
def B111_3 : List mmI := [(27, .iload 5, []), (29, .iload_n 1, []), (30, .iload_n 2, []), (31, .iadd, []), (32, .if_icmp .ge 96, [11]), (35, .aload_n 0, []), (36, .iload 5, []), (38, .invokevirtual 46, [114, 2, 11, 930, 0]), (41, .bipush 46, []), (43, .if_icmp .ne 7, [4]), (46, .iconst 1, []), (47, .goto 4, [5])]
def B111_4 : List mmI := [(50, .iconst 0, []), (51, .nop, [5])]
def B111_5 : List mmI := [(51, .istore 6, []), (53, .iload_n 3, []), (54, .ifCond .eq 51, [7]), (57, .aload_n 0, []), (58, .getfield 7, [10, 1, 0, 850]), (61, .iload 5, []), (63, .baload, []), (64, .ifCond .eq 41, [7]), (67, .iload 6, []), (69, .ifCond .eq 32, [6]), (72, .iload 5, []), (74, .iload_n 1, []), (75, .if_icmp .eq 30, [7]), (78, .iload 5, []), (80, .iload_n 1, []), (81, .iload_n 2, []), (82, .iadd, []), (83, .iconst 1, []), (84, .isub, []), (85, .if_icmp .eq 20, [7]), (88, .aload_n 0, []), (89, .iload 5, []), (91, .iconst 1, []), (92, .isub, []), (93, .invokevirtual 46, [114, 2, 11, 930, 0]), (96, .bipush 46, []), (98, .if_icmp .eq 7, [7]), (101, .nop, [6])]
def B111_6 : List mmI := [(101, .iconst 1, []), (102, .goto 4, [8])]
def B111_7 : List mmI := [(105, .iconst 0, []), (106, .nop, [8])]
def B111_8 : List mmI := [(106, .istore_n 3, []), (107, .iload 4, []), (109, .iload 6, []), (111, .ifCond .eq 7, [9]), (114, .iconst 1, []), (115, .goto 4, [10])]
def B111_9 : List mmI := [(118, .iconst 0, []), (119, .nop, [10])]
def B111_10 : List mmI := [(119, .iadd, []), (120, .istore 4, []), (122, .iinc 5 1, []), (125, .goto (-98), [3])]
def B111_11 : List mmI := [(128, .iload_n 3, []), (129, .ifCond .eq 14, [12]), (132, .iload 4, []), (134, .bipush 9, []), (136, .if_icmp .ge 7, [12]), (139, .iconst 1, []), (140, .goto 4, [13])]
def B111_12 : List mmI := [(143, .iconst 0, []), (144, .nop, [13])]
def B111_13 : List mmI := [(144, .ireturn, [1])]
def M111 : List (List mmI) := [B111_0, B111_1, B111_2, B111_3, B111_4, B111_5, B111_6, B111_7, B111_8, B111_9, B111_10, B111_11, B111_12, B111_13]
/- 112: BoundsPlannerModel.isText(II)Z -/
def B112_0 : List mmI := [(0, .iload_n 1, []), (1, .istore_n 3, []), (2, .nop, [1])]
def B112_1 : List mmI := [(2, .iload_n 3, []), (3, .iload_n 2, []), (4, .if_icmp .ge 26, [3]), (7, .aload_n 0, []), (8, .iload_n 3, []), (9, .iload_n 2, []), (10, .invokevirtual 63, [113, 3, 11, 926, 0]), (13, .istore 4, []), (15, .iload 4, []), (17, .ifCond .ne 5, [2]), (20, .iconst 0, []), (21, .ireturn, [1])]
def B112_2 : List mmI := [(22, .iload_n 3, []), (23, .iload 4, []), (25, .iadd, []), (26, .istore_n 3, []), (27, .goto (-25), [1])]
def B112_3 : List mmI := [(30, .iconst 1, []), (31, .ireturn, [1])]
def M112 : List (List mmI) := [B112_0, B112_1, B112_2, B112_3]
/- 113: BoundsPlannerModel.character(II)I -/
def B113_0 : List mmI := [(0, .aload_n 0, []), (1, .iload_n 1, []), (2, .invokevirtual 46, [114, 2, 11, 930, 0]), (5, .istore_n 3, []), (6, .iload_n 3, []), (7, .sipush 128, []), (10, .if_icmp .ge 5, [1]), (13, .iconst 1, []), (14, .ireturn, [0])]
def B113_1 : List mmI := [(15, .iload_n 3, []), (16, .sipush 192, []), (19, .if_icmp .ge 7, [2]), (22, .iconst 0, []), (23, .goto 37, [6])]
def B113_2 : List mmI := [(26, .iload_n 3, []), (27, .sipush 224, []), (30, .if_icmp .ge 7, [3]), (33, .iconst 2, []), (34, .goto 26, [6])]
def B113_3 : List mmI := [(37, .iload_n 3, []), (38, .sipush 240, []), (41, .if_icmp .ge 7, [4]), (44, .iconst 3, []), (45, .goto 15, [6])]
def B113_4 : List mmI := [(48, .iload_n 3, []), (49, .sipush 248, []), (52, .if_icmp .ge 7, [5]), (55, .iconst 4, []), (56, .goto 4, [6])]
def B113_5 : List mmI := [(59, .iconst 0, []), (60, .nop, [6])]
def B113_6 : List mmI := [(60, .istore 4, []), (62, .iload 4, []), (64, .ifCond .eq 11, [7]), (67, .iload_n 1, []), (68, .iload 4, []), (70, .iadd, []), (71, .iload_n 2, []), (72, .if_icmp .le 5, [8]), (75, .nop, [7])]
def B113_7 : List mmI := [(75, .iconst 0, []), (76, .ireturn, [0])]
def B113_8 : List mmI := [(77, .iload 4, []), (79, .iconst 2, []), (80, .if_icmp .ne 11, [9]), (83, .iload_n 3, []), (84, .sipush 192, []), (87, .isub, []), (88, .goto 22, [11])]
def B113_9 : List mmI := [(91, .iload 4, []), (93, .iconst 3, []), (94, .if_icmp .ne 11, [10]), (97, .iload_n 3, []), (98, .sipush 224, []), (101, .isub, []), (102, .goto 8, [11])]
def B113_10 : List mmI := [(105, .iload_n 3, []), (106, .sipush 240, []), (109, .isub, []), (110, .nop, [11])]
def B113_11 : List mmI := [(110, .istore 5, []), (112, .iconst 1, []), (113, .istore 6, []), (115, .nop, [12])]
def B113_12 : List mmI := [(115, .iload 6, []), (117, .iload 4, []), (119, .if_icmp .ge 51, [15]), (122, .aload_n 0, []), (123, .iload_n 1, []), (124, .iload 6, []), (126, .iadd, []), (127, .invokevirtual 46, [114, 2, 11, 930, 0]), (130, .istore 7, []), (132, .iload 7, []), (134, .sipush 128, []), (137, .if_icmp .lt 11, [13]), (140, .iload 7, []), (142, .sipush 191, []), (145, .if_icmp .le 5, [14]), (148, .nop, [13])]
def B113_13 : List mmI := [(148, .iconst 0, []), (149, .ireturn, [0])]
def B113_14 : List mmI := [(150, .bipush 64, []), (152, .iload 5, []), (154, .imul, []), (155, .iload 7, []), (157, .iadd, []), (158, .sipush 128, []), (161, .isub, []), (162, .istore 5, []), (164, .iinc 6 1, []), (167, .goto (-52), [12])]
def B113_15 : List mmI := [(170, .iload 4, []), (172, .iconst 2, []), (173, .if_icmp .ne 18, [17]), (176, .iload 5, []), (178, .bipush 127, []), (180, .if_icmp .le 7, [16]), (183, .iconst 1, []), (184, .goto 41, [21])]
def B113_16 : List mmI := [(187, .iconst 0, []), (188, .goto 37, [21])]
def B113_17 : List mmI := [(191, .iload 4, []), (193, .iconst 3, []), (194, .if_icmp .ne 19, [19]), (197, .iload 5, []), (199, .sipush 2047, []), (202, .if_icmp .le 7, [18]), (205, .iconst 1, []), (206, .goto 19, [21])]
def B113_18 : List mmI := [(209, .iconst 0, []), (210, .goto 15, [21])]
def B113_19 : List mmI := [(213, .iload 5, []), (215, .ldc 59, [0, 65535, 934]), (217, .if_icmp .le 7, [20]), (220, .iconst 1, []), (221, .goto 4, [21])]
def B113_20 : List mmI := [(224, .iconst 0, []), (225, .nop, [21])]
def B113_21 : List mmI := [(225, .istore 6, []), (227, .iload 6, []), (229, .ifCond .eq 29, [23]), (232, .iload 5, []), (234, .ldc 60, [0, 1114112, 935]), (236, .if_icmp .ge 22, [23]), (239, .iload 5, []), (241, .ldc 61, [0, 55296, 936]), (243, .if_icmp .lt 10, [22]), (246, .iload 5, []), (248, .ldc 62, [0, 57343, 937]), (250, .if_icmp .le 8, [23]), (253, .nop, [22])]
def B113_22 : List mmI := [(253, .iload 4, []), (255, .goto 4, [24])]
def B113_23 : List mmI := [(258, .iconst 0, []), (259, .nop, [24])]
def B113_24 : List mmI := [(259, .ireturn, [0])]
def M113 : List (List mmI) := [B113_0, B113_1, B113_2, B113_3, B113_4, B113_5, B113_6, B113_7, B113_8, B113_9, B113_10, B113_11, B113_12, B113_13, B113_14, B113_15, B113_16, B113_17, B113_18, B113_19, B113_20, B113_21, B113_22, B113_23, B113_24]
/- 114: BoundsPlannerModel.at(I)I -/
def B114_0 : List mmI := [(0, .aload_n 0, []), (1, .getfield 7, [10, 1, 0, 850]), (4, .iload_n 1, []), (5, .baload, []), (6, .sipush 255, []), (9, .iand, []), (10, .ireturn, [0])]
def M114 : List (List mmI) := [B114_0]
/- 115: BoundsPlannerModel.drop(I)Z -/
def B115_0 : List mmI := [(0, .iload_n 1, []), (1, .ifCond .lt 18, [1]), (4, .iload_n 1, []), (5, .bipush 7, []), (7, .if_icmp .gt 12, [1]), (10, .aload_n 0, []), (11, .getfield 13, [10, 5, 0, 854]), (14, .iload_n 1, []), (15, .baload, []), (16, .ifCond .ne 5, [2]), (19, .nop, [1])]
def B115_1 : List mmI := [(19, .iconst 0, []), (20, .ireturn, [1])]
def B115_2 : List mmI := [(21, .aload_n 0, []), (22, .getfield 13, [10, 5, 0, 854]), (25, .iload_n 1, []), (26, .iconst 0, []), (27, .bastore, []), (28, .iconst 1, []), (29, .ireturn, [1])]
def M115 : List (List mmI) := [B115_0, B115_1, B115_2]
/- 116: BoundsPlannerModel.filter(I)I -/
def B116_0 : List mmI := [(0, .iload_n 1, []), (1, .ifCond .lt 11, [1]), (4, .iload_n 1, []), (5, .aload_n 0, []), (6, .getfield 52, [10, 2, 0, 851]), (9, .if_icmp .le 6, [2]), (12, .nop, [1])]
def B116_1 : List mmI := [(12, .bipush (-2), []), (14, .ireturn, [0])]
def B116_2 : List mmI := [(15, .aload_n 0, []), (16, .iconst 0, []), (17, .putfield 52, [10, 2, 0, 851]), (20, .aload_n 0, []), (21, .iconst 0, []), (22, .putfield 183, [10, 3, 1, 852]), (25, .aload_n 0, []), (26, .iload_n 1, []), (27, .invokevirtual 187, [117, 2, 11, 946, 0]), (30, .ifCond .ne 5, [3]), (33, .iconst (-1), []), (34, .ireturn, [0])]
def B116_3 : List mmI := [(35, .aload_n 0, []), (36, .iconst 0, []), (37, .putfield 150, [10, 9, 0, 858]), (40, .aload_n 0, []), (41, .iconst 0, []), (42, .putfield 147, [10, 10, 0, 859]), (45, .aload_n 0, []), (46, .sipush 20000, []), (49, .invokevirtual 167, [127, 2, 11, 988, 0]), (52, .aload_n 0, []), (53, .getfield 147, [10, 10, 0, 859]), (56, .ifCond .le 8, [4]), (59, .aload_n 0, []), (60, .getfield 147, [10, 10, 0, 859]), (63, .ireturn, [0])]
def B116_4 : List mmI := [(64, .iconst 0, []), (65, .istore_n 2, []), (66, .nop, [5])]
def B116_5 : List mmI := [(66, .iload_n 2, []), (67, .iload_n 1, []), (68, .if_icmp .ge 27, [6]), (71, .aload_n 0, []), (72, .getfield 7, [10, 1, 0, 850]), (75, .iconst 0, []), (76, .iload_n 2, []), (77, .iadd, []), (78, .aload_n 0, []), (79, .getfield 7, [10, 1, 0, 850]), (82, .sipush 20000, []), (85, .iload_n 2, []), (86, .iadd, []), (87, .baload, []), (88, .bastore, []), (89, .iinc 2 1, []), (92, .goto (-26), [5])]
def B116_6 : List mmI := [(95, .aload_n 0, []), (96, .iconst 1, []), (97, .putfield 183, [10, 3, 1, 852]), (100, .iconst 0, []), (101, .ireturn, [0])]
def M116 : List (List mmI) := [B116_0, B116_1, B116_2, B116_3, B116_4, B116_5, B116_6]
/- 117: BoundsPlannerModel.isDocument(I)Z -/
def B117_0 : List mmI := [(0, .iload_n 1, []), (1, .iconst 4, []), (2, .if_icmp .le 35, [1]), (5, .aload_n 0, []), (6, .sipush 20000, []), (9, .invokevirtual 67, [118, 2, 11, 950, 0]), (12, .iload_n 1, []), (13, .if_icmp .ne 24, [1]), (16, .aload_n 0, []), (17, .sipush 20000, []), (20, .sipush 20000, []), (23, .iload_n 1, []), (24, .iadd, []), (25, .iconst 1, []), (26, .iconst 0, []), (27, .invokevirtual 97, [119, 5, 11, 956, 0]), (30, .ifCond .eq 7, [1]), (33, .iconst 1, []), (34, .goto 4, [2])]
def B117_1 : List mmI := [(37, .iconst 0, []), (38, .nop, [2])]
def B117_2 : List mmI := [(38, .ireturn, [1])]
def M117 : List (List mmI) := [B117_0, B117_1, B117_2]
/- 118: BoundsPlannerModel.whole(I)I -/
def B118_0 : List mmI := [(0, .aload_n 0, []), (1, .iload_n 1, []), (2, .invokevirtual 46, [114, 2, 11, 930, 0]), (5, .sipush 256, []), (8, .aload_n 0, []), (9, .iload_n 1, []), (10, .iconst 1, []), (11, .iadd, []), (12, .invokevirtual 46, [114, 2, 11, 930, 0]), (15, .imul, []), (16, .iadd, []), (17, .ldc 50, [0, 65536, 954]), (19, .aload_n 0, []), (20, .iload_n 1, []), (21, .iconst 2, []), (22, .iadd, []), (23, .invokevirtual 46, [114, 2, 11, 930, 0]), (26, .imul, []), (27, .iadd, []), (28, .ldc 51, [0, 16777216, 955]), (30, .aload_n 0, []), (31, .iload_n 1, []), (32, .iconst 3, []), (33, .iadd, []), (34, .invokevirtual 46, [114, 2, 11, 930, 0]), (37, .imul, []), (38, .iadd, []), (39, .ireturn, [0])]
def M118 : List (List mmI) := [B118_0]
/- 119: BoundsPlannerModel.isBox(IIIZ)Z -/
def B119_0 : List mmI := [(0, .iload_n 2, []), (1, .iload_n 1, []), (2, .isub, []), (3, .iconst 5, []), (4, .if_icmp .lt 9, [1]), (7, .iload_n 3, []), (8, .bipush 16, []), (10, .if_icmp .le 5, [2]), (13, .nop, [1])]
def B119_1 : List mmI := [(13, .iconst 0, []), (14, .ireturn, [1])]
def B119_2 : List mmI := [(15, .aload_n 0, []), (16, .iload_n 1, []), (17, .invokevirtual 67, [118, 2, 11, 950, 0]), (20, .istore 5, []), (22, .iload 5, []), (24, .iconst 5, []), (25, .if_icmp .lt 25, [3]), (28, .iload 5, []), (30, .iload_n 2, []), (31, .iload_n 1, []), (32, .isub, []), (33, .if_icmp .gt 17, [3]), (36, .aload_n 0, []), (37, .getfield 7, [10, 1, 0, 850]), (40, .iload_n 1, []), (41, .iload 5, []), (43, .iadd, []), (44, .iconst 1, []), (45, .isub, []), (46, .baload, []), (47, .ifCond .eq 5, [4]), (50, .nop, [3])]
def B119_3 : List mmI := [(50, .iconst 0, []), (51, .ireturn, [1])]
def B119_4 : List mmI := [(52, .iload_n 1, []), (53, .iload 5, []), (55, .iadd, []), (56, .iconst 1, []), (57, .isub, []), (58, .istore 6, []), (60, .iload_n 1, []), (61, .iconst 4, []), (62, .iadd, []), (63, .istore 7, []), (65, .iconst 0, []), (66, .istore 8, []), (68, .nop, [5])]
def B119_5 : List mmI := [(68, .iload 7, []), (70, .iload 6, []), (72, .if_icmp .ge 112, [10]), (75, .iload 7, []), (77, .iconst 1, []), (78, .iadd, []), (79, .istore 9, []), (81, .nop, [6])]
def B119_6 : List mmI := [(81, .iload 9, []), (83, .iload 6, []), (85, .if_icmp .ge 19, [7]), (88, .aload_n 0, []), (89, .getfield 7, [10, 1, 0, 850]), (92, .iload 9, []), (94, .baload, []), (95, .ifCond .eq 9, [7]), (98, .iinc 9 1, []), (101, .goto (-20), [6])]
def B119_7 : List mmI := [(104, .iload 9, []), (106, .iload 6, []), (108, .if_icmp .ge 52, [8]), (111, .aload_n 0, []), (112, .iload 7, []), (114, .iconst 1, []), (115, .iadd, []), (116, .iload 9, []), (118, .invokevirtual 79, [112, 3, 11, 922, 0]), (121, .ifCond .eq 39, [8]), (124, .aload_n 0, []), (125, .iload_n 1, []), (126, .iload 7, []), (128, .iload 9, []), (130, .iload 4, []), (132, .iload 8, []), (134, .invokevirtual 83, [120, 6, 11, 960, 0]), (137, .ifCond .eq 23, [8]), (140, .aload_n 0, []), (141, .aload_n 0, []), (142, .iload 7, []), (144, .invokevirtual 46, [114, 2, 11, 930, 0]), (147, .iload 9, []), (149, .iconst 1, []), (150, .iadd, []), (151, .iload 6, []), (153, .iload_n 3, []), (154, .invokevirtual 87, [126, 5, 11, 984, 0]), (157, .ifCond .ne 5, [9]), (160, .nop, [8])]
def B119_8 : List mmI := [(160, .iconst 0, []), (161, .ireturn, [1])]
def B119_9 : List mmI := [(162, .aload_n 0, []), (163, .aload_n 0, []), (164, .iload 7, []), (166, .invokevirtual 46, [114, 2, 11, 930, 0]), (169, .iload 9, []), (171, .iconst 1, []), (172, .iadd, []), (173, .invokevirtual 76, [125, 3, 11, 980, 0]), (176, .istore 7, []), (178, .iinc 8 1, []), (181, .goto (-113), [5])]
def B119_10 : List mmI := [(184, .iconst 1, []), (185, .ireturn, [1])]
def M119 : List (List mmI) := [B119_0, B119_1, B119_2, B119_3, B119_4, B119_5, B119_6, B119_7, B119_8, B119_9, B119_10]
/- 120: BoundsPlannerModel.isName(IIIZI)Z -/
def B120_0 : List mmI := [(0, .iload 4, []), (2, .ifCond .ne 43, [4]), (5, .iload_n 1, []), (6, .iconst 4, []), (7, .iadd, []), (8, .istore 6, []), (10, .nop, [1])]
def B120_1 : List mmI := [(10, .iload 6, []), (12, .iload_n 2, []), (13, .if_icmp .ge 30, [3]), (16, .aload_n 0, []), (17, .iload 6, []), (19, .iconst 1, []), (20, .iadd, []), (21, .iload_n 2, []), (22, .iconst 1, []), (23, .iadd, []), (24, .invokevirtual 91, [121, 3, 11, 964, 0]), (27, .ifCond .eq 5, [2]), (30, .iconst 0, []), (31, .ireturn, [1])]
def B120_2 : List mmI := [(32, .aload_n 0, []), (33, .iload 6, []), (35, .invokevirtual 94, [122, 2, 11, 968, 0]), (38, .istore 6, []), (40, .goto (-30), [1])]
def B120_3 : List mmI := [(43, .iconst 1, []), (44, .ireturn, [1])]
def B120_4 : List mmI := [(45, .iconst 0, []), (46, .istore 6, []), (48, .iload_n 2, []), (49, .iconst 1, []), (50, .iadd, []), (51, .istore 7, []), (53, .nop, [5])]
def B120_5 : List mmI := [(53, .iload 7, []), (55, .iload_n 3, []), (56, .if_icmp .ge 58, [8]), (59, .aload_n 0, []), (60, .iload 7, []), (62, .invokevirtual 46, [114, 2, 11, 930, 0]), (65, .bipush 48, []), (67, .if_icmp .lt 22, [6]), (70, .aload_n 0, []), (71, .iload 7, []), (73, .invokevirtual 46, [114, 2, 11, 930, 0]), (76, .bipush 57, []), (78, .if_icmp .gt 11, [6]), (81, .iload 6, []), (83, .sipush 1000, []), (86, .if_icmp .le 5, [7]), (89, .nop, [6])]
def B120_6 : List mmI := [(89, .iconst 0, []), (90, .ireturn, [1])]
def B120_7 : List mmI := [(91, .bipush 10, []), (93, .iload 6, []), (95, .imul, []), (96, .aload_n 0, []), (97, .iload 7, []), (99, .invokevirtual 46, [114, 2, 11, 930, 0]), (102, .iadd, []), (103, .bipush 48, []), (105, .isub, []), (106, .istore 6, []), (108, .iinc 7 1, []), (111, .goto (-58), [5])]
def B120_8 : List mmI := [(114, .iload_n 3, []), (115, .iload_n 2, []), (116, .iconst 1, []), (117, .iadd, []), (118, .if_icmp .le 33, [10]), (121, .iload 6, []), (123, .iload 5, []), (125, .if_icmp .ne 26, [10]), (128, .iload_n 3, []), (129, .iload_n 2, []), (130, .iconst 2, []), (131, .iadd, []), (132, .if_icmp .eq 15, [9]), (135, .aload_n 0, []), (136, .iload_n 2, []), (137, .iconst 1, []), (138, .iadd, []), (139, .invokevirtual 46, [114, 2, 11, 930, 0]), (142, .bipush 48, []), (144, .if_icmp .eq 7, [10]), (147, .nop, [9])]
def B120_9 : List mmI := [(147, .iconst 1, []), (148, .goto 4, [11])]
def B120_10 : List mmI := [(151, .iconst 0, []), (152, .nop, [11])]
def B120_11 : List mmI := [(152, .ireturn, [1])]
def M120 : List (List mmI) := [B120_0, B120_1, B120_2, B120_3, B120_4, B120_5, B120_6, B120_7, B120_8, B120_9, B120_10, B120_11]
/- 121: BoundsPlannerModel.isAlike(II)Z -/
def B121_0 : List mmI := [(0, .iconst 0, []), (1, .istore_n 3, []), (2, .nop, [1])]
def B121_1 : List mmI := [(2, .aload_n 0, []), (3, .getfield 7, [10, 1, 0, 850]), (6, .iload_n 1, []), (7, .iload_n 3, []), (8, .iadd, []), (9, .baload, []), (10, .aload_n 0, []), (11, .getfield 7, [10, 1, 0, 850]), (14, .iload_n 2, []), (15, .iload_n 3, []), (16, .iadd, []), (17, .baload, []), (18, .if_icmp .ne 20, [2]), (21, .aload_n 0, []), (22, .getfield 7, [10, 1, 0, 850]), (25, .iload_n 1, []), (26, .iload_n 3, []), (27, .iadd, []), (28, .baload, []), (29, .ifCond .eq 9, [2]), (32, .iinc 3 1, []), (35, .goto (-33), [1])]
def B121_2 : List mmI := [(38, .aload_n 0, []), (39, .getfield 7, [10, 1, 0, 850]), (42, .iload_n 1, []), (43, .iload_n 3, []), (44, .iadd, []), (45, .baload, []), (46, .aload_n 0, []), (47, .getfield 7, [10, 1, 0, 850]), (50, .iload_n 2, []), (51, .iload_n 3, []), (52, .iadd, []), (53, .baload, []), (54, .if_icmp .ne 7, [3]), (57, .iconst 1, []), (58, .goto 4, [4])]
def B121_3 : List mmI := [(61, .iconst 0, []), (62, .nop, [4])]
def B121_4 : List mmI := [(62, .ireturn, [1])]
def M121 : List (List mmI) := [B121_0, B121_1, B121_2, B121_3, B121_4]
/- 122: BoundsPlannerModel.next(I)I -/
def B122_0 : List mmI := [(0, .aload_n 0, []), (1, .aload_n 0, []), (2, .iload_n 1, []), (3, .invokevirtual 46, [114, 2, 11, 930, 0]), (6, .aload_n 0, []), (7, .iload_n 1, []), (8, .invokevirtual 73, [123, 2, 11, 972, 0]), (11, .invokevirtual 76, [125, 3, 11, 980, 0]), (14, .ireturn, [0])]
def M122 : List (List mmI) := [B122_0]
/- 123: BoundsPlannerModel.valueOf(I)I -/
def B123_0 : List mmI := [(0, .aload_n 0, []), (1, .iload_n 1, []), (2, .iconst 1, []), (3, .iadd, []), (4, .invokevirtual 70, [124, 2, 11, 976, 0]), (7, .iconst 1, []), (8, .iadd, []), (9, .ireturn, [0])]
def M123 : List (List mmI) := [B123_0]
/- 124: BoundsPlannerModel.nameEnd(I)I -/
def B124_0 : List mmI := [(0, .iload_n 1, []), (1, .istore_n 2, []), (2, .nop, [1])]
def B124_1 : List mmI := [(2, .aload_n 0, []), (3, .getfield 7, [10, 1, 0, 850]), (6, .iload_n 2, []), (7, .baload, []), (8, .ifCond .eq 9, [2]), (11, .iinc 2 1, []), (14, .goto (-12), [1])]
def B124_2 : List mmI := [(17, .iload_n 2, []), (18, .ireturn, [0])]
def M124 : List (List mmI) := [B124_0, B124_1, B124_2]
/- 125: BoundsPlannerModel.behind(II)I -/
def B125_0 : List mmI := [(0, .iload_n 1, []), (1, .bipush 16, []), (3, .if_icmp .ne 9, [1]), (6, .iload_n 2, []), (7, .iconst 4, []), (8, .iadd, []), (9, .goto 66, [7])]
def B125_1 : List mmI := [(12, .iload_n 1, []), (13, .bipush 18, []), (15, .if_icmp .ne 10, [2]), (18, .iload_n 2, []), (19, .bipush 8, []), (21, .iadd, []), (22, .goto 53, [7])]
def B125_2 : List mmI := [(25, .iload_n 1, []), (26, .bipush 8, []), (28, .if_icmp .ne 9, [3]), (31, .iload_n 2, []), (32, .iconst 1, []), (33, .iadd, []), (34, .goto 41, [7])]
def B125_3 : List mmI := [(37, .iload_n 1, []), (38, .iconst 2, []), (39, .if_icmp .ne 15, [4]), (42, .iload_n 2, []), (43, .iconst 4, []), (44, .iadd, []), (45, .aload_n 0, []), (46, .iload_n 2, []), (47, .invokevirtual 67, [118, 2, 11, 950, 0]), (50, .iadd, []), (51, .goto 24, [7])]
def B125_4 : List mmI := [(54, .iload_n 1, []), (55, .iconst 3, []), (56, .if_icmp .eq 8, [5]), (59, .iload_n 1, []), (60, .iconst 4, []), (61, .if_icmp .ne 13, [6]), (64, .nop, [5])]
def B125_5 : List mmI := [(64, .iload_n 2, []), (65, .aload_n 0, []), (66, .iload_n 2, []), (67, .invokevirtual 67, [118, 2, 11, 950, 0]), (70, .iadd, []), (71, .goto 4, [7])]
def B125_6 : List mmI := [(74, .iload_n 2, []), (75, .nop, [7])]
def B125_7 : List mmI := [(75, .ireturn, [0])]
def M125 : List (List mmI) := [B125_0, B125_1, B125_2, B125_3, B125_4, B125_5, B125_6, B125_7]
/- 126: BoundsPlannerModel.isValue(IIII)Z -/
def B126_0 : List mmI := [(0, .iload_n 1, []), (1, .bipush 16, []), (3, .if_icmp .eq 9, [1]), (6, .iload_n 1, []), (7, .bipush 18, []), (9, .if_icmp .ne 27, [6]), (12, .nop, [1])]
def B126_1 : List mmI := [(12, .iload_n 3, []), (13, .iload_n 2, []), (14, .isub, []), (15, .iload_n 1, []), (16, .bipush 16, []), (18, .if_icmp .ne 7, [2]), (21, .iconst 4, []), (22, .goto 5, [3])]
def B126_2 : List mmI := [(25, .bipush 8, []), (27, .nop, [3])]
def B126_3 : List mmI := [(27, .if_icmp .lt 7, [4]), (30, .iconst 1, []), (31, .goto 4, [5])]
def B126_4 : List mmI := [(34, .iconst 0, []), (35, .nop, [5])]
def B126_5 : List mmI := [(35, .ireturn, [1])]
def B126_6 : List mmI := [(36, .iload_n 1, []), (37, .bipush 8, []), (39, .if_icmp .ne 23, [9]), (42, .iload_n 3, []), (43, .iload_n 2, []), (44, .if_icmp .le 16, [7]), (47, .aload_n 0, []), (48, .iload_n 2, []), (49, .invokevirtual 46, [114, 2, 11, 930, 0]), (52, .iconst 2, []), (53, .if_icmp .ge 7, [7]), (56, .iconst 1, []), (57, .goto 4, [8])]
def B126_7 : List mmI := [(60, .iconst 0, []), (61, .nop, [8])]
def B126_8 : List mmI := [(61, .ireturn, [1])]
def B126_9 : List mmI := [(62, .iload_n 1, []), (63, .iconst 2, []), (64, .if_icmp .ne 73, [12]), (67, .iload_n 3, []), (68, .iload_n 2, []), (69, .isub, []), (70, .iconst 5, []), (71, .if_icmp .lt 64, [10]), (74, .aload_n 0, []), (75, .iload_n 2, []), (76, .invokevirtual 67, [118, 2, 11, 950, 0]), (79, .ifCond .le 56, [10]), (82, .aload_n 0, []), (83, .iload_n 2, []), (84, .invokevirtual 67, [118, 2, 11, 950, 0]), (87, .iload_n 3, []), (88, .iload_n 2, []), (89, .isub, []), (90, .iconst 4, []), (91, .isub, []), (92, .if_icmp .gt 43, [10]), (95, .aload_n 0, []), (96, .getfield 7, [10, 1, 0, 850]), (99, .iload_n 2, []), (100, .iconst 3, []), (101, .iadd, []), (102, .aload_n 0, []), (103, .iload_n 2, []), (104, .invokevirtual 67, [118, 2, 11, 950, 0]), (107, .iadd, []), (108, .baload, []), (109, .ifCond .ne 26, [10]), (112, .aload_n 0, []), (113, .iload_n 2, []), (114, .iconst 4, []), (115, .iadd, []), (116, .iload_n 2, []), (117, .iconst 3, []), (118, .iadd, []), (119, .aload_n 0, []), (120, .iload_n 2, []), (121, .invokevirtual 67, [118, 2, 11, 950, 0]), (124, .iadd, []), (125, .invokevirtual 79, [112, 3, 11, 922, 0]), (128, .ifCond .eq 7, [10]), (131, .iconst 1, []), (132, .goto 4, [11])]
def B126_10 : List mmI := [(135, .iconst 0, []), (136, .nop, [11])]
def B126_11 : List mmI := [(136, .ireturn, [1])]
def B126_12 : List mmI := [(137, .iload_n 1, []), (138, .bipush 10, []), (140, .if_icmp .eq 36, [16]), (143, .iload_n 1, []), (144, .iconst 3, []), (145, .if_icmp .eq 8, [13]), (148, .iload_n 1, []), (149, .iconst 4, []), (150, .if_icmp .ne 30, [17]), (153, .nop, [13])]
def B126_13 : List mmI := [(153, .aload_n 0, []), (154, .iload_n 2, []), (155, .iload_n 3, []), (156, .iload 4, []), (158, .iconst 1, []), (159, .iadd, []), (160, .iload_n 1, []), (161, .iconst 4, []), (162, .if_icmp .ne 7, [14]), (165, .iconst 1, []), (166, .goto 4, [15])]
def B126_14 : List mmI := [(169, .iconst 0, []), (170, .nop, [15])]
def B126_15 : List mmI := [(170, .invokevirtual 97, [119, 5, 11, 956, 0]), (173, .ifCond .eq 7, [17]), (176, .nop, [16])]
def B126_16 : List mmI := [(176, .iconst 1, []), (177, .goto 4, [18])]
def B126_17 : List mmI := [(180, .iconst 0, []), (181, .nop, [18])]
def B126_18 : List mmI := [(181, .ireturn, [1])]
def M126 : List (List mmI) := [B126_0, B126_1, B126_2, B126_3, B126_4, B126_5, B126_6, B126_7, B126_8, B126_9, B126_10, B126_11, B126_12, B126_13, B126_14, B126_15, B126_16, B126_17, B126_18]
/- 127: BoundsPlannerModel.lookFilter(I)V -/
def B127_0 : List mmI := [(0, .iload_n 1, []), (1, .iconst 4, []), (2, .iadd, []), (3, .istore_n 2, []), (4, .nop, [1])]
def B127_1 : List mmI := [(4, .iload_n 2, []), (5, .aload_n 0, []), (6, .iload_n 1, []), (7, .invokevirtual 156, [128, 2, 11, 992, 0]), (10, .if_icmp .ge 44, [4]), (13, .aload_n 0, []), (14, .getfield 147, [10, 10, 0, 859]), (17, .ifCond .ne 37, [4]), (20, .aload_n 0, []), (21, .iload_n 2, []), (22, .iconst 1, []), (23, .iadd, []), (24, .invokevirtual 46, [114, 2, 11, 930, 0]), (27, .bipush 36, []), (29, .if_icmp .ne 11, [2]), (32, .aload_n 0, []), (33, .iload_n 2, []), (34, .invokevirtual 159, [129, 2, 11, 996, 0]), (37, .goto 8, [3])]
def B127_2 : List mmI := [(40, .aload_n 0, []), (41, .iload_n 2, []), (42, .invokevirtual 162, [134, 2, 11, 1020, 0]), (45, .nop, [3])]
def B127_3 : List mmI := [(45, .aload_n 0, []), (46, .iload_n 2, []), (47, .invokevirtual 94, [122, 2, 11, 968, 0]), (50, .istore_n 2, []), (51, .goto (-47), [1])]
def B127_4 : List mmI := [(54, .return_, [])]
def M127 : List (List mmI) := [B127_0, B127_1, B127_2, B127_3, B127_4]
/- 128: BoundsPlannerModel.last(I)I -/
def B128_0 : List mmI := [(0, .iload_n 1, []), (1, .aload_n 0, []), (2, .iload_n 1, []), (3, .invokevirtual 67, [118, 2, 11, 950, 0]), (6, .iadd, []), (7, .iconst 1, []), (8, .isub, []), (9, .ireturn, [0])]
def M128 : List (List mmI) := [B128_0]
/- 129: BoundsPlannerModel.lookJoin(I)V -/
def B129_0 : List mmI := [(0, .aload_n 0, []), (1, .iload_n 1, []), (2, .invokevirtual 73, [123, 2, 11, 972, 0]), (5, .istore_n 2, []), (6, .aload_n 0, []), (7, .iload_n 1, []), (8, .invokevirtual 144, [130, 2, 11, 1000, 0]), (11, .ifCond .ne 11, [1]), (14, .aload_n 0, []), (15, .iconst 1, []), (16, .invokevirtual 153, [132, 2, 11, 1012, 0]), (19, .goto 26, [3])]
def B129_1 : List mmI := [(22, .aload_n 0, []), (23, .iload_n 1, []), (24, .invokevirtual 46, [114, 2, 11, 930, 0]), (27, .iconst 4, []), (28, .if_icmp .ne 12, [2]), (31, .aload_n 0, []), (32, .iload_n 2, []), (33, .invokevirtual 67, [118, 2, 11, 950, 0]), (36, .iconst 5, []), (37, .if_icmp .ne 8, [3]), (40, .nop, [2])]
def B129_2 : List mmI := [(40, .aload_n 0, []), (41, .iconst 2, []), (42, .invokevirtual 153, [132, 2, 11, 1012, 0]), (45, .nop, [3])]
def B129_3 : List mmI := [(45, .aload_n 0, []), (46, .iconst 1, []), (47, .invokevirtual 165, [133, 2, 11, 1016, 0]), (50, .iload_n 2, []), (51, .iconst 4, []), (52, .iadd, []), (53, .istore_n 3, []), (54, .nop, [4])]
def B129_4 : List mmI := [(54, .aload_n 0, []), (55, .getfield 147, [10, 10, 0, 859]), (58, .ifCond .ne 47, [7]), (61, .iload_n 3, []), (62, .aload_n 0, []), (63, .iload_n 2, []), (64, .invokevirtual 156, [128, 2, 11, 992, 0]), (67, .if_icmp .ge 38, [7]), (70, .aload_n 0, []), (71, .iload_n 3, []), (72, .invokevirtual 46, [114, 2, 11, 930, 0]), (75, .iconst 3, []), (76, .if_icmp .eq 11, [5]), (79, .aload_n 0, []), (80, .iconst 2, []), (81, .invokevirtual 153, [132, 2, 11, 1012, 0]), (84, .goto 12, [6])]
def B129_5 : List mmI := [(87, .aload_n 0, []), (88, .aload_n 0, []), (89, .iload_n 3, []), (90, .invokevirtual 73, [123, 2, 11, 972, 0]), (93, .invokevirtual 167, [127, 2, 11, 988, 0]), (96, .nop, [6])]
def B129_6 : List mmI := [(96, .aload_n 0, []), (97, .iload_n 3, []), (98, .invokevirtual 94, [122, 2, 11, 968, 0]), (101, .istore_n 3, []), (102, .goto (-48), [4])]
def B129_7 : List mmI := [(105, .return_, [])]
def M129 : List (List mmI) := [B129_0, B129_1, B129_2, B129_3, B129_4, B129_5, B129_6, B129_7]
/- 130: BoundsPlannerModel.isJoin(I)Z -/
def B130_0 : List mmI := [(0, .aload_n 0, []), (1, .iload_n 1, []), (2, .ldc2_w 106, [1684955428, 1004]), (5, .invokevirtual 108, [131, 3, 11, 1005, 0]), (8, .ifCond .ne 25, [1]), (11, .aload_n 0, []), (12, .iload_n 1, []), (13, .ldc2_w 112, [7499556, 1010]), (16, .invokevirtual 108, [131, 3, 11, 1005, 0]), (19, .ifCond .ne 14, [1]), (22, .aload_n 0, []), (23, .iload_n 1, []), (24, .ldc2_w 114, [1919905316, 1011]), (27, .invokevirtual 108, [131, 3, 11, 1005, 0]), (30, .ifCond .eq 7, [2]), (33, .nop, [1])]
def B130_1 : List mmI := [(33, .iconst 1, []), (34, .goto 4, [3])]
def B130_2 : List mmI := [(37, .iconst 0, []), (38, .nop, [3])]
def B130_3 : List mmI := [(38, .ireturn, [1])]
def M130 : List (List mmI) := [B130_0, B130_1, B130_2, B130_3]
/- 131: BoundsPlannerModel.isNamed(IJ)Z -/
def B131_0 : List mmI := [(0, .iload_n 1, []), (1, .iconst 1, []), (2, .iadd, []), (3, .istore 4, []), (5, .lload_n 2, []), (6, .lstore 5, []), (8, .nop, [1])]
def B131_1 : List mmI := [(8, .lload 5, []), (10, .lconst 0, []), (11, .lcmp, []), (12, .ifCond .le 34, [3]), (15, .aload_n 0, []), (16, .iload 4, []), (18, .invokevirtual 46, [114, 2, 11, 930, 0]), (21, .lload 5, []), (23, .ldc2_w 104, [255, 1009]), (26, .land, []), (27, .l2i, []), (28, .if_icmp .eq 5, [2]), (31, .iconst 0, []), (32, .ireturn, [1])]
def B131_2 : List mmI := [(33, .iinc 4 1, []), (36, .lload 5, []), (38, .bipush 8, []), (40, .lshr, []), (41, .lstore 5, []), (43, .goto (-35), [1])]
def B131_3 : List mmI := [(46, .aload_n 0, []), (47, .getfield 7, [10, 1, 0, 850]), (50, .iload 4, []), (52, .baload, []), (53, .ifCond .ne 7, [4]), (56, .iconst 1, []), (57, .goto 4, [5])]
def B131_4 : List mmI := [(60, .iconst 0, []), (61, .nop, [5])]
def B131_5 : List mmI := [(61, .ireturn, [1])]
def M131 : List (List mmI) := [B131_0, B131_1, B131_2, B131_3, B131_4, B131_5]
/- 132: BoundsPlannerModel.fails(I)V -/
def B132_0 : List mmI := [(0, .aload_n 0, []), (1, .aload_n 0, []), (2, .getfield 147, [10, 10, 0, 859]), (5, .ifCond .ne 7, [1]), (8, .iload_n 1, []), (9, .goto 7, [2])]
def B132_1 : List mmI := [(12, .aload_n 0, []), (13, .getfield 147, [10, 10, 0, 859]), (16, .nop, [2])]
def B132_2 : List mmI := [(16, .putfield 147, [10, 10, 0, 859]), (19, .return_, [])]
def M132 : List (List mmI) := [B132_0, B132_1, B132_2]
/- 133: BoundsPlannerModel.counts(I)V -/
def B133_0 : List mmI := [(0, .aload_n 0, []), (1, .dup, []), (2, .getfield 150, [10, 9, 0, 858]), (5, .iload_n 1, []), (6, .iadd, []), (7, .putfield 150, [10, 9, 0, 858]), (10, .aload_n 0, []), (11, .getfield 150, [10, 9, 0, 858]), (14, .bipush 100, []), (16, .if_icmp .le 8, [1]), (19, .aload_n 0, []), (20, .iconst 5, []), (21, .invokevirtual 153, [132, 2, 11, 1012, 0]), (24, .nop, [1])]
def B133_1 : List mmI := [(24, .return_, [])]
def M133 : List (List mmI) := [B133_0, B133_1]
/- 134: BoundsPlannerModel.lookPath(I)V -/
def B134_0 : List mmI := [(0, .aload_n 0, []), (1, .iload_n 1, []), (2, .iconst 1, []), (3, .iadd, []), (4, .invokevirtual 70, [124, 2, 11, 976, 0]), (7, .iload_n 1, []), (8, .isub, []), (9, .iconst 1, []), (10, .isub, []), (11, .istore_n 2, []), (12, .aload_n 0, []), (13, .iload_n 1, []), (14, .iconst 1, []), (15, .iadd, []), (16, .iload_n 2, []), (17, .invokevirtual 101, [111, 3, 11, 918, 0]), (20, .istore_n 3, []), (21, .iload_n 1, []), (22, .iconst 2, []), (23, .iadd, []), (24, .istore 4, []), (26, .nop, [1])]
def B134_1 : List mmI := [(26, .iload 4, []), (28, .iload_n 1, []), (29, .iconst 1, []), (30, .iadd, []), (31, .iload_n 2, []), (32, .iadd, []), (33, .if_icmp .ge 43, [5]), (36, .iload_n 3, []), (37, .ifCond .eq 31, [3]), (40, .aload_n 0, []), (41, .iload 4, []), (43, .invokevirtual 46, [114, 2, 11, 930, 0]), (46, .bipush 36, []), (48, .if_icmp .ne 16, [2]), (51, .aload_n 0, []), (52, .iload 4, []), (54, .iconst 1, []), (55, .isub, []), (56, .invokevirtual 46, [114, 2, 11, 930, 0]), (59, .bipush 46, []), (61, .if_icmp .eq 7, [3]), (64, .nop, [2])]
def B134_2 : List mmI := [(64, .iconst 1, []), (65, .goto 4, [4])]
def B134_3 : List mmI := [(68, .iconst 0, []), (69, .nop, [4])]
def B134_4 : List mmI := [(69, .istore_n 3, []), (70, .iinc 4 1, []), (73, .goto (-47), [1])]
def B134_5 : List mmI := [(76, .iload_n 3, []), (77, .ifCond .ne 8, [6]), (80, .aload_n 0, []), (81, .iconst 3, []), (82, .invokevirtual 153, [132, 2, 11, 1012, 0]), (85, .nop, [6])]
def B134_6 : List mmI := [(85, .aload_n 0, []), (86, .iload_n 1, []), (87, .invokevirtual 140, [135, 2, 11, 1024, 0]), (90, .istore 4, []), (92, .aload_n 0, []), (93, .iload 4, []), (95, .ifCond .eq 7, [7]), (98, .iconst 1, []), (99, .goto 4, [8])]
def B134_7 : List mmI := [(102, .iconst 2, []), (103, .nop, [8])]
def B134_8 : List mmI := [(103, .invokevirtual 165, [133, 2, 11, 1016, 0]), (106, .iload 4, []), (108, .ifCond .eq 19, [9]), (111, .aload_n 0, []), (112, .getfield 147, [10, 10, 0, 859]), (115, .ifCond .ne 12, [9]), (118, .aload_n 0, []), (119, .aload_n 0, []), (120, .iload_n 1, []), (121, .invokevirtual 73, [123, 2, 11, 972, 0]), (124, .invokevirtual 170, [136, 2, 11, 1028, 0]), (127, .nop, [9])]
def B134_9 : List mmI := [(127, .return_, [])]
def M134 : List (List mmI) := [B134_0, B134_1, B134_2, B134_3, B134_4, B134_5, B134_6, B134_7, B134_8, B134_9]
/- 135: BoundsPlannerModel.isConditions(I)Z -/
def B135_0 : List mmI := [(0, .aload_n 0, []), (1, .iload_n 1, []), (2, .invokevirtual 73, [123, 2, 11, 972, 0]), (5, .istore_n 2, []), (6, .aload_n 0, []), (7, .iload_n 1, []), (8, .invokevirtual 46, [114, 2, 11, 930, 0]), (11, .iconst 3, []), (12, .if_icmp .ne 28, [1]), (15, .aload_n 0, []), (16, .iload_n 2, []), (17, .invokevirtual 67, [118, 2, 11, 950, 0]), (20, .iconst 5, []), (21, .if_icmp .le 19, [1]), (24, .aload_n 0, []), (25, .iload_n 2, []), (26, .iconst 5, []), (27, .iadd, []), (28, .invokevirtual 46, [114, 2, 11, 930, 0]), (31, .bipush 36, []), (33, .if_icmp .ne 7, [1]), (36, .iconst 1, []), (37, .goto 4, [2])]
def B135_1 : List mmI := [(40, .iconst 0, []), (41, .nop, [2])]
def B135_2 : List mmI := [(41, .ireturn, [1])]
def M135 : List (List mmI) := [B135_0, B135_1, B135_2]
/- 136: BoundsPlannerModel.lookConditions(I)V -/
def B136_0 : List mmI := [(0, .iload_n 1, []), (1, .iconst 4, []), (2, .iadd, []), (3, .istore_n 2, []), (4, .nop, [1])]
def B136_1 : List mmI := [(4, .iload_n 2, []), (5, .aload_n 0, []), (6, .iload_n 1, []), (7, .invokevirtual 156, [128, 2, 11, 992, 0]), (10, .if_icmp .ge 249, [20]), (13, .aload_n 0, []), (14, .getfield 147, [10, 10, 0, 859]), (17, .ifCond .ne 242, [20]), (20, .aload_n 0, []), (21, .iload_n 2, []), (22, .invokevirtual 173, [137, 2, 11, 1032, 0]), (25, .istore_n 3, []), (26, .aload_n 0, []), (27, .iload_n 2, []), (28, .invokevirtual 73, [123, 2, 11, 972, 0]), (31, .istore 4, []), (33, .aload_n 0, []), (34, .iload_n 2, []), (35, .invokevirtual 46, [114, 2, 11, 930, 0]), (38, .istore 5, []), (40, .iload_n 3, []), (41, .iconst 2, []), (42, .if_icmp .eq 9, [2]), (45, .iload_n 3, []), (46, .bipush 12, []), (48, .if_icmp .ne 17, [4]), (51, .nop, [2])]
def B136_2 : List mmI := [(51, .iload 5, []), (53, .iconst 4, []), (54, .if_icmp .ne 7, [3]), (57, .iconst 1, []), (58, .goto 108, [14])]
def B136_3 : List mmI := [(61, .iconst 0, []), (62, .goto 104, [14])]
def B136_4 : List mmI := [(65, .iload_n 3, []), (66, .bipush 9, []), (68, .if_icmp .ne 18, [6]), (71, .iload 5, []), (73, .bipush 8, []), (75, .if_icmp .ne 7, [5]), (78, .iconst 1, []), (79, .goto 87, [14])]
def B136_5 : List mmI := [(82, .iconst 0, []), (83, .goto 83, [14])]
def B136_6 : List mmI := [(86, .iload_n 3, []), (87, .bipush 10, []), (89, .if_icmp .ne 38, [9]), (92, .iload 5, []), (94, .bipush 16, []), (96, .if_icmp .eq 10, [7]), (99, .iload 5, []), (101, .bipush 18, []), (103, .if_icmp .ne 20, [8]), (106, .nop, [7])]
def B136_7 : List mmI := [(106, .aload_n 0, []), (107, .iload 5, []), (109, .iload 4, []), (111, .invokevirtual 176, [138, 3, 11, 1048, 0]), (114, .lconst 0, []), (115, .lcmp, []), (116, .ifCond .lt 7, [8]), (119, .iconst 1, []), (120, .goto 46, [14])]
def B136_8 : List mmI := [(123, .iconst 0, []), (124, .goto 42, [14])]
def B136_9 : List mmI := [(127, .iload_n 3, []), (128, .bipush 7, []), (130, .if_icmp .ne 17, [11]), (133, .iload 5, []), (135, .iconst 3, []), (136, .if_icmp .ne 7, [10]), (139, .iconst 1, []), (140, .goto 26, [14])]
def B136_10 : List mmI := [(143, .iconst 0, []), (144, .goto 22, [14])]
def B136_11 : List mmI := [(147, .iload_n 3, []), (148, .bipush 8, []), (150, .if_icmp .ne 11, [12]), (153, .aload_n 0, []), (154, .iload_n 2, []), (155, .invokevirtual 140, [135, 2, 11, 1024, 0]), (158, .ifCond .eq 7, [13]), (161, .nop, [12])]
def B136_12 : List mmI := [(161, .iconst 1, []), (162, .goto 4, [14])]
def B136_13 : List mmI := [(165, .iconst 0, []), (166, .nop, [14])]
def B136_14 : List mmI := [(166, .istore 6, []), (168, .iload_n 3, []), (169, .ifCond .ne 11, [15]), (172, .aload_n 0, []), (173, .iconst 1, []), (174, .invokevirtual 153, [132, 2, 11, 1012, 0]), (177, .goto 13, [16])]
def B136_15 : List mmI := [(180, .iload 6, []), (182, .ifCond .ne 8, [16]), (185, .aload_n 0, []), (186, .iconst 4, []), (187, .invokevirtual 153, [132, 2, 11, 1012, 0]), (190, .nop, [16])]
def B136_16 : List mmI := [(190, .aload_n 0, []), (191, .iconst 1, []), (192, .invokevirtual 165, [133, 2, 11, 1016, 0]), (195, .aload_n 0, []), (196, .getfield 147, [10, 10, 0, 859]), (199, .ifCond .ne 15, [17]), (202, .iload_n 3, []), (203, .bipush 8, []), (205, .if_icmp .ne 9, [17]), (208, .aload_n 0, []), (209, .iload 4, []), (211, .invokevirtual 170, [136, 2, 11, 1028, 0]), (214, .nop, [17])]
def B136_17 : List mmI := [(214, .aload_n 0, []), (215, .getfield 147, [10, 10, 0, 859]), (218, .ifCond .ne 32, [19]), (221, .iload_n 3, []), (222, .bipush 7, []), (224, .if_icmp .ne 26, [19]), (227, .aload_n 0, []), (228, .iload_n 2, []), (229, .invokevirtual 180, [139, 2, 11, 1054, 0]), (232, .ifCond .eq 12, [18]), (235, .aload_n 0, []), (236, .iload 4, []), (238, .invokevirtual 170, [136, 2, 11, 1028, 0]), (241, .goto 9, [19])]
def B136_18 : List mmI := [(244, .aload_n 0, []), (245, .iload 4, []), (247, .invokevirtual 167, [127, 2, 11, 988, 0]), (250, .nop, [19])]
def B136_19 : List mmI := [(250, .aload_n 0, []), (251, .iload_n 2, []), (252, .invokevirtual 94, [122, 2, 11, 968, 0]), (255, .istore_n 2, []), (256, .goto (-252), [1])]
def B136_20 : List mmI := [(259, .return_, [])]
def M136 : List (List mmI) := [B136_0, B136_1, B136_2, B136_3, B136_4, B136_5, B136_6, B136_7, B136_8, B136_9, B136_10, B136_11, B136_12, B136_13, B136_14, B136_15, B136_16, B136_17, B136_18, B136_19, B136_20]
/- 137: BoundsPlannerModel.numberOf(I)I -/
def B137_0 : List mmI := [(0, .aload_n 0, []), (1, .iload_n 1, []), (2, .ldc2_w 116, [7431460, 1036]), (5, .invokevirtual 108, [131, 3, 11, 1005, 0]), (8, .ifCond .eq 5, [1]), (11, .iconst 1, []), (12, .ireturn, [0])]
def B137_1 : List mmI := [(13, .aload_n 0, []), (14, .iload_n 1, []), (15, .ldc2_w 118, [7235876, 1037]), (18, .invokevirtual 108, [131, 3, 11, 1005, 0]), (21, .ifCond .eq 5, [2]), (24, .iconst 2, []), (25, .ireturn, [0])]
def B137_2 : List mmI := [(26, .aload_n 0, []), (27, .iload_n 1, []), (28, .ldc2_w 120, [7629860, 1038]), (31, .invokevirtual 108, [131, 3, 11, 1005, 0]), (34, .ifCond .eq 5, [3]), (37, .iconst 3, []), (38, .ireturn, [0])]
def B137_3 : List mmI := [(39, .aload_n 0, []), (40, .iload_n 1, []), (41, .ldc2_w 122, [1702128676, 1039]), (44, .invokevirtual 108, [131, 3, 11, 1005, 0]), (47, .ifCond .eq 5, [4]), (50, .iconst 4, []), (51, .ireturn, [0])]
def B137_4 : List mmI := [(52, .aload_n 0, []), (53, .iload_n 1, []), (54, .ldc2_w 124, [7628580, 1040]), (57, .invokevirtual 108, [131, 3, 11, 1005, 0]), (60, .ifCond .eq 5, [5]), (63, .iconst 5, []), (64, .ireturn, [0])]
def B137_5 : List mmI := [(65, .aload_n 0, []), (66, .iload_n 1, []), (67, .ldc2_w 126, [1702127396, 1041]), (70, .invokevirtual 108, [131, 3, 11, 1005, 0]), (73, .ifCond .eq 6, [6]), (76, .bipush 6, []), (78, .ireturn, [0])]
def B137_6 : List mmI := [(79, .aload_n 0, []), (80, .iload_n 1, []), (81, .ldc2_w 128, [469853037860, 1042]), (84, .invokevirtual 108, [131, 3, 11, 1005, 0]), (87, .ifCond .eq 6, [7]), (90, .bipush 7, []), (92, .ireturn, [0])]
def B137_7 : List mmI := [(93, .aload_n 0, []), (94, .iload_n 1, []), (95, .ldc2_w 130, [1953459748, 1043]), (98, .invokevirtual 108, [131, 3, 11, 1005, 0]), (101, .ifCond .eq 6, [8]), (104, .bipush 8, []), (106, .ireturn, [0])]
def B137_8 : List mmI := [(107, .aload_n 0, []), (108, .iload_n 1, []), (109, .ldc2_w 132, [32497661361284388, 1044]), (112, .invokevirtual 108, [131, 3, 11, 1005, 0]), (115, .ifCond .eq 6, [9]), (118, .bipush 9, []), (120, .ireturn, [0])]
def B137_9 : List mmI := [(121, .aload_n 0, []), (122, .iload_n 1, []), (123, .ldc2_w 134, [435845428004, 1045]), (126, .invokevirtual 108, [131, 3, 11, 1005, 0]), (129, .ifCond .eq 6, [10]), (132, .bipush 10, []), (134, .ireturn, [0])]
def B137_10 : List mmI := [(135, .aload_n 0, []), (136, .iload_n 1, []), (137, .ldc2_w 136, [6647332, 1046]), (140, .invokevirtual 108, [131, 3, 11, 1005, 0]), (143, .ifCond .eq 6, [11]), (146, .bipush 11, []), (148, .ireturn, [0])]
def B137_11 : List mmI := [(149, .aload_n 0, []), (150, .iload_n 1, []), (151, .ldc2_w 138, [1852403236, 1047]), (154, .invokevirtual 108, [131, 3, 11, 1005, 0]), (157, .ifCond .eq 8, [12]), (160, .bipush 12, []), (162, .goto 4, [13])]
def B137_12 : List mmI := [(165, .iconst 0, []), (166, .nop, [13])]
def B137_13 : List mmI := [(166, .ireturn, [0])]
def M137 : List (List mmI) := [B137_0, B137_1, B137_2, B137_3, B137_4, B137_5, B137_6, B137_7, B137_8, B137_9, B137_10, B137_11, B137_12, B137_13]
/- 138: BoundsPlannerModel.longAt(II)J -/
def B138_0 : List mmI := [(0, .iload_n 1, []), (1, .bipush 16, []), (3, .if_icmp .ne 10, [1]), (6, .aload_n 0, []), (7, .iload_n 2, []), (8, .invokevirtual 67, [118, 2, 11, 950, 0]), (11, .i2l, []), (12, .lreturn, [])]
def B138_1 : List mmI := [(13, .iload_n 1, []), (14, .bipush 8, []), (16, .if_icmp .ne 12, [2]), (19, .aload_n 0, []), (20, .iload_n 2, []), (21, .invokevirtual 46, [114, 2, 11, 930, 0]), (24, .i2l, []), (25, .goto 26, [3])]
def B138_2 : List mmI := [(28, .aload_n 0, []), (29, .iload_n 2, []), (30, .iconst 4, []), (31, .iadd, []), (32, .invokevirtual 67, [118, 2, 11, 950, 0]), (35, .i2l, []), (36, .ldc2_w 193, [4294967296, 1052]), (39, .lmul, []), (40, .aload_n 0, []), (41, .iload_n 2, []), (42, .invokevirtual 67, [118, 2, 11, 950, 0]), (45, .i2l, []), (46, .ldc2_w 195, [4294967295, 1053]), (49, .land, []), (50, .ladd, []), (51, .nop, [3])]
def B138_3 : List mmI := [(51, .lreturn, [])]
def M138 : List (List mmI) := [B138_0, B138_1, B138_2, B138_3]
/- 139: BoundsPlannerModel.isOfItems(I)Z -/
def B139_0 : List mmI := [(0, .aload_n 0, []), (1, .iload_n 1, []), (2, .invokevirtual 140, [135, 2, 11, 1024, 0]), (5, .ifCond .eq 21, [1]), (8, .aload_n 0, []), (9, .aload_n 0, []), (10, .iload_n 1, []), (11, .invokevirtual 73, [123, 2, 11, 972, 0]), (14, .iconst 4, []), (15, .iadd, []), (16, .invokevirtual 144, [130, 2, 11, 1000, 0]), (19, .ifCond .ne 7, [1]), (22, .iconst 1, []), (23, .goto 4, [2])]
def B139_1 : List mmI := [(26, .iconst 0, []), (27, .nop, [2])]
def B139_2 : List mmI := [(27, .ireturn, [1])]
def M139 : List (List mmI) := [B139_0, B139_1, B139_2]
/- 140: BoundsPlannerModel.value(I)I -/
def B140_0 : List mmI := [(0, .iload_n 1, []), (1, .ifCond .lt 11, [1]), (4, .iload_n 1, []), (5, .aload_n 0, []), (6, .getfield 52, [10, 2, 0, 851]), (9, .if_icmp .le 6, [2]), (12, .nop, [1])]
def B140_1 : List mmI := [(12, .bipush (-2), []), (14, .ireturn, [0])]
def B140_2 : List mmI := [(15, .aload_n 0, []), (16, .iconst 0, []), (17, .putfield 52, [10, 2, 0, 851]), (20, .aload_n 0, []), (21, .aload_n 0, []), (22, .iload_n 1, []), (23, .invokevirtual 187, [117, 2, 11, 946, 0]), (26, .ifCond .eq 12, [3]), (29, .iload_n 1, []), (30, .iconst 5, []), (31, .if_icmp .le 7, [3]), (34, .iconst 1, []), (35, .goto 4, [4])]
def B140_3 : List mmI := [(38, .iconst 0, []), (39, .nop, [4])]
def B140_4 : List mmI := [(39, .putfield 190, [10, 4, 1, 853]), (42, .iconst 0, []), (43, .istore_n 2, []), (44, .nop, [5])]
def B140_5 : List mmI := [(44, .iload_n 2, []), (45, .iload_n 1, []), (46, .if_icmp .ge 36, [6]), (49, .aload_n 0, []), (50, .getfield 190, [10, 4, 0, 853]), (53, .ifCond .eq 29, [6]), (56, .aload_n 0, []), (57, .getfield 7, [10, 1, 0, 850]), (60, .sipush 2000, []), (63, .iload_n 2, []), (64, .iadd, []), (65, .aload_n 0, []), (66, .getfield 7, [10, 1, 0, 850]), (69, .sipush 20000, []), (72, .iload_n 2, []), (73, .iadd, []), (74, .baload, []), (75, .bastore, []), (76, .iinc 2 1, []), (79, .goto (-35), [5])]
def B140_6 : List mmI := [(82, .aload_n 0, []), (83, .getfield 190, [10, 4, 0, 853]), (86, .ifCond .eq 13, [7]), (89, .aload_n 0, []), (90, .sipush 2004, []), (93, .invokevirtual 46, [114, 2, 11, 930, 0]), (96, .goto 4, [8])]
def B140_7 : List mmI := [(99, .iconst (-1), []), (100, .nop, [8])]
def B140_8 : List mmI := [(100, .ireturn, [0])]
def M140 : List (List mmI) := [B140_0, B140_1, B140_2, B140_3, B140_4, B140_5, B140_6, B140_7, B140_8]
/- 141: BoundsPlannerModel.many(II)I -/
def B141_0 : List mmI := [(0, .aload_n 0, []), (1, .iload_n 1, []), (2, .iload_n 2, []), (3, .invokevirtual 275, [142, 3, 11, 1066, 0]), (6, .ifCond .ne 6, [1]), (9, .bipush (-2), []), (11, .ireturn, [0])]
def B141_1 : List mmI := [(12, .aload_n 0, []), (13, .iload_n 1, []), (14, .iload_n 2, []), (15, .invokevirtual 278, [143, 3, 11, 1070, 0]), (18, .ifCond .eq 12, [2]), (21, .aload_n 0, []), (22, .getfield 33, [10, 14, 0, 863]), (25, .iconst 0, []), (26, .iaload, []), (27, .goto 4, [3])]
def B141_2 : List mmI := [(30, .iconst (-1), []), (31, .nop, [3])]
def B141_3 : List mmI := [(31, .ireturn, [0])]
def M141 : List (List mmI) := [B141_0, B141_1, B141_2, B141_3]
/- 142: BoundsPlannerModel.isPathOf(II)Z -/
def B142_0 : List mmI := [(0, .iload_n 1, []), (1, .ifCond .lt 47, [2]), (4, .iload_n 1, []), (5, .bipush 8, []), (7, .if_icmp .ge 41, [2]), (10, .aload_n 0, []), (11, .getfield 13, [10, 5, 0, 854]), (14, .iload_n 1, []), (15, .baload, []), (16, .ifCond .eq 32, [2]), (19, .iload_n 2, []), (20, .ifCond .eq 17, [1]), (23, .iload_n 2, []), (24, .iconst 1, []), (25, .if_icmp .ne 23, [2]), (28, .aload_n 0, []), (29, .getfield 21, [10, 7, 0, 856]), (32, .iload_n 1, []), (33, .iaload, []), (34, .ifCond .le 14, [2]), (37, .nop, [1])]
def B142_1 : List mmI := [(37, .aload_n 0, []), (38, .getfield 183, [10, 3, 0, 852]), (41, .ifCond .eq 7, [2]), (44, .iconst 1, []), (45, .goto 4, [3])]
def B142_2 : List mmI := [(48, .iconst 0, []), (49, .nop, [3])]
def B142_3 : List mmI := [(49, .ireturn, [1])]
def M142 : List (List mmI) := [B142_0, B142_1, B142_2, B142_3]
/- 143: BoundsPlannerModel.find(II)Z -/
def B143_0 : List mmI := [(0, .aload_n 0, []), (1, .iconst 0, []), (2, .putfield 250, [10, 11, 0, 860]), (5, .sipush 4000, []), (8, .sipush 2000, []), (11, .iload_n 1, []), (12, .imul, []), (13, .iadd, []), (14, .iload_n 2, []), (15, .ifCond .ne 7, [1]), (18, .iconst 0, []), (19, .goto 9, [2])]
def B143_1 : List mmI := [(22, .aload_n 0, []), (23, .getfield 17, [10, 6, 0, 855]), (26, .iload_n 1, []), (27, .iaload, []), (28, .nop, [2])]
def B143_2 : List mmI := [(28, .iadd, []), (29, .istore_n 3, []), (30, .aload_n 0, []), (31, .iconst 0, []), (32, .iload_n 3, []), (33, .iload_n 2, []), (34, .ifCond .ne 12, [3]), (37, .aload_n 0, []), (38, .getfield 17, [10, 6, 0, 855]), (41, .iload_n 1, []), (42, .iaload, []), (43, .goto 9, [4])]
def B143_3 : List mmI := [(46, .aload_n 0, []), (47, .getfield 21, [10, 7, 0, 856]), (50, .iload_n 1, []), (51, .iaload, []), (52, .nop, [4])]
def B143_4 : List mmI := [(52, .invokevirtual 241, [144, 4, 11, 1074, 0]), (55, .aload_n 0, []), (56, .getfield 24, [10, 8, 0, 857]), (59, .iload_n 1, []), (60, .iaload, []), (61, .iload_n 2, []), (62, .ifCond .ne 7, [5]), (65, .iconst 4, []), (66, .goto 5, [6])]
def B143_5 : List mmI := [(69, .bipush 8, []), (71, .nop, [6])]
def B143_6 : List mmI := [(71, .iand, []), (72, .ifCond .le 10, [7]), (75, .aload_n 0, []), (76, .invokevirtual 256, [147, 1, 11, 1086, 0]), (79, .goto 7, [8])]
def B143_7 : List mmI := [(82, .aload_n 0, []), (83, .invokevirtual 260, [162, 1, 11, 1145, 0]), (86, .nop, [8])]
def B143_8 : List mmI := [(86, .ireturn, [1])]
def M143 : List (List mmI) := [B143_0, B143_1, B143_2, B143_3, B143_4, B143_5, B143_6, B143_7, B143_8]
/- 144: BoundsPlannerModel.collect(III)V -/
def B144_0 : List mmI := [(0, .iload_n 1, []), (1, .iconst 4, []), (2, .iadd, []), (3, .istore 4, []), (5, .nop, [1])]
def B144_1 : List mmI := [(5, .iload 4, []), (7, .aload_n 0, []), (8, .iload_n 1, []), (9, .invokevirtual 156, [128, 2, 11, 992, 0]), (12, .if_icmp .ge 153, [8]), (15, .aload_n 0, []), (16, .iload 4, []), (18, .invokevirtual 73, [123, 2, 11, 972, 0]), (21, .istore 5, []), (23, .aload_n 0, []), (24, .iload 4, []), (26, .ldc2_w 106, [1684955428, 1004]), (29, .invokevirtual 108, [131, 3, 11, 1005, 0]), (32, .ifCond .eq 46, [4]), (35, .iload 5, []), (37, .iconst 4, []), (38, .iadd, []), (39, .istore 6, []), (41, .nop, [2])]
def B144_2 : List mmI := [(41, .iload 6, []), (43, .aload_n 0, []), (44, .iload 5, []), (46, .invokevirtual 156, [128, 2, 11, 992, 0]), (49, .if_icmp .ge 26, [3]), (52, .aload_n 0, []), (53, .aload_n 0, []), (54, .iload 6, []), (56, .invokevirtual 73, [123, 2, 11, 972, 0]), (59, .iload_n 2, []), (60, .iload_n 3, []), (61, .invokevirtual 241, [144, 4, 11, 1074, 0]), (64, .aload_n 0, []), (65, .iload 6, []), (67, .invokevirtual 94, [122, 2, 11, 968, 0]), (70, .istore 6, []), (72, .goto (-31), [2])]
def B144_3 : List mmI := [(75, .goto 79, [7])]
def B144_4 : List mmI := [(78, .aload_n 0, []), (79, .iload 4, []), (81, .iload_n 2, []), (82, .iload_n 3, []), (83, .invokevirtual 244, [145, 4, 11, 1078, 0]), (86, .ifCond .eq 68, [7]), (89, .aload_n 0, []), (90, .iload 4, []), (92, .invokevirtual 140, [135, 2, 11, 1024, 0]), (95, .ifCond .ne 10, [5]), (98, .aload_n 0, []), (99, .iconst 1, []), (100, .iload 4, []), (102, .invokevirtual 247, [146, 3, 11, 1082, 0]), (105, .nop, [5])]
def B144_5 : List mmI := [(105, .iload 5, []), (107, .iconst 4, []), (108, .iadd, []), (109, .istore 6, []), (111, .nop, [6])]
def B144_6 : List mmI := [(111, .aload_n 0, []), (112, .iload 4, []), (114, .invokevirtual 140, [135, 2, 11, 1024, 0]), (117, .ifCond .eq 37, [7]), (120, .iload 6, []), (122, .aload_n 0, []), (123, .iload 5, []), (125, .invokevirtual 156, [128, 2, 11, 992, 0]), (128, .if_icmp .ge 26, [7]), (131, .aload_n 0, []), (132, .aload_n 0, []), (133, .iload 6, []), (135, .invokevirtual 173, [137, 2, 11, 1032, 0]), (138, .iload 6, []), (140, .invokevirtual 247, [146, 3, 11, 1082, 0]), (143, .aload_n 0, []), (144, .iload 6, []), (146, .invokevirtual 94, [122, 2, 11, 968, 0]), (149, .istore 6, []), (151, .goto (-40), [6])]
def B144_7 : List mmI := [(154, .aload_n 0, []), (155, .iload 4, []), (157, .invokevirtual 94, [122, 2, 11, 968, 0]), (160, .istore 4, []), (162, .goto (-157), [1])]
def B144_8 : List mmI := [(165, .return_, [])]
def M144 : List (List mmI) := [B144_0, B144_1, B144_2, B144_3, B144_4, B144_5, B144_6, B144_7, B144_8]
/- 145: BoundsPlannerModel.isPathName(III)Z -/
def B145_0 : List mmI := [(0, .aload_n 0, []), (1, .iload_n 1, []), (2, .iconst 1, []), (3, .iadd, []), (4, .invokevirtual 70, [124, 2, 11, 976, 0]), (7, .iload_n 1, []), (8, .isub, []), (9, .iconst 1, []), (10, .isub, []), (11, .iload_n 3, []), (12, .if_icmp .eq 5, [1]), (15, .iconst 0, []), (16, .ireturn, [1])]
def B145_1 : List mmI := [(17, .iconst 0, []), (18, .istore 4, []), (20, .nop, [2])]
def B145_2 : List mmI := [(20, .iload 4, []), (22, .iload_n 3, []), (23, .if_icmp .ge 34, [4]), (26, .aload_n 0, []), (27, .getfield 7, [10, 1, 0, 850]), (30, .iload_n 1, []), (31, .iconst 1, []), (32, .iadd, []), (33, .iload 4, []), (35, .iadd, []), (36, .baload, []), (37, .aload_n 0, []), (38, .getfield 7, [10, 1, 0, 850]), (41, .iload_n 2, []), (42, .iload 4, []), (44, .iadd, []), (45, .baload, []), (46, .if_icmp .eq 5, [3]), (49, .iconst 0, []), (50, .ireturn, [1])]
def B145_3 : List mmI := [(51, .iinc 4 1, []), (54, .goto (-34), [2])]
def B145_4 : List mmI := [(57, .iconst 1, []), (58, .ireturn, [1])]
def M145 : List (List mmI) := [B145_0, B145_1, B145_2, B145_3, B145_4]
/- 146: BoundsPlannerModel.add(II)V -/
def B146_0 : List mmI := [(0, .iload_n 1, []), (1, .bipush 7, []), (3, .if_icmp .gt 17, [1]), (6, .iload_n 1, []), (7, .bipush 7, []), (9, .if_icmp .ne 12, [2]), (12, .aload_n 0, []), (13, .iload_n 2, []), (14, .invokevirtual 180, [139, 2, 11, 1054, 0]), (17, .ifCond .ne 4, [2]), (20, .nop, [1])]
def B146_1 : List mmI := [(20, .return_, [])]
def B146_2 : List mmI := [(21, .aload_n 0, []), (22, .getfield 27, [10, 12, 0, 861]), (25, .aload_n 0, []), (26, .getfield 250, [10, 11, 0, 860]), (29, .iload_n 1, []), (30, .iastore, []), (31, .aload_n 0, []), (32, .getfield 30, [10, 13, 0, 862]), (35, .aload_n 0, []), (36, .getfield 250, [10, 11, 0, 860]), (39, .iload_n 2, []), (40, .iastore, []), (41, .aload_n 0, []), (42, .dup, []), (43, .getfield 250, [10, 11, 0, 860]), (46, .iconst 1, []), (47, .iadd, []), (48, .putfield 250, [10, 11, 0, 860]), (51, .return_, [])]
def M146 : List (List mmI) := [B146_0, B146_1, B146_2]
/- 147: BoundsPlannerModel.findOne()Z -/
def B147_0 : List mmI := [(0, .iconst 0, []), (1, .istore_n 1, []), (2, .nop, [1])]
def B147_1 : List mmI := [(2, .iload_n 1, []), (3, .aload_n 0, []), (4, .getfield 250, [10, 11, 0, 860]), (7, .if_icmp .ge 32, [3]), (10, .aload_n 0, []), (11, .getfield 27, [10, 12, 0, 861]), (14, .iload_n 1, []), (15, .iaload, []), (16, .iconst 3, []), (17, .if_icmp .ge 16, [2]), (20, .aload_n 0, []), (21, .iconst 0, []), (22, .iload_n 1, []), (23, .iconst 1, []), (24, .iconst 2, []), (25, .invokevirtual 263, [148, 5, 11, 1090, 0]), (28, .ifCond .eq 5, [2]), (31, .iconst 1, []), (32, .ireturn, [1])]
def B147_2 : List mmI := [(33, .iinc 1 1, []), (36, .goto (-34), [1])]
def B147_3 : List mmI := [(39, .iconst 0, []), (40, .istore_n 1, []), (41, .nop, [4])]
def B147_4 : List mmI := [(41, .iload_n 1, []), (42, .aload_n 0, []), (43, .getfield 250, [10, 11, 0, 860]), (46, .if_icmp .ge 22, [6]), (49, .aload_n 0, []), (50, .iconst 0, []), (51, .iload_n 1, []), (52, .iconst 1, []), (53, .iconst 2, []), (54, .invokevirtual 263, [148, 5, 11, 1090, 0]), (57, .ifCond .eq 5, [5]), (60, .iconst 1, []), (61, .ireturn, [1])]
def B147_5 : List mmI := [(62, .iinc 1 1, []), (65, .goto (-24), [4])]
def B147_6 : List mmI := [(68, .iconst 0, []), (69, .ireturn, [1])]
def M147 : List (List mmI) := [B147_0, B147_1, B147_2, B147_3, B147_4, B147_5, B147_6]
/- 148: BoundsPlannerModel.bounds(IIII)Z -/
def B148_0 : List mmI := [(0, .aload_n 0, []), (1, .getfield 27, [10, 12, 0, 861]), (4, .iload_n 2, []), (5, .iaload, []), (6, .bipush 7, []), (8, .if_icmp .ne 20, [1]), (11, .aload_n 0, []), (12, .iload_n 1, []), (13, .aload_n 0, []), (14, .getfield 30, [10, 13, 0, 862]), (17, .iload_n 2, []), (18, .iaload, []), (19, .iload_n 3, []), (20, .iload 4, []), (22, .invokevirtual 253, [149, 5, 11, 1094, 0]), (25, .goto 20, [2])]
def B148_1 : List mmI := [(28, .aload_n 0, []), (29, .iload_n 1, []), (30, .aload_n 0, []), (31, .getfield 27, [10, 12, 0, 861]), (34, .iload_n 2, []), (35, .iaload, []), (36, .aload_n 0, []), (37, .getfield 30, [10, 13, 0, 862]), (40, .iload_n 2, []), (41, .iaload, []), (42, .invokevirtual 233, [150, 4, 11, 1098, 0]), (45, .nop, [2])]
def B148_2 : List mmI := [(45, .ireturn, [1])]
def M148 : List (List mmI) := [B148_0, B148_1, B148_2]
/- 149: BoundsPlannerModel.writeElem(IIII)Z -/
def B149_0 : List mmI := [(0, .iconst 0, []), (1, .istore 5, []), (3, .aload_n 0, []), (4, .iload_n 2, []), (5, .invokevirtual 73, [123, 2, 11, 972, 0]), (8, .istore 6, []), (10, .iload 6, []), (12, .iconst 4, []), (13, .iadd, []), (14, .istore 7, []), (16, .nop, [1])]
def B149_1 : List mmI := [(16, .iload 7, []), (18, .aload_n 0, []), (19, .iload 6, []), (21, .invokevirtual 156, [128, 2, 11, 992, 0]), (24, .if_icmp .ge 75, [6]), (27, .aload_n 0, []), (28, .iload 7, []), (30, .invokevirtual 173, [137, 2, 11, 1032, 0]), (33, .istore 8, []), (35, .iload 8, []), (37, .iconst 1, []), (38, .if_icmp .lt 50, [5]), (41, .iload 8, []), (43, .bipush 6, []), (45, .if_icmp .gt 43, [5]), (48, .aload_n 0, []), (49, .iload_n 3, []), (50, .iload 8, []), (52, .iload 7, []), (54, .invokevirtual 233, [150, 4, 11, 1098, 0]), (57, .ifCond .ne 6, [2]), (60, .goto 28, [5])]
def B149_2 : List mmI := [(63, .iload 5, []), (65, .ifCond .eq 14, [3]), (68, .aload_n 0, []), (69, .iload_n 1, []), (70, .iload_n 3, []), (71, .iload 4, []), (73, .invokevirtual 237, [159, 4, 11, 1133, 0]), (76, .goto 9, [4])]
def B149_3 : List mmI := [(79, .aload_n 0, []), (80, .iload_n 3, []), (81, .iload_n 1, []), (82, .invokevirtual 230, [161, 3, 11, 1141, 0]), (85, .nop, [4])]
def B149_4 : List mmI := [(85, .iconst 1, []), (86, .istore 5, []), (88, .nop, [5])]
def B149_5 : List mmI := [(88, .aload_n 0, []), (89, .iload 7, []), (91, .invokevirtual 94, [122, 2, 11, 968, 0]), (94, .istore 7, []), (96, .goto (-80), [1])]
def B149_6 : List mmI := [(99, .iload 5, []), (101, .ifCond .ne 5, [7]), (104, .iconst 0, []), (105, .ireturn, [1])]
def B149_7 : List mmI := [(106, .aload_n 0, []), (107, .getfield 33, [10, 14, 0, 863]), (110, .iload 4, []), (112, .iconst 0, []), (113, .iastore, []), (114, .iconst 0, []), (115, .istore 7, []), (117, .iconst 0, []), (118, .istore 8, []), (120, .nop, [8])]
def B149_8 : List mmI := [(120, .iload 8, []), (122, .aload_n 0, []), (123, .getfield 33, [10, 14, 0, 863]), (126, .iload_n 1, []), (127, .iaload, []), (128, .if_icmp .ge 115, [10]), (131, .iload 7, []), (133, .ifCond .ne 32, [9]), (136, .aload_n 0, []), (137, .iload_n 1, []), (138, .iload 8, []), (140, .iconst 0, []), (141, .invokevirtual 215, [152, 4, 11, 1106, 0]), (144, .iconst 5, []), (145, .if_icmp .le 20, [9]), (148, .aload_n 0, []), (149, .iload 4, []), (151, .iconst 5, []), (152, .iconst 0, []), (153, .iconst 0, []), (154, .iconst (-1), []), (155, .iconst 5, []), (156, .iconst 2, []), (157, .iconst 0, []), (158, .iconst (-1), []), (159, .invokevirtual 211, [158, 10, 11, 1129, 0]), (162, .iconst 1, []), (163, .istore 7, []), (165, .nop, [9])]
def B149_9 : List mmI := [(165, .aload_n 0, []), (166, .iload 4, []), (168, .aload_n 0, []), (169, .iload_n 1, []), (170, .iload 8, []), (172, .iconst 0, []), (173, .invokevirtual 215, [152, 4, 11, 1106, 0]), (176, .aload_n 0, []), (177, .iload_n 1, []), (178, .iload 8, []), (180, .iconst 1, []), (181, .invokevirtual 215, [152, 4, 11, 1106, 0]), (184, .aload_n 0, []), (185, .iload_n 1, []), (186, .iload 8, []), (188, .iconst 2, []), (189, .invokevirtual 215, [152, 4, 11, 1106, 0]), (192, .aload_n 0, []), (193, .iload_n 1, []), (194, .iload 8, []), (196, .iconst 3, []), (197, .invokevirtual 215, [152, 4, 11, 1106, 0]), (200, .aload_n 0, []), (201, .iload_n 1, []), (202, .iload 8, []), (204, .iconst 4, []), (205, .invokevirtual 215, [152, 4, 11, 1106, 0]), (208, .aload_n 0, []), (209, .iload_n 1, []), (210, .iload 8, []), (212, .iconst 5, []), (213, .invokevirtual 215, [152, 4, 11, 1106, 0]), (216, .aload_n 0, []), (217, .iload_n 1, []), (218, .iload 8, []), (220, .bipush 6, []), (222, .invokevirtual 215, [152, 4, 11, 1106, 0]), (225, .aload_n 0, []), (226, .iload_n 1, []), (227, .iload 8, []), (229, .bipush 7, []), (231, .invokevirtual 215, [152, 4, 11, 1106, 0]), (234, .invokevirtual 211, [158, 10, 11, 1129, 0]), (237, .iinc 8 1, []), (240, .goto (-120), [8])]
def B149_10 : List mmI := [(243, .iload 7, []), (245, .ifCond .ne 17, [11]), (248, .aload_n 0, []), (249, .iload 4, []), (251, .iconst 5, []), (252, .iconst 0, []), (253, .iconst 0, []), (254, .iconst (-1), []), (255, .iconst 5, []), (256, .iconst 2, []), (257, .iconst 0, []), (258, .iconst (-1), []), (259, .invokevirtual 211, [158, 10, 11, 1129, 0]), (262, .nop, [11])]
def B149_11 : List mmI := [(262, .aload_n 0, []), (263, .iload 4, []), (265, .iload_n 1, []), (266, .invokevirtual 230, [161, 3, 11, 1141, 0]), (269, .iconst 1, []), (270, .ireturn, [1])]
def M149 : List (List mmI) := [B149_0, B149_1, B149_2, B149_3, B149_4, B149_5, B149_6, B149_7, B149_8, B149_9, B149_10, B149_11]
/- 150: BoundsPlannerModel.writeBounds(III)Z -/
def B150_0 : List mmI := [(0, .aload_n 0, []), (1, .getfield 33, [10, 14, 0, 863]), (4, .iload_n 1, []), (5, .iconst 0, []), (6, .iastore, []), (7, .iload_n 2, []), (8, .iconst 2, []), (9, .if_icmp .ne 10, [1]), (12, .aload_n 0, []), (13, .iload_n 1, []), (14, .iload_n 3, []), (15, .invokevirtual 223, [151, 3, 11, 1102, 0]), (18, .ireturn, [1])]
def B150_1 : List mmI := [(19, .aload_n 0, []), (20, .iload_n 3, []), (21, .invokevirtual 46, [114, 2, 11, 930, 0]), (24, .iconst 4, []), (25, .if_icmp .ne 5, [2]), (28, .iconst 0, []), (29, .ireturn, [1])]
def B150_2 : List mmI := [(30, .aload_n 0, []), (31, .iload_n 3, []), (32, .invokevirtual 46, [114, 2, 11, 930, 0]), (35, .invokestatic 197, [154, 1, 0, 1114, 0]), (38, .istore 4, []), (40, .iload_n 2, []), (41, .iconst 1, []), (42, .if_icmp .eq 20, [3]), (45, .iload 4, []), (47, .iconst 1, []), (48, .if_icmp .ne 23, [4]), (51, .iload_n 2, []), (52, .iconst 4, []), (53, .if_icmp .eq 9, [3]), (56, .iload_n 2, []), (57, .bipush 6, []), (59, .if_icmp .ne 12, [4]), (62, .nop, [3])]
def B150_3 : List mmI := [(62, .aload_n 0, []), (63, .iload_n 1, []), (64, .iload_n 3, []), (65, .invokevirtual 219, [157, 3, 11, 1125, 0]), (68, .goto 67, [9])]
def B150_4 : List mmI := [(71, .iload 4, []), (73, .iconst 1, []), (74, .if_icmp .le 61, [9]), (77, .iload_n 2, []), (78, .iconst 4, []), (79, .if_icmp .eq 9, [5]), (82, .iload_n 2, []), (83, .bipush 6, []), (85, .if_icmp .ne 7, [6]), (88, .nop, [5])]
def B150_5 : List mmI := [(88, .iconst 1, []), (89, .goto 4, [7])]
def B150_6 : List mmI := [(92, .iconst 0, []), (93, .nop, [7])]
def B150_7 : List mmI := [(93, .istore 5, []), (95, .iload_n 2, []), (96, .iconst 5, []), (97, .if_icmp .ge 22, [8]), (100, .aload_n 0, []), (101, .iload_n 1, []), (102, .iload 4, []), (104, .iconst 0, []), (105, .iconst 0, []), (106, .iconst (-1), []), (107, .iload 4, []), (109, .iconst 1, []), (110, .iload 5, []), (112, .iload_n 3, []), (113, .invokevirtual 211, [158, 10, 11, 1129, 0]), (116, .goto 19, [9])]
def B150_8 : List mmI := [(119, .aload_n 0, []), (120, .iload_n 1, []), (121, .iload 4, []), (123, .iconst 1, []), (124, .iload 5, []), (126, .iload_n 3, []), (127, .iload 4, []), (129, .iconst 2, []), (130, .iconst 0, []), (131, .iconst (-1), []), (132, .invokevirtual 211, [158, 10, 11, 1129, 0]), (135, .nop, [9])]
def B150_9 : List mmI := [(135, .iconst 1, []), (136, .ireturn, [1])]
def M150 : List (List mmI) := [B150_0, B150_1, B150_2, B150_3, B150_4, B150_5, B150_6, B150_7, B150_8, B150_9]
/- 151: BoundsPlannerModel.writeItems(II)Z -/
def B151_0 : List mmI := [(0, .aload_n 0, []), (1, .iload_n 2, []), (2, .invokevirtual 73, [123, 2, 11, 972, 0]), (5, .istore_n 3, []), (6, .iload_n 3, []), (7, .iconst 4, []), (8, .iadd, []), (9, .istore 4, []), (11, .nop, [1])]
def B151_1 : List mmI := [(11, .iload 4, []), (13, .aload_n 0, []), (14, .iload_n 3, []), (15, .invokevirtual 156, [128, 2, 11, 992, 0]), (18, .if_icmp .ge 26, [3]), (21, .aload_n 0, []), (22, .iload 4, []), (24, .invokevirtual 46, [114, 2, 11, 930, 0]), (27, .iconst 4, []), (28, .if_icmp .ne 5, [2]), (31, .iconst 0, []), (32, .ireturn, [1])]
def B151_2 : List mmI := [(33, .aload_n 0, []), (34, .iload 4, []), (36, .invokevirtual 94, [122, 2, 11, 968, 0]), (39, .istore 4, []), (41, .goto (-30), [1])]
def B151_3 : List mmI := [(44, .iload_n 3, []), (45, .iconst 4, []), (46, .iadd, []), (47, .istore 4, []), (49, .nop, [4])]
def B151_4 : List mmI := [(49, .iload 4, []), (51, .aload_n 0, []), (52, .iload_n 3, []), (53, .invokevirtual 156, [128, 2, 11, 992, 0]), (56, .if_icmp .ge 184, [11]), (59, .iconst 0, []), (60, .istore 5, []), (62, .nop, [5])]
def B151_5 : List mmI := [(62, .iload 5, []), (64, .aload_n 0, []), (65, .getfield 33, [10, 14, 0, 863]), (68, .iload_n 1, []), (69, .iaload, []), (70, .if_icmp .ge 26, [6]), (73, .aload_n 0, []), (74, .aload_n 0, []), (75, .iload_n 1, []), (76, .iload 5, []), (78, .iconst 3, []), (79, .invokevirtual 215, [152, 4, 11, 1106, 0]), (82, .iload 4, []), (84, .invokevirtual 208, [153, 3, 11, 1110, 0]), (87, .ifCond .ge 9, [6]), (90, .iinc 5 1, []), (93, .goto (-31), [5])]
def B151_6 : List mmI := [(96, .iload 5, []), (98, .aload_n 0, []), (99, .getfield 33, [10, 14, 0, 863]), (102, .iload_n 1, []), (103, .iaload, []), (104, .if_icmp .ge 23, [7]), (107, .aload_n 0, []), (108, .aload_n 0, []), (109, .iload_n 1, []), (110, .iload 5, []), (112, .iconst 3, []), (113, .invokevirtual 215, [152, 4, 11, 1106, 0]), (116, .iload 4, []), (118, .invokevirtual 208, [153, 3, 11, 1110, 0]), (121, .ifCond .ne 6, [7]), (124, .goto 105, [10])]
def B151_7 : List mmI := [(127, .aload_n 0, []), (128, .getfield 33, [10, 14, 0, 863]), (131, .iload_n 1, []), (132, .dup2, []), (133, .iaload, []), (134, .iconst 1, []), (135, .iadd, []), (136, .iastore, []), (137, .sipush 8000, []), (140, .iload_n 1, []), (141, .imul, []), (142, .bipush 8, []), (144, .aload_n 0, []), (145, .getfield 33, [10, 14, 0, 863]), (148, .iload_n 1, []), (149, .iaload, []), (150, .imul, []), (151, .iadd, []), (152, .iconst 1, []), (153, .isub, []), (154, .istore 6, []), (156, .nop, [8])]
def B151_8 : List mmI := [(156, .iload 6, []), (158, .sipush 8000, []), (161, .iload_n 1, []), (162, .imul, []), (163, .bipush 8, []), (165, .iload 5, []), (167, .imul, []), (168, .iadd, []), (169, .bipush 8, []), (171, .iadd, []), (172, .if_icmp .lt 26, [9]), (175, .aload_n 0, []), (176, .getfield 36, [10, 15, 0, 864]), (179, .iload 6, []), (181, .aload_n 0, []), (182, .getfield 36, [10, 15, 0, 864]), (185, .iload 6, []), (187, .bipush 8, []), (189, .isub, []), (190, .iaload, []), (191, .iastore, []), (192, .iinc 6 (-1), []), (195, .goto (-39), [8])]
def B151_9 : List mmI := [(198, .aload_n 0, []), (199, .getfield 33, [10, 14, 0, 863]), (202, .iload_n 1, []), (203, .iaload, []), (204, .istore 6, []), (206, .aload_n 0, []), (207, .getfield 33, [10, 14, 0, 863]), (210, .iload_n 1, []), (211, .iload 5, []), (213, .iastore, []), (214, .aload_n 0, []), (215, .iload_n 1, []), (216, .iload 4, []), (218, .invokevirtual 219, [157, 3, 11, 1125, 0]), (221, .aload_n 0, []), (222, .getfield 33, [10, 14, 0, 863]), (225, .iload_n 1, []), (226, .iload 6, []), (228, .iastore, []), (229, .nop, [10])]
def B151_10 : List mmI := [(229, .aload_n 0, []), (230, .iload 4, []), (232, .invokevirtual 94, [122, 2, 11, 968, 0]), (235, .istore 4, []), (237, .goto (-188), [4])]
def B151_11 : List mmI := [(240, .iconst 1, []), (241, .ireturn, [1])]
def M151 : List (List mmI) := [B151_0, B151_1, B151_2, B151_3, B151_4, B151_5, B151_6, B151_7, B151_8, B151_9, B151_10, B151_11]
/- 152: BoundsPlannerModel.field(III)I -/
def B152_0 : List mmI := [(0, .aload_n 0, []), (1, .getfield 36, [10, 15, 0, 864]), (4, .sipush 8000, []), (7, .iload_n 1, []), (8, .imul, []), (9, .bipush 8, []), (11, .iload_n 2, []), (12, .imul, []), (13, .iadd, []), (14, .iload_n 3, []), (15, .iadd, []), (16, .iaload, []), (17, .ireturn, [0])]
def M152 : List (List mmI) := [B152_0]
/- 153: BoundsPlannerModel.order(II)I -/
def B153_0 : List mmI := [(0, .aload_n 0, []), (1, .iload_n 1, []), (2, .invokevirtual 46, [114, 2, 11, 930, 0]), (5, .invokestatic 197, [154, 1, 0, 1114, 0]), (8, .istore_n 3, []), (9, .aload_n 0, []), (10, .iload_n 2, []), (11, .invokevirtual 46, [114, 2, 11, 930, 0]), (14, .invokestatic 197, [154, 1, 0, 1114, 0]), (17, .istore 4, []), (19, .aload_n 0, []), (20, .iload_n 1, []), (21, .invokevirtual 73, [123, 2, 11, 972, 0]), (24, .istore 5, []), (26, .aload_n 0, []), (27, .iload_n 2, []), (28, .invokevirtual 73, [123, 2, 11, 972, 0]), (31, .istore 6, []), (33, .iload_n 3, []), (34, .iload 4, []), (36, .if_icmp .eq 15, [3]), (39, .iload_n 3, []), (40, .iload 4, []), (42, .if_icmp .ge 7, [1]), (45, .iconst (-1), []), (46, .goto 4, [2])]
def B153_1 : List mmI := [(49, .iconst 1, []), (50, .nop, [2])]
def B153_2 : List mmI := [(50, .ireturn, [0])]
def B153_3 : List mmI := [(51, .iload_n 3, []), (52, .iconst 2, []), (53, .if_icmp .eq 9, [4]), (56, .iload_n 3, []), (57, .bipush 6, []), (59, .if_icmp .ne 55, [8]), (62, .nop, [4])]
def B153_4 : List mmI := [(62, .aload_n 0, []), (63, .aload_n 0, []), (64, .iload_n 1, []), (65, .invokevirtual 46, [114, 2, 11, 930, 0]), (68, .iload 5, []), (70, .invokevirtual 176, [138, 3, 11, 1048, 0]), (73, .lstore 7, []), (75, .aload_n 0, []), (76, .aload_n 0, []), (77, .iload_n 2, []), (78, .invokevirtual 46, [114, 2, 11, 930, 0]), (81, .iload 6, []), (83, .invokevirtual 176, [138, 3, 11, 1048, 0]), (86, .lstore 9, []), (88, .lload 7, []), (90, .lload 9, []), (92, .lcmp, []), (93, .ifCond .ge 7, [5]), (96, .iconst (-1), []), (97, .goto 16, [7])]
def B153_5 : List mmI := [(100, .lload 7, []), (102, .lload 9, []), (104, .lcmp, []), (105, .ifCond .le 7, [6]), (108, .iconst 1, []), (109, .goto 4, [7])]
def B153_6 : List mmI := [(112, .iconst 0, []), (113, .nop, [7])]
def B153_7 : List mmI := [(113, .ireturn, [0])]
def B153_8 : List mmI := [(114, .iload_n 3, []), (115, .iconst 3, []), (116, .if_icmp .ne 32, [9]), (119, .aload_n 0, []), (120, .iload 5, []), (122, .iconst 4, []), (123, .iadd, []), (124, .aload_n 0, []), (125, .iload 5, []), (127, .invokevirtual 67, [118, 2, 11, 950, 0]), (130, .iconst 1, []), (131, .isub, []), (132, .iload 6, []), (134, .iconst 4, []), (135, .iadd, []), (136, .aload_n 0, []), (137, .iload 6, []), (139, .invokevirtual 67, [118, 2, 11, 950, 0]), (142, .iconst 1, []), (143, .isub, []), (144, .invokevirtual 200, [155, 5, 11, 1117, 0]), (147, .ireturn, [0])]
def B153_9 : List mmI := [(148, .iload_n 3, []), (149, .iconst 4, []), (150, .if_icmp .eq 8, [10]), (153, .iload_n 3, []), (154, .iconst 5, []), (155, .if_icmp .ne 24, [13]), (158, .nop, [10])]
def B153_10 : List mmI := [(158, .aload_n 0, []), (159, .iload 5, []), (161, .iload 6, []), (163, .iload_n 3, []), (164, .iconst 4, []), (165, .if_icmp .ne 7, [11]), (168, .iconst 1, []), (169, .goto 4, [12])]
def B153_11 : List mmI := [(172, .iconst 0, []), (173, .nop, [12])]
def B153_12 : List mmI := [(173, .invokevirtual 204, [156, 4, 11, 1121, 0]), (176, .goto 4, [14])]
def B153_13 : List mmI := [(179, .iconst 0, []), (180, .nop, [14])]
def B153_14 : List mmI := [(180, .ireturn, [0])]
def M153 : List (List mmI) := [B153_0, B153_1, B153_2, B153_3, B153_4, B153_5, B153_6, B153_7, B153_8, B153_9, B153_10, B153_11, B153_12, B153_13, B153_14]
/- 154: BoundsPlannerModel.classOf(I)I -/
def B154_0 : List mmI := [(0, .iload_n 0, []), (1, .bipush 10, []), (3, .if_icmp .ne 7, [1]), (6, .iconst 1, []), (7, .goto 48, [7])]
def B154_1 : List mmI := [(10, .iload_n 0, []), (11, .bipush 16, []), (13, .if_icmp .eq 9, [2]), (16, .iload_n 0, []), (17, .bipush 18, []), (19, .if_icmp .ne 7, [3]), (22, .nop, [2])]
def B154_2 : List mmI := [(22, .iconst 2, []), (23, .goto 32, [7])]
def B154_3 : List mmI := [(26, .iload_n 0, []), (27, .iconst 2, []), (28, .if_icmp .ne 7, [4]), (31, .iconst 3, []), (32, .goto 23, [7])]
def B154_4 : List mmI := [(35, .iload_n 0, []), (36, .iconst 3, []), (37, .if_icmp .ne 7, [5]), (40, .iconst 4, []), (41, .goto 14, [7])]
def B154_5 : List mmI := [(44, .iload_n 0, []), (45, .iconst 4, []), (46, .if_icmp .ne 7, [6]), (49, .iconst 5, []), (50, .goto 5, [7])]
def B154_6 : List mmI := [(53, .bipush 6, []), (55, .nop, [7])]
def B154_7 : List mmI := [(55, .ireturn, [0])]
def M154 : List (List mmI) := [B154_0, B154_1, B154_2, B154_3, B154_4, B154_5, B154_6, B154_7]
/- 155: BoundsPlannerModel.bytes(IIII)I -/
def B155_0 : List mmI := [(0, .iconst 0, []), (1, .istore 5, []), (3, .nop, [1])]
def B155_1 : List mmI := [(3, .iload 5, []), (5, .iload_n 2, []), (6, .if_icmp .ge 60, [5]), (9, .iload 5, []), (11, .iload 4, []), (13, .if_icmp .ge 53, [5]), (16, .aload_n 0, []), (17, .iload_n 1, []), (18, .iload 5, []), (20, .iadd, []), (21, .invokevirtual 46, [114, 2, 11, 930, 0]), (24, .aload_n 0, []), (25, .iload_n 3, []), (26, .iload 5, []), (28, .iadd, []), (29, .invokevirtual 46, [114, 2, 11, 930, 0]), (32, .if_icmp .eq 28, [4]), (35, .aload_n 0, []), (36, .iload_n 1, []), (37, .iload 5, []), (39, .iadd, []), (40, .invokevirtual 46, [114, 2, 11, 930, 0]), (43, .aload_n 0, []), (44, .iload_n 3, []), (45, .iload 5, []), (47, .iadd, []), (48, .invokevirtual 46, [114, 2, 11, 930, 0]), (51, .if_icmp .ge 7, [2]), (54, .iconst (-1), []), (55, .goto 4, [3])]
def B155_2 : List mmI := [(58, .iconst 1, []), (59, .nop, [3])]
def B155_3 : List mmI := [(59, .ireturn, [0])]
def B155_4 : List mmI := [(60, .iinc 5 1, []), (63, .goto (-60), [1])]
def B155_5 : List mmI := [(66, .iload_n 2, []), (67, .iload 4, []), (69, .if_icmp .ge 7, [6]), (72, .iconst (-1), []), (73, .goto 14, [8])]
def B155_6 : List mmI := [(76, .iload_n 2, []), (77, .iload 4, []), (79, .if_icmp .le 7, [7]), (82, .iconst 1, []), (83, .goto 4, [8])]
def B155_7 : List mmI := [(86, .iconst 0, []), (87, .nop, [8])]
def B155_8 : List mmI := [(87, .ireturn, [0])]
def M155 : List (List mmI) := [B155_0, B155_1, B155_2, B155_3, B155_4, B155_5, B155_6, B155_7, B155_8]
/- 156: BoundsPlannerModel.boxes(IIZ)I -/
def B156_0 : List mmI := [(0, .iload_n 1, []), (1, .iconst 4, []), (2, .iadd, []), (3, .istore 4, []), (5, .iload_n 2, []), (6, .iconst 4, []), (7, .iadd, []), (8, .istore 5, []), (10, .nop, [1])]
def B156_1 : List mmI := [(10, .iload 4, []), (12, .aload_n 0, []), (13, .iload_n 1, []), (14, .invokevirtual 156, [128, 2, 11, 992, 0]), (17, .if_icmp .ge 147, [8]), (20, .iload 5, []), (22, .aload_n 0, []), (23, .iload_n 2, []), (24, .invokevirtual 156, [128, 2, 11, 992, 0]), (27, .if_icmp .ge 137, [8]), (30, .aload_n 0, []), (31, .iload 4, []), (33, .invokevirtual 46, [114, 2, 11, 930, 0]), (36, .invokestatic 197, [154, 1, 0, 1114, 0]), (39, .istore 6, []), (41, .aload_n 0, []), (42, .iload 5, []), (44, .invokevirtual 46, [114, 2, 11, 930, 0]), (47, .invokestatic 197, [154, 1, 0, 1114, 0]), (50, .istore 7, []), (52, .iload 6, []), (54, .iload 7, []), (56, .if_icmp .ge 7, [2]), (59, .iconst (-1), []), (60, .goto 60, [5])]
def B156_2 : List mmI := [(63, .iload 6, []), (65, .iload 7, []), (67, .if_icmp .le 7, [3]), (70, .iconst 1, []), (71, .goto 49, [5])]
def B156_3 : List mmI := [(74, .iload_n 3, []), (75, .ifCond .eq 44, [4]), (78, .aload_n 0, []), (79, .iload 4, []), (81, .iconst 1, []), (82, .iadd, []), (83, .aload_n 0, []), (84, .iload 4, []), (86, .iconst 1, []), (87, .iadd, []), (88, .invokevirtual 70, [124, 2, 11, 976, 0]), (91, .iload 4, []), (93, .isub, []), (94, .iconst 1, []), (95, .isub, []), (96, .iload 5, []), (98, .iconst 1, []), (99, .iadd, []), (100, .aload_n 0, []), (101, .iload 5, []), (103, .iconst 1, []), (104, .iadd, []), (105, .invokevirtual 70, [124, 2, 11, 976, 0]), (108, .iload 5, []), (110, .isub, []), (111, .iconst 1, []), (112, .isub, []), (113, .invokevirtual 200, [155, 5, 11, 1117, 0]), (116, .goto 4, [5])]
def B156_4 : List mmI := [(119, .iconst 0, []), (120, .nop, [5])]
def B156_5 : List mmI := [(120, .istore 8, []), (122, .iload 8, []), (124, .ifCond .ne 13, [6]), (127, .aload_n 0, []), (128, .iload 4, []), (130, .iload 5, []), (132, .invokevirtual 208, [153, 3, 11, 1110, 0]), (135, .istore 8, []), (137, .nop, [6])]
def B156_6 : List mmI := [(137, .iload 8, []), (139, .ifCond .eq 6, [7]), (142, .iload 8, []), (144, .ireturn, [0])]
def B156_7 : List mmI := [(145, .aload_n 0, []), (146, .iload 4, []), (148, .invokevirtual 94, [122, 2, 11, 968, 0]), (151, .istore 4, []), (153, .aload_n 0, []), (154, .iload 5, []), (156, .invokevirtual 94, [122, 2, 11, 968, 0]), (159, .istore 5, []), (161, .goto (-151), [1])]
def B156_8 : List mmI := [(164, .iload 4, []), (166, .aload_n 0, []), (167, .iload_n 1, []), (168, .invokevirtual 156, [128, 2, 11, 992, 0]), (171, .if_icmp .ge 7, [9]), (174, .iconst 1, []), (175, .goto 18, [11])]
def B156_9 : List mmI := [(178, .iload 5, []), (180, .aload_n 0, []), (181, .iload_n 2, []), (182, .invokevirtual 156, [128, 2, 11, 992, 0]), (185, .if_icmp .ge 7, [10]), (188, .iconst (-1), []), (189, .goto 4, [11])]
def B156_10 : List mmI := [(192, .iconst 0, []), (193, .nop, [11])]
def B156_11 : List mmI := [(193, .ireturn, [0])]
def M156 : List (List mmI) := [B156_0, B156_1, B156_2, B156_3, B156_4, B156_5, B156_6, B156_7, B156_8, B156_9, B156_10, B156_11]
/- 157: BoundsPlannerModel.writeValue(II)V -/
def B157_0 : List mmI := [(0, .aload_n 0, []), (1, .iload_n 2, []), (2, .invokevirtual 46, [114, 2, 11, 930, 0]), (5, .invokestatic 197, [154, 1, 0, 1114, 0]), (8, .istore_n 3, []), (9, .aload_n 0, []), (10, .iload_n 1, []), (11, .iload_n 3, []), (12, .iconst 1, []), (13, .iconst 1, []), (14, .iload_n 2, []), (15, .iload_n 3, []), (16, .iconst 1, []), (17, .iconst 1, []), (18, .iload_n 2, []), (19, .invokevirtual 211, [158, 10, 11, 1129, 0]), (22, .return_, [])]
def M157 : List (List mmI) := [B157_0]
/- 158: BoundsPlannerModel.write(IIIIIIIII)V -/
def B158_0 : List mmI := [(0, .sipush 8000, []), (3, .iload_n 1, []), (4, .imul, []), (5, .bipush 8, []), (7, .aload_n 0, []), (8, .getfield 33, [10, 14, 0, 863]), (11, .iload_n 1, []), (12, .iaload, []), (13, .imul, []), (14, .iadd, []), (15, .istore 10, []), (17, .aload_n 0, []), (18, .getfield 36, [10, 15, 0, 864]), (21, .iload 10, []), (23, .iload_n 2, []), (24, .iastore, []), (25, .aload_n 0, []), (26, .getfield 36, [10, 15, 0, 864]), (29, .iload 10, []), (31, .iconst 1, []), (32, .iadd, []), (33, .iload_n 3, []), (34, .iastore, []), (35, .aload_n 0, []), (36, .getfield 36, [10, 15, 0, 864]), (39, .iload 10, []), (41, .iconst 2, []), (42, .iadd, []), (43, .iload 4, []), (45, .iastore, []), (46, .aload_n 0, []), (47, .getfield 36, [10, 15, 0, 864]), (50, .iload 10, []), (52, .iconst 3, []), (53, .iadd, []), (54, .iload 5, []), (56, .iastore, []), (57, .aload_n 0, []), (58, .getfield 36, [10, 15, 0, 864]), (61, .iload 10, []), (63, .iconst 4, []), (64, .iadd, []), (65, .iload 6, []), (67, .iastore, []), (68, .aload_n 0, []), (69, .getfield 36, [10, 15, 0, 864]), (72, .iload 10, []), (74, .iconst 5, []), (75, .iadd, []), (76, .iload 7, []), (78, .iastore, []), (79, .aload_n 0, []), (80, .getfield 36, [10, 15, 0, 864]), (83, .iload 10, []), (85, .bipush 6, []), (87, .iadd, []), (88, .iload 8, []), (90, .iastore, []), (91, .aload_n 0, []), (92, .getfield 36, [10, 15, 0, 864]), (95, .iload 10, []), (97, .bipush 7, []), (99, .iadd, []), (100, .iload 9, []), (102, .iastore, []), (103, .aload_n 0, []), (104, .getfield 33, [10, 14, 0, 863]), (107, .iload_n 1, []), (108, .dup2, []), (109, .iaload, []), (110, .iconst 1, []), (111, .iadd, []), (112, .iastore, []), (113, .return_, [])]
def M158 : List (List mmI) := [B158_0]
/- 159: BoundsPlannerModel.meet(III)V -/
def B159_0 : List mmI := [(0, .aload_n 0, []), (1, .getfield 33, [10, 14, 0, 863]), (4, .iload_n 3, []), (5, .iconst 0, []), (6, .iastore, []), (7, .iconst 0, []), (8, .istore 4, []), (10, .nop, [1])]
def B159_1 : List mmI := [(10, .iload 4, []), (12, .aload_n 0, []), (13, .getfield 33, [10, 14, 0, 863]), (16, .iload_n 1, []), (17, .iaload, []), (18, .if_icmp .ge 442, [20]), (21, .iconst 0, []), (22, .istore 5, []), (24, .nop, [2])]
def B159_2 : List mmI := [(24, .iload 5, []), (26, .aload_n 0, []), (27, .getfield 33, [10, 14, 0, 863]), (30, .iload_n 2, []), (31, .iaload, []), (32, .if_icmp .ge 422, [19]), (35, .aload_n 0, []), (36, .aload_n 0, []), (37, .iload_n 1, []), (38, .iload 4, []), (40, .iconst 0, []), (41, .invokevirtual 215, [152, 4, 11, 1106, 0]), (44, .aload_n 0, []), (45, .iload_n 1, []), (46, .iload 4, []), (48, .iconst 1, []), (49, .invokevirtual 215, [152, 4, 11, 1106, 0]), (52, .aload_n 0, []), (53, .iload_n 1, []), (54, .iload 4, []), (56, .iconst 3, []), (57, .invokevirtual 215, [152, 4, 11, 1106, 0]), (60, .aload_n 0, []), (61, .iload_n 2, []), (62, .iload 5, []), (64, .iconst 0, []), (65, .invokevirtual 215, [152, 4, 11, 1106, 0]), (68, .aload_n 0, []), (69, .iload_n 2, []), (70, .iload 5, []), (72, .iconst 1, []), (73, .invokevirtual 215, [152, 4, 11, 1106, 0]), (76, .aload_n 0, []), (77, .iload_n 2, []), (78, .iload 5, []), (80, .iconst 3, []), (81, .invokevirtual 215, [152, 4, 11, 1106, 0]), (84, .invokevirtual 226, [160, 7, 11, 1137, 0]), (87, .istore 6, []), (89, .aload_n 0, []), (90, .aload_n 0, []), (91, .iload_n 1, []), (92, .iload 4, []), (94, .iconst 4, []), (95, .invokevirtual 215, [152, 4, 11, 1106, 0]), (98, .aload_n 0, []), (99, .iload_n 1, []), (100, .iload 4, []), (102, .iconst 5, []), (103, .invokevirtual 215, [152, 4, 11, 1106, 0]), (106, .aload_n 0, []), (107, .iload_n 1, []), (108, .iload 4, []), (110, .bipush 7, []), (112, .invokevirtual 215, [152, 4, 11, 1106, 0]), (115, .aload_n 0, []), (116, .iload_n 2, []), (117, .iload 5, []), (119, .iconst 4, []), (120, .invokevirtual 215, [152, 4, 11, 1106, 0]), (123, .aload_n 0, []), (124, .iload_n 2, []), (125, .iload 5, []), (127, .iconst 5, []), (128, .invokevirtual 215, [152, 4, 11, 1106, 0]), (131, .aload_n 0, []), (132, .iload_n 2, []), (133, .iload 5, []), (135, .bipush 7, []), (137, .invokevirtual 215, [152, 4, 11, 1106, 0]), (140, .invokevirtual 226, [160, 7, 11, 1137, 0]), (143, .istore 7, []), (145, .iload 6, []), (147, .ifCond .lt 27, [3]), (150, .iload 6, []), (152, .ifCond .ne 26, [4]), (155, .aload_n 0, []), (156, .iload_n 1, []), (157, .iload 4, []), (159, .iconst 2, []), (160, .invokevirtual 215, [152, 4, 11, 1106, 0]), (163, .aload_n 0, []), (164, .iload_n 2, []), (165, .iload 5, []), (167, .iconst 2, []), (168, .invokevirtual 215, [152, 4, 11, 1106, 0]), (171, .if_icmp .le 7, [4]), (174, .nop, [3])]
def B159_3 : List mmI := [(174, .iconst 1, []), (175, .goto 4, [5])]
def B159_4 : List mmI := [(178, .iconst 0, []), (179, .nop, [5])]
def B159_5 : List mmI := [(179, .istore 8, []), (181, .iload 7, []), (183, .ifCond .gt 29, [6]), (186, .iload 7, []), (188, .ifCond .ne 28, [7]), (191, .aload_n 0, []), (192, .iload_n 1, []), (193, .iload 4, []), (195, .bipush 6, []), (197, .invokevirtual 215, [152, 4, 11, 1106, 0]), (200, .aload_n 0, []), (201, .iload_n 2, []), (202, .iload 5, []), (204, .bipush 6, []), (206, .invokevirtual 215, [152, 4, 11, 1106, 0]), (209, .if_icmp .le 7, [7]), (212, .nop, [6])]
def B159_6 : List mmI := [(212, .iconst 1, []), (213, .goto 4, [8])]
def B159_7 : List mmI := [(216, .iconst 0, []), (217, .nop, [8])]
def B159_8 : List mmI := [(217, .istore 9, []), (219, .iload 8, []), (221, .ifCond .eq 7, [9]), (224, .iload_n 2, []), (225, .goto 4, [10])]
def B159_9 : List mmI := [(228, .iload_n 1, []), (229, .nop, [10])]
def B159_10 : List mmI := [(229, .istore 10, []), (231, .iload 8, []), (233, .ifCond .eq 8, [11]), (236, .iload 5, []), (238, .goto 5, [12])]
def B159_11 : List mmI := [(241, .iload 4, []), (243, .nop, [12])]
def B159_12 : List mmI := [(243, .istore 11, []), (245, .iload 9, []), (247, .ifCond .eq 7, [13]), (250, .iload_n 2, []), (251, .goto 4, [14])]
def B159_13 : List mmI := [(254, .iload_n 1, []), (255, .nop, [14])]
def B159_14 : List mmI := [(255, .istore 12, []), (257, .iload 9, []), (259, .ifCond .eq 8, [15]), (262, .iload 5, []), (264, .goto 5, [16])]
def B159_15 : List mmI := [(267, .iload 4, []), (269, .nop, [16])]
def B159_16 : List mmI := [(269, .istore 13, []), (271, .aload_n 0, []), (272, .aload_n 0, []), (273, .iload 10, []), (275, .iload 11, []), (277, .iconst 0, []), (278, .invokevirtual 215, [152, 4, 11, 1106, 0]), (281, .aload_n 0, []), (282, .iload 10, []), (284, .iload 11, []), (286, .iconst 1, []), (287, .invokevirtual 215, [152, 4, 11, 1106, 0]), (290, .aload_n 0, []), (291, .iload 10, []), (293, .iload 11, []), (295, .iconst 3, []), (296, .invokevirtual 215, [152, 4, 11, 1106, 0]), (299, .aload_n 0, []), (300, .iload 12, []), (302, .iload 13, []), (304, .iconst 4, []), (305, .invokevirtual 215, [152, 4, 11, 1106, 0]), (308, .aload_n 0, []), (309, .iload 12, []), (311, .iload 13, []), (313, .iconst 5, []), (314, .invokevirtual 215, [152, 4, 11, 1106, 0]), (317, .aload_n 0, []), (318, .iload 12, []), (320, .iload 13, []), (322, .bipush 7, []), (324, .invokevirtual 215, [152, 4, 11, 1106, 0]), (327, .invokevirtual 226, [160, 7, 11, 1137, 0]), (330, .istore 14, []), (332, .iload 14, []), (334, .ifCond .lt 35, [17]), (337, .iload 14, []), (339, .ifCond .ne 109, [18]), (342, .aload_n 0, []), (343, .iload 10, []), (345, .iload 11, []), (347, .iconst 2, []), (348, .invokevirtual 215, [152, 4, 11, 1106, 0]), (351, .iconst 1, []), (352, .if_icmp .ne 96, [18]), (355, .aload_n 0, []), (356, .iload 12, []), (358, .iload 13, []), (360, .bipush 6, []), (362, .invokevirtual 215, [152, 4, 11, 1106, 0]), (365, .iconst 1, []), (366, .if_icmp .ne 82, [18]), (369, .nop, [17])]
def B159_17 : List mmI := [(369, .aload_n 0, []), (370, .iload_n 3, []), (371, .aload_n 0, []), (372, .iload 10, []), (374, .iload 11, []), (376, .iconst 0, []), (377, .invokevirtual 215, [152, 4, 11, 1106, 0]), (380, .aload_n 0, []), (381, .iload 10, []), (383, .iload 11, []), (385, .iconst 1, []), (386, .invokevirtual 215, [152, 4, 11, 1106, 0]), (389, .aload_n 0, []), (390, .iload 10, []), (392, .iload 11, []), (394, .iconst 2, []), (395, .invokevirtual 215, [152, 4, 11, 1106, 0]), (398, .aload_n 0, []), (399, .iload 10, []), (401, .iload 11, []), (403, .iconst 3, []), (404, .invokevirtual 215, [152, 4, 11, 1106, 0]), (407, .aload_n 0, []), (408, .iload 12, []), (410, .iload 13, []), (412, .iconst 4, []), (413, .invokevirtual 215, [152, 4, 11, 1106, 0]), (416, .aload_n 0, []), (417, .iload 12, []), (419, .iload 13, []), (421, .iconst 5, []), (422, .invokevirtual 215, [152, 4, 11, 1106, 0]), (425, .aload_n 0, []), (426, .iload 12, []), (428, .iload 13, []), (430, .bipush 6, []), (432, .invokevirtual 215, [152, 4, 11, 1106, 0]), (435, .aload_n 0, []), (436, .iload 12, []), (438, .iload 13, []), (440, .bipush 7, []), (442, .invokevirtual 215, [152, 4, 11, 1106, 0]), (445, .invokevirtual 211, [158, 10, 11, 1129, 0]), (448, .nop, [18])]
def B159_18 : List mmI := [(448, .iinc 5 1, []), (451, .goto (-427), [2])]
def B159_19 : List mmI := [(454, .iinc 4 1, []), (457, .goto (-447), [1])]
def B159_20 : List mmI := [(460, .aload_n 0, []), (461, .iload_n 3, []), (462, .iload_n 1, []), (463, .invokevirtual 230, [161, 3, 11, 1141, 0]), (466, .return_, [])]
def M159 : List (List mmI) := [B159_0, B159_1, B159_2, B159_3, B159_4, B159_5, B159_6, B159_7, B159_8, B159_9, B159_10, B159_11, B159_12, B159_13, B159_14, B159_15, B159_16, B159_17, B159_18, B159_19, B159_20]
/- 160: BoundsPlannerModel.standing(IIIIII)I -/
def B160_0 : List mmI := [(0, .iload_n 1, []), (1, .iload 4, []), (3, .if_icmp .eq 15, [3]), (6, .iload_n 1, []), (7, .iload 4, []), (9, .if_icmp .ge 7, [1]), (12, .iconst (-1), []), (13, .goto 4, [2])]
def B160_1 : List mmI := [(16, .iconst 1, []), (17, .nop, [2])]
def B160_2 : List mmI := [(17, .ireturn, [0])]
def B160_3 : List mmI := [(18, .iload_n 2, []), (19, .iload 5, []), (21, .if_icmp .eq 15, [6]), (24, .iload_n 2, []), (25, .iload 5, []), (27, .if_icmp .ge 7, [4]), (30, .iconst (-1), []), (31, .goto 4, [5])]
def B160_4 : List mmI := [(34, .iconst 1, []), (35, .nop, [5])]
def B160_5 : List mmI := [(35, .ireturn, [0])]
def B160_6 : List mmI := [(36, .iload_n 2, []), (37, .iconst 1, []), (38, .if_icmp .ne 13, [7]), (41, .aload_n 0, []), (42, .iload_n 3, []), (43, .iload 6, []), (45, .invokevirtual 208, [153, 3, 11, 1110, 0]), (48, .goto 4, [8])]
def B160_7 : List mmI := [(51, .iconst 0, []), (52, .nop, [8])]
def B160_8 : List mmI := [(52, .ireturn, [0])]
def M160 : List (List mmI) := [B160_0, B160_1, B160_2, B160_3, B160_4, B160_5, B160_6, B160_7, B160_8]
/- 161: BoundsPlannerModel.copy(II)V -/
def B161_0 : List mmI := [(0, .aload_n 0, []), (1, .getfield 33, [10, 14, 0, 863]), (4, .iload_n 2, []), (5, .aload_n 0, []), (6, .getfield 33, [10, 14, 0, 863]), (9, .iload_n 1, []), (10, .iaload, []), (11, .iastore, []), (12, .iconst 0, []), (13, .istore_n 3, []), (14, .nop, [1])]
def B161_1 : List mmI := [(14, .iload_n 3, []), (15, .bipush 8, []), (17, .aload_n 0, []), (18, .getfield 33, [10, 14, 0, 863]), (21, .iload_n 1, []), (22, .iaload, []), (23, .imul, []), (24, .if_icmp .ge 33, [2]), (27, .aload_n 0, []), (28, .getfield 36, [10, 15, 0, 864]), (31, .sipush 8000, []), (34, .iload_n 2, []), (35, .imul, []), (36, .iload_n 3, []), (37, .iadd, []), (38, .aload_n 0, []), (39, .getfield 36, [10, 15, 0, 864]), (42, .sipush 8000, []), (45, .iload_n 1, []), (46, .imul, []), (47, .iload_n 3, []), (48, .iadd, []), (49, .iaload, []), (50, .iastore, []), (51, .iinc 3 1, []), (54, .goto (-40), [1])]
def B161_2 : List mmI := [(57, .return_, [])]
def M161 : List (List mmI) := [B161_0, B161_1, B161_2]
/- 162: BoundsPlannerModel.findAll()Z -/
def B162_0 : List mmI := [(0, .iconst 0, []), (1, .istore_n 1, []), (2, .iconst 0, []), (3, .istore_n 2, []), (4, .nop, [1])]
def B162_1 : List mmI := [(4, .iload_n 2, []), (5, .aload_n 0, []), (6, .getfield 250, [10, 11, 0, 860]), (9, .if_icmp .ge 62, [6]), (12, .iload_n 1, []), (13, .ifCond .eq 7, [2]), (16, .aload_n 0, []), (17, .invokevirtual 266, [163, 1, 11, 1149, 0]), (20, .nop, [2])]
def B162_2 : List mmI := [(20, .aload_n 0, []), (21, .iconst 0, []), (22, .iload_n 2, []), (23, .iconst 1, []), (24, .iconst 2, []), (25, .invokevirtual 263, [148, 5, 11, 1090, 0]), (28, .ifCond .ne 14, [3]), (31, .iload_n 1, []), (32, .ifCond .eq 33, [5]), (35, .aload_n 0, []), (36, .invokevirtual 269, [164, 1, 11, 1153, 0]), (39, .goto 26, [5])]
def B162_3 : List mmI := [(42, .iload_n 1, []), (43, .ifCond .eq 20, [4]), (46, .aload_n 0, []), (47, .iconst 0, []), (48, .iconst 1, []), (49, .invokevirtual 230, [161, 3, 11, 1141, 0]), (52, .aload_n 0, []), (53, .invokevirtual 269, [164, 1, 11, 1153, 0]), (56, .aload_n 0, []), (57, .iconst 0, []), (58, .iconst 1, []), (59, .iconst 2, []), (60, .invokevirtual 237, [159, 4, 11, 1133, 0]), (63, .nop, [4])]
def B162_4 : List mmI := [(63, .iconst 1, []), (64, .istore_n 1, []), (65, .nop, [5])]
def B162_5 : List mmI := [(65, .iinc 2 1, []), (68, .goto (-64), [1])]
def B162_6 : List mmI := [(71, .iload_n 1, []), (72, .ireturn, [1])]
def M162 : List (List mmI) := [B162_0, B162_1, B162_2, B162_3, B162_4, B162_5, B162_6]
/- 163: BoundsPlannerModel.save()V -/
def B163_0 : List mmI := [(0, .aload_n 0, []), (1, .aload_n 0, []), (2, .getfield 33, [10, 14, 0, 863]), (5, .iconst 0, []), (6, .iaload, []), (7, .putfield 272, [10, 16, 0, 865]), (10, .iconst 0, []), (11, .istore_n 1, []), (12, .nop, [1])]
def B163_1 : List mmI := [(12, .iload_n 1, []), (13, .bipush 8, []), (15, .aload_n 0, []), (16, .getfield 272, [10, 16, 0, 865]), (19, .imul, []), (20, .if_icmp .ge 21, [2]), (23, .aload_n 0, []), (24, .getfield 39, [10, 17, 0, 866]), (27, .iload_n 1, []), (28, .aload_n 0, []), (29, .getfield 36, [10, 15, 0, 864]), (32, .iload_n 1, []), (33, .iaload, []), (34, .iastore, []), (35, .iinc 1 1, []), (38, .goto (-26), [1])]
def B163_2 : List mmI := [(41, .return_, [])]
def M163 : List (List mmI) := [B163_0, B163_1, B163_2]
/- 164: BoundsPlannerModel.load()V -/
def B164_0 : List mmI := [(0, .aload_n 0, []), (1, .getfield 33, [10, 14, 0, 863]), (4, .iconst 0, []), (5, .aload_n 0, []), (6, .getfield 272, [10, 16, 0, 865]), (9, .iastore, []), (10, .iconst 0, []), (11, .istore_n 1, []), (12, .nop, [1])]
def B164_1 : List mmI := [(12, .iload_n 1, []), (13, .bipush 8, []), (15, .aload_n 0, []), (16, .getfield 272, [10, 16, 0, 865]), (19, .imul, []), (20, .if_icmp .ge 21, [2]), (23, .aload_n 0, []), (24, .getfield 36, [10, 15, 0, 864]), (27, .iload_n 1, []), (28, .aload_n 0, []), (29, .getfield 39, [10, 17, 0, 866]), (32, .iload_n 1, []), (33, .iaload, []), (34, .iastore, []), (35, .iinc 1 1, []), (38, .goto (-26), [1])]
def B164_2 : List mmI := [(41, .return_, [])]
def M164 : List (List mmI) := [B164_0, B164_1, B164_2]
/- 165: BoundsPlannerModel.end(IIIZI)I -/
def B165_0 : List mmI := [(0, .aload_n 0, []), (1, .iload_n 1, []), (2, .iload_n 2, []), (3, .invokevirtual 275, [142, 3, 11, 1066, 0]), (6, .ifCond .eq 37, [1]), (9, .iload 5, []), (11, .ifCond .lt 32, [1]), (14, .iload 5, []), (16, .iconst 3, []), (17, .if_icmp .gt 26, [1]), (20, .aload_n 0, []), (21, .iload_n 1, []), (22, .iload_n 2, []), (23, .invokevirtual 278, [143, 3, 11, 1070, 0]), (26, .ifCond .eq 17, [1]), (29, .iload_n 3, []), (30, .ifCond .lt 13, [1]), (33, .iload_n 3, []), (34, .aload_n 0, []), (35, .getfield 33, [10, 14, 0, 863]), (38, .iconst 0, []), (39, .iaload, []), (40, .if_icmp .lt 6, [2]), (43, .nop, [1])]
def B165_1 : List mmI := [(43, .bipush (-2), []), (45, .ireturn, [0])]
def B165_2 : List mmI := [(46, .aload_n 0, []), (47, .getfield 24, [10, 8, 0, 857]), (50, .iload_n 1, []), (51, .iaload, []), (52, .iload_n 2, []), (53, .ifCond .ne 7, [3]), (56, .iconst 1, []), (57, .goto 4, [4])]
def B165_3 : List mmI := [(60, .iconst 2, []), (61, .nop, [4])]
def B165_4 : List mmI := [(61, .iand, []), (62, .ifCond .le 7, [5]), (65, .iconst 1, []), (66, .goto 4, [6])]
def B165_5 : List mmI := [(69, .iconst 0, []), (70, .nop, [6])]
def B165_6 : List mmI := [(70, .istore 6, []), (72, .iload 6, []), (74, .ifCond .eq 16, [7]), (77, .aload_n 0, []), (78, .getfield 33, [10, 14, 0, 863]), (81, .iconst 0, []), (82, .iaload, []), (83, .iconst 1, []), (84, .isub, []), (85, .iload_n 3, []), (86, .isub, []), (87, .goto 4, [8])]
def B165_7 : List mmI := [(90, .iload_n 3, []), (91, .nop, [8])]
def B165_8 : List mmI := [(91, .istore 7, []), (93, .iload 4, []), (95, .ifCond .eq 7, [9]), (98, .iconst 4, []), (99, .goto 4, [10])]
def B165_9 : List mmI := [(102, .iconst 0, []), (103, .nop, [10])]
def B165_10 : List mmI := [(103, .istore 8, []), (105, .iload 5, []), (107, .iconst 1, []), (108, .if_icmp .ne 24, [13]), (111, .aload_n 0, []), (112, .iconst 0, []), (113, .iload 7, []), (115, .iload 8, []), (117, .iconst 1, []), (118, .iadd, []), (119, .invokevirtual 215, [152, 4, 11, 1106, 0]), (122, .iconst 1, []), (123, .if_icmp .ne 7, [11]), (126, .iconst 1, []), (127, .goto 4, [12])]
def B165_11 : List mmI := [(130, .iconst 0, []), (131, .nop, [12])]
def B165_12 : List mmI := [(131, .ireturn, [0])]
def B165_13 : List mmI := [(132, .iload 5, []), (134, .iconst 3, []), (135, .if_icmp .ne 36, [16]), (138, .aload_n 0, []), (139, .iconst 0, []), (140, .iload 7, []), (142, .iload 8, []), (144, .iconst 1, []), (145, .iadd, []), (146, .invokevirtual 215, [152, 4, 11, 1106, 0]), (149, .iconst 1, []), (150, .if_icmp .ne 19, [14]), (153, .aload_n 0, []), (154, .iconst 0, []), (155, .iload 7, []), (157, .iload 8, []), (159, .iconst 3, []), (160, .iadd, []), (161, .invokevirtual 215, [152, 4, 11, 1106, 0]), (164, .iconst 0, []), (165, .isub, []), (166, .goto 4, [15])]
def B165_14 : List mmI := [(169, .iconst (-1), []), (170, .nop, [15])]
def B165_15 : List mmI := [(170, .ireturn, [0])]
def B165_16 : List mmI := [(171, .aload_n 0, []), (172, .iconst 0, []), (173, .iload 7, []), (175, .iload 8, []), (177, .iload 5, []), (179, .iadd, []), (180, .invokevirtual 215, [152, 4, 11, 1106, 0]), (183, .ireturn, [0])]
def M165 : List (List mmI) := [B165_0, B165_1, B165_2, B165_3, B165_4, B165_5, B165_6, B165_7, B165_8, B165_9, B165_10, B165_11, B165_12, B165_13, B165_14, B165_15, B165_16]
/- 166: BoundsPlannerModel.inside(II)I -/
def B166_0 : List mmI := [(0, .aload_n 0, []), (1, .iload_n 1, []), (2, .iload_n 2, []), (3, .invokevirtual 275, [142, 3, 11, 1066, 0]), (6, .ifCond .eq 10, [1]), (9, .aload_n 0, []), (10, .getfield 190, [10, 4, 0, 853]), (13, .ifCond .ne 5, [2]), (16, .nop, [1])]
def B166_1 : List mmI := [(16, .iconst (-1), []), (17, .ireturn, [0])]
def B166_2 : List mmI := [(18, .aload_n 0, []), (19, .iload_n 1, []), (20, .iload_n 2, []), (21, .invokevirtual 278, [143, 3, 11, 1070, 0]), (24, .ifCond .ne 5, [3]), (27, .iconst 1, []), (28, .ireturn, [0])]
def B166_3 : List mmI := [(29, .sipush 2004, []), (32, .istore_n 3, []), (33, .aload_n 0, []), (34, .iload_n 3, []), (35, .invokevirtual 46, [114, 2, 11, 930, 0]), (38, .invokestatic 197, [154, 1, 0, 1114, 0]), (41, .istore 4, []), (43, .iconst 0, []), (44, .istore 5, []), (46, .nop, [4])]
def B166_4 : List mmI := [(46, .iload 5, []), (48, .aload_n 0, []), (49, .getfield 33, [10, 14, 0, 863]), (52, .iconst 0, []), (53, .iaload, []), (54, .if_icmp .ge 125, [8]), (57, .aload_n 0, []), (58, .aload_n 0, []), (59, .iconst 0, []), (60, .iload 5, []), (62, .iconst 0, []), (63, .invokevirtual 215, [152, 4, 11, 1106, 0]), (66, .aload_n 0, []), (67, .iconst 0, []), (68, .iload 5, []), (70, .iconst 1, []), (71, .invokevirtual 215, [152, 4, 11, 1106, 0]), (74, .aload_n 0, []), (75, .iconst 0, []), (76, .iload 5, []), (78, .iconst 3, []), (79, .invokevirtual 215, [152, 4, 11, 1106, 0]), (82, .iload 4, []), (84, .iconst 1, []), (85, .iload_n 3, []), (86, .invokevirtual 226, [160, 7, 11, 1137, 0]), (89, .istore 6, []), (91, .aload_n 0, []), (92, .aload_n 0, []), (93, .iconst 0, []), (94, .iload 5, []), (96, .iconst 4, []), (97, .invokevirtual 215, [152, 4, 11, 1106, 0]), (100, .aload_n 0, []), (101, .iconst 0, []), (102, .iload 5, []), (104, .iconst 5, []), (105, .invokevirtual 215, [152, 4, 11, 1106, 0]), (108, .aload_n 0, []), (109, .iconst 0, []), (110, .iload 5, []), (112, .bipush 7, []), (114, .invokevirtual 215, [152, 4, 11, 1106, 0]), (117, .iload 4, []), (119, .iconst 1, []), (120, .iload_n 3, []), (121, .invokevirtual 226, [160, 7, 11, 1137, 0]), (124, .istore 7, []), (126, .iload 6, []), (128, .ifCond .lt 20, [5]), (131, .iload 6, []), (133, .ifCond .ne 40, [7]), (136, .aload_n 0, []), (137, .iconst 0, []), (138, .iload 5, []), (140, .iconst 2, []), (141, .invokevirtual 215, [152, 4, 11, 1106, 0]), (144, .iconst 1, []), (145, .if_icmp .ne 28, [7]), (148, .nop, [5])]
def B166_5 : List mmI := [(148, .iload 7, []), (150, .ifCond .gt 21, [6]), (153, .iload 7, []), (155, .ifCond .ne 18, [7]), (158, .aload_n 0, []), (159, .iconst 0, []), (160, .iload 5, []), (162, .bipush 6, []), (164, .invokevirtual 215, [152, 4, 11, 1106, 0]), (167, .iconst 1, []), (168, .if_icmp .ne 5, [7]), (171, .nop, [6])]
def B166_6 : List mmI := [(171, .iconst 1, []), (172, .ireturn, [0])]
def B166_7 : List mmI := [(173, .iinc 5 1, []), (176, .goto (-130), [4])]
def B166_8 : List mmI := [(179, .iconst 0, []), (180, .ireturn, [0])]
def M166 : List (List mmI) := [B166_0, B166_1, B166_2, B166_3, B166_4, B166_5, B166_6, B166_7, B166_8]
/- 167: BoundsPlannerModel.rank(I)I -/
def B167_0 : List mmI := [(0, .aload_n 0, []), (1, .iload_n 1, []), (2, .iconst 0, []), (3, .invokevirtual 275, [142, 3, 11, 1066, 0]), (6, .ifCond .ne 5, [1]), (9, .iconst (-1), []), (10, .ireturn, [0])]
def B167_1 : List mmI := [(11, .aload_n 0, []), (12, .iload_n 1, []), (13, .iconst 0, []), (14, .invokevirtual 278, [143, 3, 11, 1070, 0]), (17, .ifCond .ne 5, [2]), (20, .iconst 0, []), (21, .ireturn, [0])]
def B167_2 : List mmI := [(22, .aload_n 0, []), (23, .invokevirtual 281, [168, 1, 11, 1169, 0]), (26, .ifCond .ne 5, [3]), (29, .iconst 1, []), (30, .ireturn, [0])]
def B167_3 : List mmI := [(31, .aload_n 0, []), (32, .getfield 21, [10, 7, 0, 856]), (35, .iload_n 1, []), (36, .iaload, []), (37, .ifCond .le 16, [4]), (40, .aload_n 0, []), (41, .iload_n 1, []), (42, .iconst 1, []), (43, .invokevirtual 278, [143, 3, 11, 1070, 0]), (46, .ifCond .eq 7, [4]), (49, .iconst 3, []), (50, .goto 4, [5])]
def B167_4 : List mmI := [(53, .iconst 2, []), (54, .nop, [5])]
def B167_5 : List mmI := [(54, .ireturn, [0])]
def M167 : List (List mmI) := [B167_0, B167_1, B167_2, B167_3, B167_4, B167_5]
/- 168: BoundsPlannerModel.isPoints()Z -/
def B168_0 : List mmI := [(0, .iconst 0, []), (1, .istore_n 1, []), (2, .nop, [1])]
def B168_1 : List mmI := [(2, .iload_n 1, []), (3, .aload_n 0, []), (4, .getfield 33, [10, 14, 0, 863]), (7, .iconst 0, []), (8, .iaload, []), (9, .if_icmp .ge 55, [4]), (12, .aload_n 0, []), (13, .iconst 0, []), (14, .iload_n 1, []), (15, .iconst 1, []), (16, .invokevirtual 215, [152, 4, 11, 1106, 0]), (19, .iconst 1, []), (20, .if_icmp .ne 36, [2]), (23, .aload_n 0, []), (24, .iconst 0, []), (25, .iload_n 1, []), (26, .iconst 5, []), (27, .invokevirtual 215, [152, 4, 11, 1106, 0]), (30, .iconst 1, []), (31, .if_icmp .ne 25, [2]), (34, .aload_n 0, []), (35, .aload_n 0, []), (36, .iconst 0, []), (37, .iload_n 1, []), (38, .iconst 3, []), (39, .invokevirtual 215, [152, 4, 11, 1106, 0]), (42, .aload_n 0, []), (43, .iconst 0, []), (44, .iload_n 1, []), (45, .bipush 7, []), (47, .invokevirtual 215, [152, 4, 11, 1106, 0]), (50, .invokevirtual 208, [153, 3, 11, 1110, 0]), (53, .ifCond .eq 5, [3]), (56, .nop, [2])]
def B168_2 : List mmI := [(56, .iconst 0, []), (57, .ireturn, [1])]
def B168_3 : List mmI := [(58, .iinc 1 1, []), (61, .goto (-59), [1])]
def B168_4 : List mmI := [(64, .iconst 1, []), (65, .ireturn, [1])]
def M168 : List (List mmI) := [B168_0, B168_1, B168_2, B168_3, B168_4]
/- 169: BoundsPlannerModel.ranges(I)I -/
def B169_0 : List mmI := [(0, .aload_n 0, []), (1, .iload_n 1, []), (2, .invokevirtual 284, [167, 2, 11, 1177, 0]), (5, .istore_n 2, []), (6, .iload_n 2, []), (7, .iconst 1, []), (8, .if_icmp .ge 13, [3]), (11, .iload_n 2, []), (12, .ifCond .ge 7, [1]), (15, .iconst (-1), []), (16, .goto 4, [2])]
def B169_1 : List mmI := [(19, .iconst 1, []), (20, .nop, [2])]
def B169_2 : List mmI := [(20, .ireturn, [0])]
def B169_3 : List mmI := [(21, .aload_n 0, []), (22, .iload_n 1, []), (23, .iconst 0, []), (24, .invokevirtual 287, [141, 3, 11, 1178, 0]), (27, .istore_n 3, []), (28, .iload_n 2, []), (29, .iconst 3, []), (30, .if_icmp .ne 14, [4]), (33, .iload_n 3, []), (34, .aload_n 0, []), (35, .iload_n 1, []), (36, .iconst 1, []), (37, .invokevirtual 287, [141, 3, 11, 1178, 0]), (40, .imul, []), (41, .goto 4, [5])]
def B169_4 : List mmI := [(44, .iload_n 3, []), (45, .nop, [5])]
def B169_5 : List mmI := [(45, .ireturn, [0])]
def M169 : List (List mmI) := [B169_0, B169_1, B169_2, B169_3, B169_4, B169_5]
/- 170: BoundsPlannerModel.choose()I -/
def B170_0 : List mmI := [(0, .aload_n 0, []), (1, .getfield 183, [10, 3, 0, 852]), (4, .ifCond .ne 6, [1]), (7, .bipush (-2), []), (9, .ireturn, [0])]
def B170_1 : List mmI := [(10, .iconst (-1), []), (11, .istore_n 1, []), (12, .iconst 0, []), (13, .istore_n 2, []), (14, .nop, [2])]
def B170_2 : List mmI := [(14, .iload_n 2, []), (15, .bipush 8, []), (17, .if_icmp .ge 69, [7]), (20, .aload_n 0, []), (21, .getfield 13, [10, 5, 0, 854]), (24, .iload_n 2, []), (25, .baload, []), (26, .ifCond .eq 11, [3]), (29, .aload_n 0, []), (30, .iload_n 2, []), (31, .invokevirtual 284, [167, 2, 11, 1177, 0]), (34, .goto 4, [4])]
def B170_3 : List mmI := [(37, .iconst 0, []), (38, .nop, [4])]
def B170_4 : List mmI := [(38, .istore_n 3, []), (39, .iload_n 3, []), (40, .ifCond .le 40, [6]), (43, .iload_n 1, []), (44, .ifCond .lt 34, [5]), (47, .iload_n 3, []), (48, .aload_n 0, []), (49, .iload_n 1, []), (50, .invokevirtual 284, [167, 2, 11, 1177, 0]), (53, .if_icmp .gt 25, [5]), (56, .iload_n 3, []), (57, .aload_n 0, []), (58, .iload_n 1, []), (59, .invokevirtual 284, [167, 2, 11, 1177, 0]), (62, .if_icmp .ne 18, [6]), (65, .aload_n 0, []), (66, .iload_n 2, []), (67, .invokevirtual 290, [169, 2, 11, 1183, 0]), (70, .aload_n 0, []), (71, .iload_n 1, []), (72, .invokevirtual 290, [169, 2, 11, 1183, 0]), (75, .if_icmp .ge 5, [6]), (78, .nop, [5])]
def B170_5 : List mmI := [(78, .iload_n 2, []), (79, .istore_n 1, []), (80, .nop, [6])]
def B170_6 : List mmI := [(80, .iinc 2 1, []), (83, .goto (-69), [2])]
def B170_7 : List mmI := [(86, .iload_n 1, []), (87, .ireturn, [0])]
def M170 : List (List mmI) := [B170_0, B170_1, B170_2, B170_3, B170_4, B170_5, B170_6, B170_7]
/- 171: BoundsPlanner$Clause.<init>(LBoundsPlanner$Node;)V -/
def B171_0 : List mmI := [(0, .aload_n 0, []), (1, .invokespecial 1, [1003, 755]), (4, .aload_n 0, []), (5, .new 7, [3, 756]), (8, .dup, []), (9, .invokespecial 9, [22, 1, 0, 757, 0]), (12, .putfield 10, [8, 1, 3, 760]), (15, .aload_n 0, []), (16, .aload_n 1, []), (17, .putfield 16, [8, 0, 3, 758]), (20, .return_, [])]
def M171 : List (List mmI) := [B171_0]
/- 172: BoundsPlanner$Clause.add(Ljava/util/ArrayList;ZLjava/util/ArrayList;)V -/
def B172_0 : List mmI := [(0, .aload_n 0, []), (1, .getfield 20, [8, 2, 0, 762]), (4, .ifnonnull 14, [1]), (7, .aload_n 1, []), (8, .aload_n 0, []), (9, .getfield 10, [8, 1, 0, 760]), (12, .invokestatic 23, [87, 2, 0, 779, 0]), (15, .goto 12, [2])]
def B172_1 : List mmI := [(18, .aload_n 0, []), (19, .getfield 10, [8, 1, 0, 760]), (22, .aload_n 1, []), (23, .aload_n 3, []), (24, .invokestatic 29, [86, 3, 0, 780, 0]), (27, .nop, [2])]
def B172_2 : List mmI := [(27, .aload_n 0, []), (28, .getfield 20, [8, 2, 0, 762]), (31, .ifnull 14, [3]), (34, .iload_n 2, []), (35, .ifCond .eq 20, [4]), (38, .aload_n 0, []), (39, .getfield 33, [8, 3, 0, 764]), (42, .ifCond .ne 13, [4]), (45, .nop, [3])]
def B172_3 : List mmI := [(45, .aload_n 0, []), (46, .aload_n 1, []), (47, .putfield 20, [8, 2, 3, 762]), (50, .aload_n 0, []), (51, .iload_n 2, []), (52, .putfield 33, [8, 3, 1, 764]), (55, .nop, [4])]
def B172_4 : List mmI := [(55, .return_, [])]
def M172 : List (List mmI) := [B172_0, B172_1, B172_2, B172_3, B172_4]
/- 173: BoundsPlannerLaw.law([I)Z -/
def B173_0 : List mmI := [(0, .new 7, [0, 104]), (3, .dup, []), (4, .invokespecial 9, [0, 1, 0, 106, 0]), (7, .astore_n 1, []), (8, .new 10, [10, 844]), (11, .dup, []), (12, .invokespecial 12, [107, 1, 0, 846, 0]), (15, .astore_n 2, []), (16, .iconst 0, []), (17, .istore_n 3, []), (18, .nop, [1])]
def B173_1 : List mmI := [(18, .iload_n 3, []), (19, .aload_n 0, []), (20, .arraylength, []), (21, .bipush 6, []), (23, .isub, []), (24, .if_icmp .gt 463, [18]), (27, .aload_n 0, []), (28, .iload_n 3, []), (29, .iaload, []), (30, .bipush 15, []), (32, .iand, []), (33, .tableswitch 448 0 10 #[59, 122, 175, 198, 221, 244, 277, 356, 389, 412, 435], [17, 2, 3, 4, 5, 6, 7, 8, 13, 14, 15, 16])]
def B173_2 : List mmI := [(92, .aload_n 1, []), (93, .aload_n 0, []), (94, .iload_n 3, []), (95, .iconst 1, []), (96, .iadd, []), (97, .iaload, []), (98, .aload_n 0, []), (99, .iload_n 3, []), (100, .iconst 2, []), (101, .iadd, []), (102, .iaload, []), (103, .aload_n 0, []), (104, .iload_n 3, []), (105, .iconst 3, []), (106, .iadd, []), (107, .iaload, []), (108, .aload_n 0, []), (109, .iload_n 3, []), (110, .iconst 4, []), (111, .iadd, []), (112, .iaload, []), (113, .aload_n 0, []), (114, .iload_n 3, []), (115, .iconst 5, []), (116, .iadd, []), (117, .iaload, []), (118, .invokevirtual 13, [1, 6, 1, 131, 0]), (121, .aload_n 2, []), (122, .aload_n 0, []), (123, .iload_n 3, []), (124, .iconst 1, []), (125, .iadd, []), (126, .iaload, []), (127, .aload_n 0, []), (128, .iload_n 3, []), (129, .iconst 2, []), (130, .iadd, []), (131, .iaload, []), (132, .aload_n 0, []), (133, .iload_n 3, []), (134, .iconst 3, []), (135, .iadd, []), (136, .iaload, []), (137, .aload_n 0, []), (138, .iload_n 3, []), (139, .iconst 4, []), (140, .iadd, []), (141, .iaload, []), (142, .aload_n 0, []), (143, .iload_n 3, []), (144, .iconst 5, []), (145, .iadd, []), (146, .iaload, []), (147, .invokevirtual 17, [108, 6, 11, 906, 0]), (150, .if_icmp .eq 331, [17]), (153, .iconst 0, []), (154, .ireturn, [1])]
def B173_3 : List mmI := [(155, .aload_n 1, []), (156, .aload_n 0, []), (157, .iload_n 3, []), (158, .iconst 1, []), (159, .iadd, []), (160, .iaload, []), (161, .aload_n 0, []), (162, .iload_n 3, []), (163, .iconst 2, []), (164, .iadd, []), (165, .iaload, []), (166, .aload_n 0, []), (167, .iload_n 3, []), (168, .iconst 3, []), (169, .iadd, []), (170, .iaload, []), (171, .aload_n 0, []), (172, .iload_n 3, []), (173, .iconst 4, []), (174, .iadd, []), (175, .iaload, []), (176, .invokevirtual 18, [3, 5, 1, 139, 0]), (179, .aload_n 2, []), (180, .aload_n 0, []), (181, .iload_n 3, []), (182, .iconst 1, []), (183, .iadd, []), (184, .iaload, []), (185, .aload_n 0, []), (186, .iload_n 3, []), (187, .iconst 2, []), (188, .iadd, []), (189, .iaload, []), (190, .aload_n 0, []), (191, .iload_n 3, []), (192, .iconst 3, []), (193, .iadd, []), (194, .iaload, []), (195, .aload_n 0, []), (196, .iload_n 3, []), (197, .iconst 4, []), (198, .iadd, []), (199, .iaload, []), (200, .invokevirtual 22, [110, 5, 11, 914, 0]), (203, .if_icmp .eq 278, [17]), (206, .iconst 0, []), (207, .ireturn, [1])]
def B173_4 : List mmI := [(208, .aload_n 1, []), (209, .aload_n 0, []), (210, .iload_n 3, []), (211, .iconst 1, []), (212, .iadd, []), (213, .iaload, []), (214, .invokevirtual 23, [17, 2, 1, 217, 0]), (217, .aload_n 2, []), (218, .aload_n 0, []), (219, .iload_n 3, []), (220, .iconst 1, []), (221, .iadd, []), (222, .iaload, []), (223, .invokevirtual 27, [115, 2, 11, 938, 0]), (226, .if_icmp .eq 255, [17]), (229, .iconst 0, []), (230, .ireturn, [1])]
def B173_5 : List mmI := [(231, .aload_n 1, []), (232, .aload_n 0, []), (233, .iload_n 3, []), (234, .iconst 1, []), (235, .iadd, []), (236, .iaload, []), (237, .invokevirtual 28, [19, 2, 1, 225, 0]), (240, .aload_n 2, []), (241, .aload_n 0, []), (242, .iload_n 3, []), (243, .iconst 1, []), (244, .iadd, []), (245, .iaload, []), (246, .invokevirtual 32, [116, 2, 11, 942, 0]), (249, .if_icmp .eq 232, [17]), (252, .iconst 0, []), (253, .ireturn, [1])]
def B173_6 : List mmI := [(254, .aload_n 1, []), (255, .aload_n 0, []), (256, .iload_n 3, []), (257, .iconst 1, []), (258, .iadd, []), (259, .iaload, []), (260, .invokevirtual 33, [92, 2, 1, 781, 0]), (263, .aload_n 2, []), (264, .aload_n 0, []), (265, .iload_n 3, []), (266, .iconst 1, []), (267, .iadd, []), (268, .iaload, []), (269, .invokevirtual 36, [140, 2, 11, 1058, 0]), (272, .if_icmp .eq 209, [17]), (275, .iconst 0, []), (276, .ireturn, [1])]
def B173_7 : List mmI := [(277, .aload_n 1, []), (278, .aload_n 0, []), (279, .iload_n 3, []), (280, .iconst 1, []), (281, .iadd, []), (282, .iaload, []), (283, .aload_n 0, []), (284, .iload_n 3, []), (285, .iconst 2, []), (286, .iadd, []), (287, .iaload, []), (288, .invokevirtual 37, [93, 3, 1, 785, 0]), (291, .aload_n 2, []), (292, .aload_n 0, []), (293, .iload_n 3, []), (294, .iconst 1, []), (295, .iadd, []), (296, .iaload, []), (297, .aload_n 0, []), (298, .iload_n 3, []), (299, .iconst 2, []), (300, .iadd, []), (301, .iaload, []), (302, .invokevirtual 41, [141, 3, 11, 1062, 0]), (305, .if_icmp .eq 176, [17]), (308, .iconst 0, []), (309, .ireturn, [1])]
def B173_8 : List mmI := [(310, .aload_n 1, []), (311, .aload_n 0, []), (312, .iload_n 3, []), (313, .iconst 1, []), (314, .iadd, []), (315, .iaload, []), (316, .aload_n 0, []), (317, .iload_n 3, []), (318, .iconst 2, []), (319, .iadd, []), (320, .iaload, []), (321, .aload_n 0, []), (322, .iload_n 3, []), (323, .iconst 3, []), (324, .iadd, []), (325, .iaload, []), (326, .aload_n 0, []), (327, .iload_n 3, []), (328, .iconst 4, []), (329, .iadd, []), (330, .iaload, []), (331, .ifCond .eq 7, [9]), (334, .iconst 1, []), (335, .goto 4, [10])]
def B173_9 : List mmI := [(338, .iconst 0, []), (339, .nop, [10])]
def B173_10 : List mmI := [(339, .aload_n 0, []), (340, .iload_n 3, []), (341, .iconst 5, []), (342, .iadd, []), (343, .iaload, []), (344, .invokevirtual 42, [96, 6, 1, 798, 0]), (347, .aload_n 2, []), (348, .aload_n 0, []), (349, .iload_n 3, []), (350, .iconst 1, []), (351, .iadd, []), (352, .iaload, []), (353, .aload_n 0, []), (354, .iload_n 3, []), (355, .iconst 2, []), (356, .iadd, []), (357, .iaload, []), (358, .aload_n 0, []), (359, .iload_n 3, []), (360, .iconst 3, []), (361, .iadd, []), (362, .iaload, []), (363, .aload_n 0, []), (364, .iload_n 3, []), (365, .iconst 4, []), (366, .iadd, []), (367, .iaload, []), (368, .ifCond .eq 7, [11]), (371, .iconst 1, []), (372, .goto 4, [12])]
def B173_11 : List mmI := [(375, .iconst 0, []), (376, .nop, [12])]
def B173_12 : List mmI := [(376, .aload_n 0, []), (377, .iload_n 3, []), (378, .iconst 5, []), (379, .iadd, []), (380, .iaload, []), (381, .invokevirtual 46, [165, 6, 11, 1157, 0]), (384, .if_icmp .eq 97, [17]), (387, .iconst 0, []), (388, .ireturn, [1])]
def B173_13 : List mmI := [(389, .aload_n 1, []), (390, .aload_n 0, []), (391, .iload_n 3, []), (392, .iconst 1, []), (393, .iadd, []), (394, .iaload, []), (395, .aload_n 0, []), (396, .iload_n 3, []), (397, .iconst 2, []), (398, .iadd, []), (399, .iaload, []), (400, .invokevirtual 47, [97, 3, 1, 804, 0]), (403, .aload_n 2, []), (404, .aload_n 0, []), (405, .iload_n 3, []), (406, .iconst 1, []), (407, .iadd, []), (408, .iaload, []), (409, .aload_n 0, []), (410, .iload_n 3, []), (411, .iconst 2, []), (412, .iadd, []), (413, .iaload, []), (414, .invokevirtual 50, [166, 3, 11, 1161, 0]), (417, .if_icmp .eq 64, [17]), (420, .iconst 0, []), (421, .ireturn, [1])]
def B173_14 : List mmI := [(422, .aload_n 1, []), (423, .aload_n 0, []), (424, .iload_n 3, []), (425, .iconst 1, []), (426, .iadd, []), (427, .iaload, []), (428, .invokevirtual 51, [100, 2, 1, 816, 0]), (431, .aload_n 2, []), (432, .aload_n 0, []), (433, .iload_n 3, []), (434, .iconst 1, []), (435, .iadd, []), (436, .iaload, []), (437, .invokevirtual 54, [167, 2, 11, 1165, 0]), (440, .if_icmp .eq 41, [17]), (443, .iconst 0, []), (444, .ireturn, [1])]
def B173_15 : List mmI := [(445, .aload_n 1, []), (446, .aload_n 0, []), (447, .iload_n 3, []), (448, .iconst 1, []), (449, .iadd, []), (450, .iaload, []), (451, .invokevirtual 55, [104, 2, 1, 831, 0]), (454, .aload_n 2, []), (455, .aload_n 0, []), (456, .iload_n 3, []), (457, .iconst 1, []), (458, .iadd, []), (459, .iaload, []), (460, .invokevirtual 58, [169, 2, 11, 1173, 0]), (463, .if_icmp .eq 18, [17]), (466, .iconst 0, []), (467, .ireturn, [1])]
def B173_16 : List mmI := [(468, .aload_n 1, []), (469, .invokevirtual 59, [106, 1, 1, 840, 0]), (472, .aload_n 2, []), (473, .invokevirtual 63, [170, 1, 11, 1179, 0]), (476, .if_icmp .eq 5, [17]), (479, .iconst 0, []), (480, .ireturn, [1])]
def B173_17 : List mmI := [(481, .iinc 3 6, []), (484, .goto (-466), [1])]
def B173_18 : List mmI := [(487, .iconst 1, []), (488, .ireturn, [1])]
def M173 : List (List mmI) := [B173_0, B173_1, B173_2, B173_3, B173_4, B173_5, B173_6, B173_7, B173_8, B173_9, B173_10, B173_11, B173_12, B173_13, B173_14, B173_15, B173_16, B173_17, B173_18]
def mm_tab : List (List (List mmI)) := [M0, M1, M2, M3, M4, M5, M6, M7, M8, M9, M10, M11, M12, M13, M14, M15, M16, M17, M18, M19, M20, M21, M22, M23, M24, M25, M26, M27, M28, M29, M30, M31, M32, M33, M34, M35, M36, M37, M38, M39, M40, M41, M42, M43, M44, M45, M46, M47, M48, M49, M50, M51, M52, M53, M54, M55, M56, M57, M58, M59, M60, M61, M62, M63, M64, M65, M66, M67, M68, M69, M70, M71, M72, M73, M74, M75, M76, M77, M78, M79, M80, M81, M82, M83, M84, M85, M86, M87, M88, M89, M90, M91, M92, M93, M94, M95, M96, M97, M98, M99, M100, M101, M102, M103, M104, M105, M106, M107, M108, M109, M110, M111, M112, M113, M114, M115, M116, M117, M118, M119, M120, M121, M122, M123, M124, M125, M126, M127, M128, M129, M130, M131, M132, M133, M134, M135, M136, M137, M138, M139, M140, M141, M142, M143, M144, M145, M146, M147, M148, M149, M150, M151, M152, M153, M154, M155, M156, M157, M158, M159, M160, M161, M162, M163, M164, M165, M166, M167, M168, M169, M170, M171, M172, M173]
def mm_blk (m b : Nat) : List mmI := (mm_tab.getD m []).getD b []
def mm_mls : List Nat := [1, 6, 3, 8, 3, 5, 2, 2, 1, 6, 8, 2, 8, 2, 9, 2, 4, 2, 3, 7, 2, 2, 1, 1, 1, 2, 5, 3, 5, 1, 1, 2, 1, 2, 2, 3, 1, 10, 6, 5, 2, 4, 1, 4, 4, 2, 2, 4, 4, 4, 5, 1, 6, 3, 1, 2, 2, 2, 1, 5, 4, 1, 2, 5, 5, 1, 2, 1, 5, 5, 5, 3, 6, 4, 5, 2, 1, 5, 2, 5, 4, 6, 3, 5, 4, 5, 6, 3, 4, 5, 2, 6, 3, 5, 2, 4, 10, 5, 3, 4, 2, 6, 2, 1, 2, 3, 7, 1, 6, 3, 7, 7, 5, 8, 2, 2, 3, 2, 2, 10, 8, 4, 2, 2, 3, 3, 5, 3, 2, 4, 2, 7, 2, 2, 5, 3, 7, 2, 3, 2, 3, 3, 3, 4, 7, 5, 3, 2, 5, 9, 6, 7, 4, 11, 1, 6, 9, 4, 11, 15, 7, 4, 3, 2, 2, 9, 8, 2, 2, 4, 4, 2, 4, 4]
def mm_maxL (m : Nat) : Nat := mm_mls.getD m 0
end
section
/-! PRINTED by wip/whole/tool/gen2.py: names of methods, classes, fields -/
def mm_infs : List (MethodName × ByteArray × Option FieldType) := [(⟨"BoundsPlanner", "<init>", "()V"⟩, prog_1_method_1_code, none),
  (⟨"BoundsPlanner", "feed", "(IIIII)I"⟩, prog_1_method_2_code, (some .int)),
  (⟨"BoundsPlanner", "putNumber", "(I)V"⟩, prog_1_method_13_code, none),
  (⟨"BoundsPlanner", "index", "(IIII)I"⟩, prog_1_method_3_code, (some .int)),
  (⟨"java/util/Arrays", "copyOfRange", "([BII)[B"⟩, prog_28_method_132_code, (some (.array .byte))),
  (⟨"java/util/Arrays", "copyOfRangeByte", "([BII)[B"⟩, prog_28_method_133_code, (some (.array .byte))),
  (⟨"java/util/Arrays", "checkLength", "(II)V"⟩, prog_28_method_131_code, none),
  (⟨"java/lang/Math", "min", "(II)I"⟩, prog_20_method_69_code, (some .int)),
  (⟨"BoundsPlanner$Path", "isRight", "([B)Z"⟩, prog_11_method_3_code, (some .boolean)),
  (⟨"BoundsPlanner$Bytes", "isRightUtf8", "([BII)Z"⟩, prog_3_method_7_code, (some .boolean)),
  (⟨"BoundsPlanner$Bytes", "lengthOfCharacter", "([BII)I"⟩, prog_3_method_8_code, (some .int)),
  (⟨"BoundsPlanner$Bytes", "at", "([BI)I"⟩, prog_3_method_2_code, (some .int)),
  (⟨"BoundsPlanner$Path", "hasRightSteps", "([BIIZ)Z"⟩, prog_11_method_4_code, (some .boolean)),
  (⟨"BoundsPlanner$Bytes", "areEqual", "([B[B)Z"⟩, prog_3_method_4_code, (some .boolean)),
  (⟨"BoundsPlanner$Bytes", "compare", "([BII[BII)I"⟩, prog_3_method_3_code, (some .int)),
  (⟨"java/lang/Integer", "compare", "(II)I"⟩, prog_17_method_40_code, (some .int)),
  (⟨"BoundsPlanner$Path", "<init>", "([BZZ)V"⟩, prog_11_method_1_code, none),
  (⟨"BoundsPlanner", "drop", "(I)Z"⟩, prog_1_method_4_code, (some .boolean)),
  (⟨"BoundsPlanner", "pathAt", "(II)LBoundsPlanner$Path;"⟩, prog_1_method_15_code, (some (.object "BoundsPlanner$Path"))),
  (⟨"BoundsPlanner", "filter", "(I)I"⟩, prog_1_method_5_code, (some .int)),
  (⟨"BoundsPlanner", "takeTape", "(I)[B"⟩, prog_1_method_14_code, (some (.array .byte))),
  (⟨"BoundsPlanner$Reader", "<init>", "([B)V"⟩, prog_12_method_1_code, none),
  (⟨"java/util/ArrayList", "<init>", "()V"⟩, prog_27_method_2_code, none),
  (⟨"java/util/AbstractList", "<init>", "()V"⟩, prog_26_method_1_code, none),
  (⟨"java/util/AbstractCollection", "<init>", "()V"⟩, prog_25_method_1_code, none),
  (⟨"BoundsPlanner$Reader", "readWhole", "()LBoundsPlanner$Node;"⟩, prog_12_method_2_code, (some (.object "BoundsPlanner$Node"))),
  (⟨"BoundsPlanner$Node", "<init>", "([BIII)V"⟩, prog_9_method_1_code, none),
  (⟨"BoundsPlanner$Node", "wordOf", "([BII)I"⟩, prog_9_method_2_code, (some .int)),
  (⟨"BoundsPlanner$Bytes", "isWord", "([BIILjava/lang/String;)Z"⟩, prog_3_method_5_code, (some .boolean)),
  (⟨"java/lang/String", "length", "()I"⟩, prog_21_method_54_code, (some .int)),
  (⟨"java/lang/String", "coder", "()B"⟩, prog_21_method_152_code, (some .byte)),
  (⟨"java/lang/String", "charAt", "(I)C"⟩, prog_21_method_56_code, (some .char)),
  (⟨"java/lang/String", "isLatin1", "()Z"⟩, prog_21_method_154_code, (some .boolean)),
  (⟨"java/lang/StringLatin1", "charAt", "([BI)C"⟩, prog_22_method_2_code, (some .char)),
  (⟨"java/lang/String", "checkIndex", "(II)V"⟩, prog_21_method_155_code, none),
  (⟨"jdk/internal/util/Preconditions", "checkIndex", "(IILjava/util/function/BiFunction;)I"⟩, prog_35_method_11_code, (some .int)),
  (⟨"BoundsPlanner$Node", "classOf", "(I)I"⟩, prog_9_method_4_code, (some .int)),
  (⟨"BoundsPlanner$Reader", "readParts", "(LBoundsPlanner$Node;II)V"⟩, prog_12_method_3_code, none),
  (⟨"BoundsPlanner$Reader", "readNumber", "(II)J"⟩, prog_12_method_7_code, (some .long)),
  (⟨"BoundsPlanner$Reader", "readPart", "(II)LBoundsPlanner$Node;"⟩, prog_12_method_4_code, (some (.object "BoundsPlanner$Node"))),
  (⟨"java/util/ArrayList", "add", "(Ljava/lang/Object;)Z"⟩, prog_27_method_25_code, (some .boolean)),
  (⟨"java/util/ArrayList", "add", "(Ljava/lang/Object;[Ljava/lang/Object;I)V"⟩, prog_27_method_24_code, none),
  (⟨"java/util/ArrayList", "grow", "()[Ljava/lang/Object;"⟩, prog_27_method_7_code, (some (.array (.object "java/lang/Object")))),
  (⟨"java/util/ArrayList", "grow", "(I)[Ljava/lang/Object;"⟩, prog_27_method_6_code, (some (.array (.object "java/lang/Object")))),
  (⟨"jdk/internal/util/ArraysSupport", "newLength", "(III)I"⟩, prog_34_method_27_code, (some .int)),
  (⟨"java/lang/Math", "max", "(II)I"⟩, prog_20_method_65_code, (some .int)),
  (⟨"java/util/Arrays", "copyOf", "([Ljava/lang/Object;I)[Ljava/lang/Object;"⟩, prog_28_method_119_code, (some (.array (.object "java/lang/Object")))),
  (⟨"java/util/Arrays", "copyOf", "([Ljava/lang/Object;ILjava/lang/Class;)[Ljava/lang/Object;"⟩, prog_28_method_120_code, (some (.array (.object "java/lang/Object")))),
  (⟨"BoundsPlanner$Reader", "readContent", "(LBoundsPlanner$Node;II)V"⟩, prog_12_method_5_code, none),
  (⟨"BoundsPlanner$Reader", "readText", "(LBoundsPlanner$Node;I)V"⟩, prog_12_method_6_code, none),
  (⟨"BoundsPlanner$Reader", "isNameDue", "(LBoundsPlanner$Node;LBoundsPlanner$Node;I)Z"⟩, prog_12_method_8_code, (some .boolean)),
  (⟨"BoundsPlanner$Node", "nameFrom", "()I"⟩, prog_9_method_3_code, (some .int)),
  (⟨"BoundsPlanner$Bytes", "isDecimal", "([BIII)Z"⟩, prog_3_method_6_code, (some .boolean)),
  (⟨"BoundsPlanner$Reader", "hasRightTexts", "()Z"⟩, prog_12_method_9_code, (some .boolean)),
  (⟨"java/util/ArrayList", "size", "()I"⟩, prog_27_method_8_code, (some .int)),
  (⟨"java/util/ArrayList", "get", "(I)Ljava/lang/Object;"⟩, prog_27_method_20_code, (some (.object "java/lang/Object"))),
  (⟨"java/util/Objects", "checkIndex", "(II)I"⟩, prog_31_method_17_code, (some .int)),
  (⟨"java/util/ArrayList", "elementData", "(I)Ljava/lang/Object;"⟩, prog_27_method_18_code, (some (.object "java/lang/Object"))),
  (⟨"BoundsPlanner$Checker", "<init>", "()V"⟩, prog_4_method_1_code, none),
  (⟨"BoundsPlanner$Checker", "faultOfFilter", "(LBoundsPlanner$Node;I)I"⟩, prog_4_method_2_code, (some .int)),
  (⟨"BoundsPlanner$Checker", "faultOfPath", "(LBoundsPlanner$Node;I)I"⟩, prog_4_method_4_code, (some .int)),
  (⟨"BoundsPlanner$Node", "isConditions", "()Z"⟩, prog_9_method_6_code, (some .boolean)),
  (⟨"BoundsPlanner$Checker", "faultOfCount", "(I)I"⟩, prog_4_method_8_code, (some .int)),
  (⟨"BoundsPlanner$Checker", "faultOfConditions", "(LBoundsPlanner$Node;I)I"⟩, prog_4_method_5_code, (some .int)),
  (⟨"BoundsPlanner$Checker", "faultOfCondition", "(LBoundsPlanner$Node;I)I"⟩, prog_4_method_6_code, (some .int)),
  (⟨"BoundsPlanner$Node", "joinsFilters", "()Z"⟩, prog_9_method_5_code, (some .boolean)),
  (⟨"BoundsPlanner$Checker", "hasRightValue", "(LBoundsPlanner$Node;)Z"⟩, prog_4_method_7_code, (some .boolean)),
  (⟨"BoundsPlanner$Node", "isConditionsOfItem", "()Z"⟩, prog_9_method_7_code, (some .boolean)),
  (⟨"BoundsPlanner$Checker", "faultOfJoin", "(LBoundsPlanner$Node;I)I"⟩, prog_4_method_3_code, (some .int)),
  (⟨"BoundsPlanner$Order", "number", "(Ljava/util/ArrayList;)V"⟩, prog_10_method_2_code, none),
  (⟨"BoundsPlanner$Order", "countNotGreater", "(Ljava/util/ArrayList;LBoundsPlanner$Node;)I"⟩, prog_10_method_3_code, (some .int)),
  (⟨"BoundsPlanner$Order", "compare", "(LBoundsPlanner$Node;LBoundsPlanner$Node;I)I"⟩, prog_10_method_4_code, (some .int)),
  (⟨"BoundsPlanner$Order", "compareParts", "(LBoundsPlanner$Node;LBoundsPlanner$Node;I)I"⟩, prog_10_method_5_code, (some .int)),
  (⟨"java/lang/Long", "compare", "(JJ)I"⟩, prog_19_method_42_code, (some .int)),
  (⟨"java/util/ArrayList", "add", "(ILjava/lang/Object;)V"⟩, prog_27_method_26_code, none),
  (⟨"java/util/ArrayList", "rangeCheckForAdd", "(I)V"⟩, prog_27_method_45_code, none),
  (⟨"BoundsPlanner$Filter", "<init>", "()V"⟩, prog_7_method_1_code, none),
  (⟨"BoundsPlanner$Filter", "gather", "(LBoundsPlanner$Node;I)V"⟩, prog_7_method_2_code, none),
  (⟨"BoundsPlanner$Bounds", "ofCondition", "(LBoundsPlanner$Node;I)Ljava/util/ArrayList;"⟩, prog_2_method_3_code, (some (.object "java/util/ArrayList"))),
  (⟨"BoundsPlanner$Bounds", "ofItems", "(LBoundsPlanner$Node;)Ljava/util/ArrayList;"⟩, prog_2_method_5_code, (some (.object "java/util/ArrayList"))),
  (⟨"BoundsPlanner$End", "<init>", "(LBoundsPlanner$Node;Z)V"⟩, prog_6_method_1_code, none),
  (⟨"BoundsPlanner$Filter", "addCondition", "(LBoundsPlanner$Node;LBoundsPlanner$Node;I)V"⟩, prog_7_method_3_code, none),
  (⟨"BoundsPlanner$Interval", "<init>", "(LBoundsPlanner$End;LBoundsPlanner$End;)V"⟩, prog_8_method_1_code, none),
  (⟨"BoundsPlanner$Bounds", "ofComparison", "(LBoundsPlanner$Node;I)Ljava/util/ArrayList;"⟩, prog_2_method_4_code, (some (.object "java/util/ArrayList"))),
  (⟨"BoundsPlanner$End", "<init>", "(IZ)V"⟩, prog_6_method_2_code, none),
  (⟨"BoundsPlanner$Bounds", "ofElem", "(LBoundsPlanner$Node;Ljava/util/ArrayList;)Ljava/util/ArrayList;"⟩, prog_2_method_2_code, (some (.object "java/util/ArrayList"))),
  (⟨"BoundsPlanner$Bounds", "meet", "(Ljava/util/ArrayList;Ljava/util/ArrayList;Ljava/util/ArrayList;)V"⟩, prog_2_method_7_code, none),
  (⟨"BoundsPlanner$Bounds", "copy", "(Ljava/util/ArrayList;Ljava/util/ArrayList;)V"⟩, prog_2_method_8_code, none),
  (⟨"java/util/ArrayList", "clear", "()V"⟩, prog_27_method_40_code, none),
  (⟨"BoundsPlanner$Interval", "meet", "(LBoundsPlanner$Interval;)LBoundsPlanner$Interval;"⟩, prog_8_method_2_code, (some (.object "BoundsPlanner$Interval"))),
  (⟨"BoundsPlanner$Bounds", "addRows", "(Ljava/util/ArrayList;)V"⟩, prog_2_method_6_code, none),
  (⟨"BoundsPlanner$Filter", "clauseOf", "([BII)LBoundsPlanner$Clause;"⟩, prog_7_method_4_code, (some (.object "BoundsPlanner$Clause"))),
  (⟨"BoundsPlanner", "value", "(I)I"⟩, prog_1_method_6_code, (some .int)),
  (⟨"BoundsPlanner", "many", "(II)I"⟩, prog_1_method_7_code, (some .int)),
  (⟨"BoundsPlanner$Path", "boundsBy", "(LBoundsPlanner$Filter;)Ljava/util/ArrayList;"⟩, prog_11_method_2_code, (some (.object "java/util/ArrayList"))),
  (⟨"BoundsPlanner$Filter", "boundsOf", "([BZ)Ljava/util/ArrayList;"⟩, prog_7_method_5_code, (some (.object "java/util/ArrayList"))),
  (⟨"BoundsPlanner", "end", "(IIIZI)I"⟩, prog_1_method_8_code, (some .int)),
  (⟨"BoundsPlanner", "inside", "(II)I"⟩, prog_1_method_9_code, (some .int)),
  (⟨"BoundsPlanner$Bounds", "hold", "(Ljava/util/ArrayList;LBoundsPlanner$Node;)Z"⟩, prog_2_method_10_code, (some .boolean)),
  (⟨"BoundsPlanner$Interval", "holds", "(LBoundsPlanner$Node;)Z"⟩, prog_8_method_4_code, (some .boolean)),
  (⟨"BoundsPlanner", "rank", "(I)I"⟩, prog_1_method_10_code, (some .int)),
  (⟨"BoundsPlanner", "rankOf", "(ILBoundsPlanner$Filter;)I"⟩, prog_1_method_16_code, (some .int)),
  (⟨"BoundsPlanner$Bounds", "arePoints", "(Ljava/util/ArrayList;)Z"⟩, prog_2_method_9_code, (some .boolean)),
  (⟨"BoundsPlanner$Interval", "isPoint", "()Z"⟩, prog_8_method_3_code, (some .boolean)),
  (⟨"BoundsPlanner", "ranges", "(I)I"⟩, prog_1_method_11_code, (some .int)),
  (⟨"BoundsPlanner", "rangesOf", "(II)I"⟩, prog_1_method_17_code, (some .int)),
  (⟨"BoundsPlanner", "choose", "()I"⟩, prog_1_method_12_code, (some .int)),
  (⟨"BoundsPlannerModel", "<init>", "()V"⟩, prog_14_method_1_code, none),
  (⟨"BoundsPlannerModel", "feed", "(IIIII)I"⟩, prog_14_method_6_code, (some .int)),
  (⟨"BoundsPlannerModel", "put", "(I)V"⟩, prog_14_method_5_code, none),
  (⟨"BoundsPlannerModel", "index", "(IIII)I"⟩, prog_14_method_20_code, (some .int)),
  (⟨"BoundsPlannerModel", "isPath", "(II)Z"⟩, prog_14_method_19_code, (some .boolean)),
  (⟨"BoundsPlannerModel", "isText", "(II)Z"⟩, prog_14_method_8_code, (some .boolean)),
  (⟨"BoundsPlannerModel", "character", "(II)I"⟩, prog_14_method_7_code, (some .int)),
  (⟨"BoundsPlannerModel", "at", "(I)I"⟩, prog_14_method_3_code, (some .int)),
  (⟨"BoundsPlannerModel", "drop", "(I)Z"⟩, prog_14_method_21_code, (some .boolean)),
  (⟨"BoundsPlannerModel", "filter", "(I)I"⟩, prog_14_method_33_code, (some .int)),
  (⟨"BoundsPlannerModel", "isDocument", "(I)Z"⟩, prog_14_method_18_code, (some .boolean)),
  (⟨"BoundsPlannerModel", "whole", "(I)I"⟩, prog_14_method_4_code, (some .int)),
  (⟨"BoundsPlannerModel", "isBox", "(IIIZ)Z"⟩, prog_14_method_15_code, (some .boolean)),
  (⟨"BoundsPlannerModel", "isName", "(IIIZI)Z"⟩, prog_14_method_16_code, (some .boolean)),
  (⟨"BoundsPlannerModel", "isAlike", "(II)Z"⟩, prog_14_method_14_code, (some .boolean)),
  (⟨"BoundsPlannerModel", "next", "(I)I"⟩, prog_14_method_12_code, (some .int)),
  (⟨"BoundsPlannerModel", "valueOf", "(I)I"⟩, prog_14_method_11_code, (some .int)),
  (⟨"BoundsPlannerModel", "nameEnd", "(I)I"⟩, prog_14_method_10_code, (some .int)),
  (⟨"BoundsPlannerModel", "behind", "(II)I"⟩, prog_14_method_9_code, (some .int)),
  (⟨"BoundsPlannerModel", "isValue", "(IIII)Z"⟩, prog_14_method_17_code, (some .boolean)),
  (⟨"BoundsPlannerModel", "lookFilter", "(I)V"⟩, prog_14_method_29_code, none),
  (⟨"BoundsPlannerModel", "last", "(I)I"⟩, prog_14_method_13_code, (some .int)),
  (⟨"BoundsPlannerModel", "lookJoin", "(I)V"⟩, prog_14_method_30_code, none),
  (⟨"BoundsPlannerModel", "isJoin", "(I)Z"⟩, prog_14_method_23_code, (some .boolean)),
  (⟨"BoundsPlannerModel", "isNamed", "(IJ)Z"⟩, prog_14_method_22_code, (some .boolean)),
  (⟨"BoundsPlannerModel", "fails", "(I)V"⟩, prog_14_method_27_code, none),
  (⟨"BoundsPlannerModel", "counts", "(I)V"⟩, prog_14_method_28_code, none),
  (⟨"BoundsPlannerModel", "lookPath", "(I)V"⟩, prog_14_method_31_code, none),
  (⟨"BoundsPlannerModel", "isConditions", "(I)Z"⟩, prog_14_method_25_code, (some .boolean)),
  (⟨"BoundsPlannerModel", "lookConditions", "(I)V"⟩, prog_14_method_32_code, none),
  (⟨"BoundsPlannerModel", "numberOf", "(I)I"⟩, prog_14_method_24_code, (some .int)),
  (⟨"BoundsPlannerModel", "longAt", "(II)J"⟩, prog_14_method_36_code, (some .long)),
  (⟨"BoundsPlannerModel", "isOfItems", "(I)Z"⟩, prog_14_method_26_code, (some .boolean)),
  (⟨"BoundsPlannerModel", "value", "(I)I"⟩, prog_14_method_34_code, (some .int)),
  (⟨"BoundsPlannerModel", "many", "(II)I"⟩, prog_14_method_59_code, (some .int)),
  (⟨"BoundsPlannerModel", "isPathOf", "(II)Z"⟩, prog_14_method_58_code, (some .boolean)),
  (⟨"BoundsPlannerModel", "find", "(II)Z"⟩, prog_14_method_53_code, (some .boolean)),
  (⟨"BoundsPlannerModel", "collect", "(III)V"⟩, prog_14_method_50_code, none),
  (⟨"BoundsPlannerModel", "isPathName", "(III)Z"⟩, prog_14_method_49_code, (some .boolean)),
  (⟨"BoundsPlannerModel", "add", "(II)V"⟩, prog_14_method_51_code, none),
  (⟨"BoundsPlannerModel", "findOne", "()Z"⟩, prog_14_method_54_code, (some .boolean)),
  (⟨"BoundsPlannerModel", "bounds", "(IIII)Z"⟩, prog_14_method_52_code, (some .boolean)),
  (⟨"BoundsPlannerModel", "writeElem", "(IIII)Z"⟩, prog_14_method_48_code, (some .boolean)),
  (⟨"BoundsPlannerModel", "writeBounds", "(III)Z"⟩, prog_14_method_45_code, (some .boolean)),
  (⟨"BoundsPlannerModel", "writeItems", "(II)Z"⟩, prog_14_method_44_code, (some .boolean)),
  (⟨"BoundsPlannerModel", "field", "(III)I"⟩, prog_14_method_40_code, (some .int)),
  (⟨"BoundsPlannerModel", "order", "(II)I"⟩, prog_14_method_38_code, (some .int)),
  (⟨"BoundsPlannerModel", "classOf", "(I)I"⟩, prog_14_method_35_code, (some .int)),
  (⟨"BoundsPlannerModel", "bytes", "(IIII)I"⟩, prog_14_method_37_code, (some .int)),
  (⟨"BoundsPlannerModel", "boxes", "(IIZ)I"⟩, prog_14_method_39_code, (some .int)),
  (⟨"BoundsPlannerModel", "writeValue", "(II)V"⟩, prog_14_method_42_code, none),
  (⟨"BoundsPlannerModel", "write", "(IIIIIIIII)V"⟩, prog_14_method_41_code, none),
  (⟨"BoundsPlannerModel", "meet", "(III)V"⟩, prog_14_method_46_code, none),
  (⟨"BoundsPlannerModel", "standing", "(IIIIII)I"⟩, prog_14_method_43_code, (some .int)),
  (⟨"BoundsPlannerModel", "copy", "(II)V"⟩, prog_14_method_47_code, none),
  (⟨"BoundsPlannerModel", "findAll", "()Z"⟩, prog_14_method_55_code, (some .boolean)),
  (⟨"BoundsPlannerModel", "save", "()V"⟩, prog_14_method_56_code, none),
  (⟨"BoundsPlannerModel", "load", "()V"⟩, prog_14_method_57_code, none),
  (⟨"BoundsPlannerModel", "end", "(IIIZI)I"⟩, prog_14_method_60_code, (some .int)),
  (⟨"BoundsPlannerModel", "inside", "(II)I"⟩, prog_14_method_61_code, (some .int)),
  (⟨"BoundsPlannerModel", "rank", "(I)I"⟩, prog_14_method_63_code, (some .int)),
  (⟨"BoundsPlannerModel", "isPoints", "()Z"⟩, prog_14_method_62_code, (some .boolean)),
  (⟨"BoundsPlannerModel", "ranges", "(I)I"⟩, prog_14_method_64_code, (some .int)),
  (⟨"BoundsPlannerModel", "choose", "()I"⟩, prog_14_method_65_code, (some .int)),
  (⟨"BoundsPlanner$Clause", "<init>", "(LBoundsPlanner$Node;)V"⟩, prog_5_method_1_code, none),
  (⟨"BoundsPlanner$Clause", "add", "(Ljava/util/ArrayList;ZLjava/util/ArrayList;)V"⟩, prog_5_method_2_code, none),
  (⟨"BoundsPlannerLaw", "law", "([I)Z"⟩, code, some .boolean)]
def mm_inf (m : Nat) : MethodName × ByteArray × Option FieldType := mm_infs.getD m (⟨"", "", ""⟩, ⟨#[]⟩, none)
def mm_y (m : Nat) : MethodName := (mm_inf m).1
def mm_by (m : Nat) : ByteArray := (mm_inf m).2.1
def mm_re (m : Nat) : Option FieldType := (mm_inf m).2.2
def mm_own (m : Nat) : String := (mm_y m).cls
def mm_cps : List Nat := [108, 134, 138, 142, 145, 148, 151, 154, 167, 170, 173, 176, 183, 187, 190, 194, 198, 220, 224, 228, 234, 237, 243, 246, 249, 282, 287, 291, 296, 300, 304, 310, 314, 317, 320, 325, 361, 438, 442, 447, 451, 455, 459, 463, 466, 469, 476, 494, 503, 507, 511, 515, 518, 523, 527, 531, 534, 539, 545, 554, 558, 564, 568, 572, 576, 580, 583, 587, 594, 597, 605, 608, 613, 617, 621, 625, 631, 645, 658, 661, 668, 651, 702, 717, 721, 654, 724, 727, 731, 735, 740, 746, 784, 788, 792, 796, 801, 807, 810, 814, 819, 823, 826, 830, 834, 838, 843, 848, 909, 913, 917, 921, 925, 929, 933, 941, 945, 949, 953, 959, 963, 967, 971, 975, 979, 983, 987, 991, 995, 999, 1003, 1008, 1015, 1019, 1023, 1027, 1031, 1035, 1051, 1057, 1061, 1065, 1069, 1073, 1077, 1081, 1085, 1089, 1093, 1097, 1101, 1105, 1109, 1113, 1116, 1120, 1124, 1128, 1132, 1136, 1140, 1144, 1148, 1152, 1156, 1160, 1164, 1168, 1172, 1176, 1182, 754, 778]
def mF_0 : u_T := fun k => match k with
  | 0 => ("BoundsPlanner", "tape", "[B", true)
  | 1 => ("BoundsPlanner", "paths", "[LBoundsPlanner$Path;", true)
  | 2 => ("BoundsPlanner", "taped", "I", false)
  | 3 => ("BoundsPlanner", "planned", "LBoundsPlanner$Filter;", false)
  | _ => ("BoundsPlanner", "held", "LBoundsPlanner$Node;", false)
def mt_0 : Nat → FieldType := fun k => match k with
  | 0 => (.array .byte)
  | 1 => (.array (.object "BoundsPlanner$Path"))
  | 2 => .int
  | 3 => (.object "BoundsPlanner$Filter")
  | _ => (.object "BoundsPlanner$Node")
def mF_1 : u_T := fun k => match k with
  | 0 => ("BoundsPlanner$Path", "down", "Z", true)
  | 1 => ("BoundsPlanner$Path", "name", "[B", true)
  | 2 => ("BoundsPlanner$Path", "manyKeyed", "Z", true)
  | 3 => ("BoundsPlanner$Path", "seen", "LBoundsPlanner$Filter;", false)
  | _ => ("BoundsPlanner$Path", "kept", "Ljava/util/ArrayList;", false)
def mt_1 : Nat → FieldType := fun k => match k with
  | 0 => .boolean
  | 1 => (.array .byte)
  | 2 => .boolean
  | 3 => (.object "BoundsPlanner$Filter")
  | _ => (.object "java/util/ArrayList")
def mF_2 : u_T := fun k => match k with
  | 0 => ("BoundsPlanner$Reader", "nodes", "Ljava/util/ArrayList;", true)
  | 1 => ("BoundsPlanner$Reader", "row", "[B", true)
  | 2 => ("BoundsPlanner$Reader", "at", "I", false)
  | _ => ("BoundsPlanner$Reader", "wrong", "Z", false)
def mt_2 : Nat → FieldType := fun k => match k with
  | 0 => (.object "java/util/ArrayList")
  | 1 => (.array .byte)
  | 2 => .int
  | _ => .boolean
def mF_3 : u_T := fun k => match k with
  | 0 => ("java/util/ArrayList", "elementData", "[Ljava/lang/Object;", false)
  | 1 => ("java/util/ArrayList", "size", "I", false)
  | _ => ("java/util/AbstractList", "modCount", "I", false)
def mt_3 : Nat → FieldType := fun k => match k with
  | 0 => (.array (.object "java/lang/Object"))
  | 1 => .int
  | _ => .int
def mF_4 : u_T := fun k => match k with
  | 0 => ("BoundsPlanner$Node", "row", "[B", true)
  | 1 => ("BoundsPlanner$Node", "kind", "I", true)
  | 2 => ("BoundsPlanner$Node", "place", "I", true)
  | 3 => ("BoundsPlanner$Node", "nameEnd", "I", true)
  | 4 => ("BoundsPlanner$Node", "word", "I", true)
  | 5 => ("BoundsPlanner$Node", "ofClass", "I", true)
  | 6 => ("BoundsPlanner$Node", "textFrom", "I", false)
  | 7 => ("BoundsPlanner$Node", "textTo", "I", false)
  | 8 => ("BoundsPlanner$Node", "number", "J", false)
  | 9 => ("BoundsPlanner$Node", "first", "LBoundsPlanner$Node;", false)
  | 10 => ("BoundsPlanner$Node", "next", "LBoundsPlanner$Node;", false)
  | _ => ("BoundsPlanner$Node", "order", "I", false)
def mt_4 : Nat → FieldType := fun k => match k with
  | 0 => (.array .byte)
  | 1 => .int
  | 2 => .int
  | 3 => .int
  | 4 => .int
  | 5 => .int
  | 6 => .int
  | 7 => .int
  | 8 => .long
  | 9 => (.object "BoundsPlanner$Node")
  | 10 => (.object "BoundsPlanner$Node")
  | _ => .int
def mF_5 : u_T := fun k => match k with
  | _ => ("BoundsPlanner$Checker", "counted", "I", false)
def mt_5 : Nat → FieldType := fun k => match k with
  | _ => .int
def mF_6 : u_T := fun k => match k with
  | 0 => ("BoundsPlanner$End", "ofClass", "I", true)
  | 1 => ("BoundsPlanner$End", "node", "LBoundsPlanner$Node;", true)
  | 2 => ("BoundsPlanner$End", "in", "Z", true)
  | 3 => ("BoundsPlanner$End", "asLow", "I", true)
  | _ => ("BoundsPlanner$End", "asHigh", "I", true)
def mt_6 : Nat → FieldType := fun k => match k with
  | 0 => .int
  | 1 => (.object "BoundsPlanner$Node")
  | 2 => .boolean
  | 3 => .int
  | _ => .int
def mF_7 : u_T := fun k => match k with
  | 0 => ("BoundsPlanner$Interval", "low", "LBoundsPlanner$End;", true)
  | _ => ("BoundsPlanner$Interval", "high", "LBoundsPlanner$End;", true)
def mt_7 : Nat → FieldType := fun k => match k with
  | 0 => (.object "BoundsPlanner$End")
  | _ => (.object "BoundsPlanner$End")
def mF_8 : u_T := fun k => match k with
  | 0 => ("BoundsPlanner$Clause", "element", "LBoundsPlanner$Node;", true)
  | 1 => ("BoundsPlanner$Clause", "all", "Ljava/util/ArrayList;", true)
  | 2 => ("BoundsPlanner$Clause", "one", "Ljava/util/ArrayList;", false)
  | _ => ("BoundsPlanner$Clause", "exact", "Z", false)
def mt_8 : Nat → FieldType := fun k => match k with
  | 0 => (.object "BoundsPlanner$Node")
  | 1 => (.object "java/util/ArrayList")
  | 2 => (.object "java/util/ArrayList")
  | _ => .boolean
def mF_9 : u_T := fun k => match k with
  | 0 => ("BoundsPlanner$Filter", "clauses", "Ljava/util/ArrayList;", true)
  | _ => ("BoundsPlanner$Filter", "spare", "Ljava/util/ArrayList;", true)
def mt_9 : Nat → FieldType := fun k => match k with
  | 0 => (.object "java/util/ArrayList")
  | _ => (.object "java/util/ArrayList")
def mF_10 : u_T := fun k => match k with
  | 0 => ("BoundsPlannerModel", "thrown", "I", false)
  | 1 => ("BoundsPlannerModel", "store", "[B", true)
  | 2 => ("BoundsPlannerModel", "taped", "I", false)
  | 3 => ("BoundsPlannerModel", "hasFilter", "Z", false)
  | 4 => ("BoundsPlannerModel", "hasValue", "Z", false)
  | 5 => ("BoundsPlannerModel", "there", "[Z", true)
  | 6 => ("BoundsPlannerModel", "firstSize", "[I", true)
  | 7 => ("BoundsPlannerModel", "secondSize", "[I", true)
  | 8 => ("BoundsPlannerModel", "hows", "[I", true)
  | 9 => ("BoundsPlannerModel", "counted", "I", false)
  | 10 => ("BoundsPlannerModel", "fault", "I", false)
  | 11 => ("BoundsPlannerModel", "conditions", "I", false)
  | 12 => ("BoundsPlannerModel", "number", "[I", true)
  | 13 => ("BoundsPlannerModel", "element", "[I", true)
  | 14 => ("BoundsPlannerModel", "counts", "[I", true)
  | 15 => ("BoundsPlannerModel", "sets", "[I", true)
  | 16 => ("BoundsPlannerModel", "saved", "I", false)
  | _ => ("BoundsPlannerModel", "waiting", "[I", true)
def mt_10 : Nat → FieldType := fun k => match k with
  | 0 => .int
  | 1 => (.array .byte)
  | 2 => .int
  | 3 => .boolean
  | 4 => .boolean
  | 5 => (.array .boolean)
  | 6 => (.array .int)
  | 7 => (.array .int)
  | 8 => (.array .int)
  | 9 => .int
  | 10 => .int
  | 11 => .int
  | 12 => (.array .int)
  | 13 => (.array .int)
  | 14 => (.array .int)
  | 15 => (.array .int)
  | 16 => .int
  | _ => (.array .int)
def mm_cls : List vw_C := [("BoundsPlanner", mF_0, 5), ("BoundsPlanner$Path", mF_1, 5), ("BoundsPlanner$Reader", mF_2, 4), ("java/util/ArrayList", mF_3, 3), ("BoundsPlanner$Node", mF_4, 12), ("BoundsPlanner$Checker", mF_5, 1), ("BoundsPlanner$End", mF_6, 5), ("BoundsPlanner$Interval", mF_7, 2), ("BoundsPlanner$Clause", mF_8, 4), ("BoundsPlanner$Filter", mF_9, 2), ("BoundsPlannerModel", mF_10, 18)]
def mm_fts : List (Nat → FieldType) := [mt_0, mt_1, mt_2, mt_3, mt_4, mt_5, mt_6, mt_7, mt_8, mt_9, mt_10]
/-- the kinds of arrays: byte, int, boolean, Object, Path -/
def mm_aty (t : Nat) : FieldType := match t with
  | 0 => .byte
  | 1 => .int
  | 2 => .boolean
  | 3 => .object "java/lang/Object"
  | _ => .object "BoundsPlanner$Path"
def mm_sts : List (String × Nat × String) := [("BoundsPlanner$Node", 43, "$and"), ("BoundsPlanner$Node", 49, "$or"), ("BoundsPlanner$Node", 51, "$nor"), ("BoundsPlanner$Node", 53, "$eq"), ("BoundsPlanner$Node", 55, "$ne"), ("BoundsPlanner$Node", 57, "$in"), ("BoundsPlanner$Node", 59, "$nin"), ("BoundsPlanner$Node", 61, "$lt"), ("BoundsPlanner$Node", 63, "$lte"), ("BoundsPlanner$Node", 65, "$gt"), ("BoundsPlanner$Node", 67, "$gte"), ("BoundsPlanner$Node", 69, "$exists"), ("BoundsPlanner$Node", 71, "$size"), ("BoundsPlanner$Node", 73, "$elem"), ("BoundsPlanner$Node", 75, "$not")]
def mm_iss : List Bool := [false, false, false, false, true, true, true, true, true, true, true, true, true, true, true, true, false, false, false, false, false, false, false, false, false, false, false, true, true, false, false, false, false, true, true, true, true, false, false, false, false, false, false, false, true, true, true, true, false, false, false, false, true, false, false, false, true, false, false, false, false, false, false, false, false, false, true, false, false, true, true, true, true, true, false, false, false, false, true, true, false, false, false, true, false, true, true, true, false, false, true, false, false, false, false, false, false, false, true, false, false, false, true, false, false, false, false, false, false, false, false, false, false, false, false, false, false, false, false, false, false, false, false, false, false, false, false, false, false, false, false, false, false, false, false, false, false, false, false, false, false, false, false, false, false, false, false, false, false, false, false, false, false, false, true, false, false, false, false, false, false, false, false, false, false, false, false, false, false, false, false, false, false]
def mm_ips : List Nat := [107, 132, 137, 140, 144, 147, 150, 153, 166, 169, 172, 175, 182, 186, 189, 193, 197, 218, 223, 226, 233, 236, 242, 245, 248, 280, 286, 290, 295, 298, 302, 308, 312, 316, 319, 324, 360, 437, 441, 446, 449, 454, 458, 462, 465, 468, 475, 493, 502, 506, 510, 513, 517, 522, 525, 529, 533, 537, 544, 553, 557, 562, 567, 571, 575, 578, 582, 585, 593, 596, 604, 607, 612, 616, 619, 624, 630, 644, 657, 660, 667, 650, 701, 716, 720, 653, 723, 726, 729, 733, 739, 745, 782, 786, 790, 794, 799, 805, 809, 812, 817, 822, 825, 828, 832, 837, 841, 847, 907, 912, 915, 920, 924, 928, 932, 939, 943, 948, 952, 958, 962, 966, 970, 974, 978, 982, 986, 990, 994, 998, 1002, 1007, 1014, 1018, 1022, 1026, 1030, 1034, 1050, 1056, 1059, 1063, 1068, 1072, 1076, 1080, 1084, 1088, 1092, 1096, 1100, 1104, 1108, 1112, 1115, 1119, 1123, 1127, 1131, 1135, 1139, 1143, 1147, 1151, 1155, 1158, 1162, 1166, 1171, 1174, 1180, 753, 776]
def mm_sps : List Nat := [0, 133, 0, 141, 0, 0, 0, 0, 0, 0, 0, 0, 0, 0, 0, 0, 0, 219, 1, 227, 2, 0, 0, 0, 0, 281, 0, 0, 0, 299, 303, 309, 313, 0, 0, 0, 0, 3, 4, 5, 450, 6, 7, 8, 0, 0, 0, 0, 9, 10, 11, 514, 0, 12, 526, 530, 0, 538, 0, 13, 14, 563, 15, 16, 17, 579, 0, 586, 18, 0, 0, 0, 0, 0, 620, 19, 0, 20, 0, 0, 0, 21, 0, 0, 0, 0, 0, 0, 730, 734, 0, 22, 783, 787, 791, 795, 800, 806, 0, 813, 818, 23, 0, 829, 833, 24, 842, 0, 908, 25, 916, 26, 27, 28, 29, 940, 944, 30, 31, 32, 33, 34, 35, 36, 37, 38, 39, 40, 41, 42, 43, 44, 45, 46, 47, 48, 49, 50, 51, 52, 1060, 1064, 53, 54, 55, 56, 57, 58, 59, 60, 61, 62, 63, 64, 0, 65, 66, 67, 68, 69, 70, 71, 72, 73, 74, 1159, 1163, 1167, 75, 1175, 1181, 0, 777]
def mm_nis : List Nat := [77, 77, 77, 77, 79, 79, 79, 80, 82, 83, 83, 83, 82, 83, 83, 84, 82, 77, 77, 77, 77, 85, 88, 87, 86, 85, 89, 89, 83, 90, 90, 90, 90, 91, 90, 92, 89, 85, 85, 85, 88, 88, 88, 88, 94, 80, 79, 79, 85, 85, 85, 89, 83, 85, 88, 88, 95, 88, 96, 96, 96, 89, 96, 96, 96, 89, 96, 89, 96, 97, 97, 97, 97, 98, 88, 88, 99, 99, 100, 100, 101, 99, 102, 100, 101, 100, 100, 100, 88, 102, 100, 99, 77, 77, 82, 99, 77, 77, 100, 102, 77, 77, 100, 102, 77, 77, 77, 78, 78, 78, 78, 78, 78, 78, 78, 78, 78, 78, 78, 78, 78, 78, 78, 78, 78, 78, 78, 78, 78, 78, 78, 78, 78, 78, 78, 78, 78, 78, 78, 78, 78, 78, 78, 78, 78, 78, 78, 78, 78, 78, 78, 78, 78, 78, 78, 78, 78, 78, 78, 78, 78, 78, 78, 78, 78, 78, 78, 78, 78, 78, 78, 103, 103]
def mm_cns : List (Nat × Nat) := [(105, 77), (195, 82), (230, 85), (240, 88), (284, 89), (542, 96), (665, 101), (699, 102), (751, 103), (628, 99), (845, 78)]
end
section
/-! PRINTED by wip/whole/tool/gen2.py: the code words stand in the tables -/
set_option maxRecDepth 100000 in
set_option maxHeartbeats 2000000 in
theorem mc_0 : lw_tbl[108]? = some (.code (mm_y 0) (mm_by 0) (mm_maxL 0) (mm_re 0)) := rfl
set_option maxRecDepth 100000 in
set_option maxHeartbeats 2000000 in
theorem mc_1 : lw_tbl[134]? = some (.code (mm_y 1) (mm_by 1) (mm_maxL 1) (mm_re 1)) := rfl
set_option maxRecDepth 100000 in
set_option maxHeartbeats 2000000 in
theorem mc_2 : lw_tbl[138]? = some (.code (mm_y 2) (mm_by 2) (mm_maxL 2) (mm_re 2)) := rfl
set_option maxRecDepth 100000 in
set_option maxHeartbeats 2000000 in
theorem mc_3 : lw_tbl[142]? = some (.code (mm_y 3) (mm_by 3) (mm_maxL 3) (mm_re 3)) := rfl
set_option maxRecDepth 100000 in
set_option maxHeartbeats 2000000 in
theorem mc_4 : lw_tbl[145]? = some (.code (mm_y 4) (mm_by 4) (mm_maxL 4) (mm_re 4)) := rfl
set_option maxRecDepth 100000 in
set_option maxHeartbeats 2000000 in
theorem mc_5 : lw_tbl[148]? = some (.code (mm_y 5) (mm_by 5) (mm_maxL 5) (mm_re 5)) := rfl
set_option maxRecDepth 100000 in
set_option maxHeartbeats 2000000 in
theorem mc_6 : lw_tbl[151]? = some (.code (mm_y 6) (mm_by 6) (mm_maxL 6) (mm_re 6)) := rfl
set_option maxRecDepth 100000 in
set_option maxHeartbeats 2000000 in
theorem mc_7 : lw_tbl[154]? = some (.code (mm_y 7) (mm_by 7) (mm_maxL 7) (mm_re 7)) := rfl
set_option maxRecDepth 100000 in
set_option maxHeartbeats 2000000 in
theorem mc_8 : lw_tbl[167]? = some (.code (mm_y 8) (mm_by 8) (mm_maxL 8) (mm_re 8)) := rfl
set_option maxRecDepth 100000 in
set_option maxHeartbeats 2000000 in
theorem mc_9 : lw_tbl[170]? = some (.code (mm_y 9) (mm_by 9) (mm_maxL 9) (mm_re 9)) := rfl
set_option maxRecDepth 100000 in
set_option maxHeartbeats 2000000 in
theorem mc_10 : lw_tbl[173]? = some (.code (mm_y 10) (mm_by 10) (mm_maxL 10) (mm_re 10)) := rfl
set_option maxRecDepth 100000 in
set_option maxHeartbeats 2000000 in
theorem mc_11 : lw_tbl[176]? = some (.code (mm_y 11) (mm_by 11) (mm_maxL 11) (mm_re 11)) := rfl
set_option maxRecDepth 100000 in
set_option maxHeartbeats 2000000 in
theorem mc_12 : lw_tbl[183]? = some (.code (mm_y 12) (mm_by 12) (mm_maxL 12) (mm_re 12)) := rfl
set_option maxRecDepth 100000 in
set_option maxHeartbeats 2000000 in
theorem mc_13 : lw_tbl[187]? = some (.code (mm_y 13) (mm_by 13) (mm_maxL 13) (mm_re 13)) := rfl
set_option maxRecDepth 100000 in
set_option maxHeartbeats 2000000 in
theorem mc_14 : lw_tbl[190]? = some (.code (mm_y 14) (mm_by 14) (mm_maxL 14) (mm_re 14)) := rfl
set_option maxRecDepth 100000 in
set_option maxHeartbeats 2000000 in
theorem mc_15 : lw_tbl[194]? = some (.code (mm_y 15) (mm_by 15) (mm_maxL 15) (mm_re 15)) := rfl
set_option maxRecDepth 100000 in
set_option maxHeartbeats 2000000 in
theorem mc_16 : lw_tbl[198]? = some (.code (mm_y 16) (mm_by 16) (mm_maxL 16) (mm_re 16)) := rfl
set_option maxRecDepth 100000 in
set_option maxHeartbeats 2000000 in
theorem mc_17 : lw_tbl[220]? = some (.code (mm_y 17) (mm_by 17) (mm_maxL 17) (mm_re 17)) := rfl
set_option maxRecDepth 100000 in
set_option maxHeartbeats 2000000 in
theorem mc_18 : lw_tbl[224]? = some (.code (mm_y 18) (mm_by 18) (mm_maxL 18) (mm_re 18)) := rfl
set_option maxRecDepth 100000 in
set_option maxHeartbeats 2000000 in
theorem mc_19 : lw_tbl[228]? = some (.code (mm_y 19) (mm_by 19) (mm_maxL 19) (mm_re 19)) := rfl
set_option maxRecDepth 100000 in
set_option maxHeartbeats 2000000 in
theorem mc_20 : lw_tbl[234]? = some (.code (mm_y 20) (mm_by 20) (mm_maxL 20) (mm_re 20)) := rfl
set_option maxRecDepth 100000 in
set_option maxHeartbeats 2000000 in
theorem mc_21 : lw_tbl[237]? = some (.code (mm_y 21) (mm_by 21) (mm_maxL 21) (mm_re 21)) := rfl
set_option maxRecDepth 100000 in
set_option maxHeartbeats 2000000 in
theorem mc_22 : lw_tbl[243]? = some (.code (mm_y 22) (mm_by 22) (mm_maxL 22) (mm_re 22)) := rfl
set_option maxRecDepth 100000 in
set_option maxHeartbeats 2000000 in
theorem mc_23 : lw_tbl[246]? = some (.code (mm_y 23) (mm_by 23) (mm_maxL 23) (mm_re 23)) := rfl
set_option maxRecDepth 100000 in
set_option maxHeartbeats 2000000 in
theorem mc_24 : lw_tbl[249]? = some (.code (mm_y 24) (mm_by 24) (mm_maxL 24) (mm_re 24)) := rfl
set_option maxRecDepth 100000 in
set_option maxHeartbeats 2000000 in
theorem mc_25 : lw_tbl[282]? = some (.code (mm_y 25) (mm_by 25) (mm_maxL 25) (mm_re 25)) := rfl
set_option maxRecDepth 100000 in
set_option maxHeartbeats 2000000 in
theorem mc_26 : lw_tbl[287]? = some (.code (mm_y 26) (mm_by 26) (mm_maxL 26) (mm_re 26)) := rfl
set_option maxRecDepth 100000 in
set_option maxHeartbeats 2000000 in
theorem mc_27 : lw_tbl[291]? = some (.code (mm_y 27) (mm_by 27) (mm_maxL 27) (mm_re 27)) := rfl
set_option maxRecDepth 100000 in
set_option maxHeartbeats 2000000 in
theorem mc_28 : lw_tbl[296]? = some (.code (mm_y 28) (mm_by 28) (mm_maxL 28) (mm_re 28)) := rfl
set_option maxRecDepth 100000 in
set_option maxHeartbeats 2000000 in
theorem mc_29 : lw_tbl[300]? = some (.code (mm_y 29) (mm_by 29) (mm_maxL 29) (mm_re 29)) := rfl
set_option maxRecDepth 100000 in
set_option maxHeartbeats 2000000 in
theorem mc_30 : lw_tbl[304]? = some (.code (mm_y 30) (mm_by 30) (mm_maxL 30) (mm_re 30)) := rfl
set_option maxRecDepth 100000 in
set_option maxHeartbeats 2000000 in
theorem mc_31 : lw_tbl[310]? = some (.code (mm_y 31) (mm_by 31) (mm_maxL 31) (mm_re 31)) := rfl
set_option maxRecDepth 100000 in
set_option maxHeartbeats 2000000 in
theorem mc_32 : lw_tbl[314]? = some (.code (mm_y 32) (mm_by 32) (mm_maxL 32) (mm_re 32)) := rfl
set_option maxRecDepth 100000 in
set_option maxHeartbeats 2000000 in
theorem mc_33 : lw_tbl[317]? = some (.code (mm_y 33) (mm_by 33) (mm_maxL 33) (mm_re 33)) := rfl
set_option maxRecDepth 100000 in
set_option maxHeartbeats 2000000 in
theorem mc_34 : lw_tbl[320]? = some (.code (mm_y 34) (mm_by 34) (mm_maxL 34) (mm_re 34)) := rfl
set_option maxRecDepth 100000 in
set_option maxHeartbeats 2000000 in
theorem mc_35 : lw_tbl[325]? = some (.code (mm_y 35) (mm_by 35) (mm_maxL 35) (mm_re 35)) := rfl
set_option maxRecDepth 100000 in
set_option maxHeartbeats 2000000 in
theorem mc_36 : lw_tbl[361]? = some (.code (mm_y 36) (mm_by 36) (mm_maxL 36) (mm_re 36)) := rfl
set_option maxRecDepth 100000 in
set_option maxHeartbeats 2000000 in
theorem mc_37 : lw_tbl[438]? = some (.code (mm_y 37) (mm_by 37) (mm_maxL 37) (mm_re 37)) := rfl
set_option maxRecDepth 100000 in
set_option maxHeartbeats 2000000 in
theorem mc_38 : lw_tbl[442]? = some (.code (mm_y 38) (mm_by 38) (mm_maxL 38) (mm_re 38)) := rfl
set_option maxRecDepth 100000 in
set_option maxHeartbeats 2000000 in
theorem mc_39 : lw_tbl[447]? = some (.code (mm_y 39) (mm_by 39) (mm_maxL 39) (mm_re 39)) := rfl
set_option maxRecDepth 100000 in
set_option maxHeartbeats 2000000 in
theorem mc_40 : lw_tbl[451]? = some (.code (mm_y 40) (mm_by 40) (mm_maxL 40) (mm_re 40)) := rfl
set_option maxRecDepth 100000 in
set_option maxHeartbeats 2000000 in
theorem mc_41 : lw_tbl[455]? = some (.code (mm_y 41) (mm_by 41) (mm_maxL 41) (mm_re 41)) := rfl
set_option maxRecDepth 100000 in
set_option maxHeartbeats 2000000 in
theorem mc_42 : lw_tbl[459]? = some (.code (mm_y 42) (mm_by 42) (mm_maxL 42) (mm_re 42)) := rfl
set_option maxRecDepth 100000 in
set_option maxHeartbeats 2000000 in
theorem mc_43 : lw_tbl[463]? = some (.code (mm_y 43) (mm_by 43) (mm_maxL 43) (mm_re 43)) := rfl
set_option maxRecDepth 100000 in
set_option maxHeartbeats 2000000 in
theorem mc_44 : lw_tbl[466]? = some (.code (mm_y 44) (mm_by 44) (mm_maxL 44) (mm_re 44)) := rfl
set_option maxRecDepth 100000 in
set_option maxHeartbeats 2000000 in
theorem mc_45 : lw_tbl[469]? = some (.code (mm_y 45) (mm_by 45) (mm_maxL 45) (mm_re 45)) := rfl
set_option maxRecDepth 100000 in
set_option maxHeartbeats 2000000 in
theorem mc_46 : lw_tbl[476]? = some (.code (mm_y 46) (mm_by 46) (mm_maxL 46) (mm_re 46)) := rfl
set_option maxRecDepth 100000 in
set_option maxHeartbeats 2000000 in
theorem mc_47 : lw_tbl[494]? = some (.code (mm_y 47) (mm_by 47) (mm_maxL 47) (mm_re 47)) := rfl
set_option maxRecDepth 100000 in
set_option maxHeartbeats 2000000 in
theorem mc_48 : lw_tbl[503]? = some (.code (mm_y 48) (mm_by 48) (mm_maxL 48) (mm_re 48)) := rfl
set_option maxRecDepth 100000 in
set_option maxHeartbeats 2000000 in
theorem mc_49 : lw_tbl[507]? = some (.code (mm_y 49) (mm_by 49) (mm_maxL 49) (mm_re 49)) := rfl
set_option maxRecDepth 100000 in
set_option maxHeartbeats 2000000 in
theorem mc_50 : lw_tbl[511]? = some (.code (mm_y 50) (mm_by 50) (mm_maxL 50) (mm_re 50)) := rfl
set_option maxRecDepth 100000 in
set_option maxHeartbeats 2000000 in
theorem mc_51 : lw_tbl[515]? = some (.code (mm_y 51) (mm_by 51) (mm_maxL 51) (mm_re 51)) := rfl
set_option maxRecDepth 100000 in
set_option maxHeartbeats 2000000 in
theorem mc_52 : lw_tbl[518]? = some (.code (mm_y 52) (mm_by 52) (mm_maxL 52) (mm_re 52)) := rfl
set_option maxRecDepth 100000 in
set_option maxHeartbeats 2000000 in
theorem mc_53 : lw_tbl[523]? = some (.code (mm_y 53) (mm_by 53) (mm_maxL 53) (mm_re 53)) := rfl
set_option maxRecDepth 100000 in
set_option maxHeartbeats 2000000 in
theorem mc_54 : lw_tbl[527]? = some (.code (mm_y 54) (mm_by 54) (mm_maxL 54) (mm_re 54)) := rfl
set_option maxRecDepth 100000 in
set_option maxHeartbeats 2000000 in
theorem mc_55 : lw_tbl[531]? = some (.code (mm_y 55) (mm_by 55) (mm_maxL 55) (mm_re 55)) := rfl
set_option maxRecDepth 100000 in
set_option maxHeartbeats 2000000 in
theorem mc_56 : lw_tbl[534]? = some (.code (mm_y 56) (mm_by 56) (mm_maxL 56) (mm_re 56)) := rfl
set_option maxRecDepth 100000 in
set_option maxHeartbeats 2000000 in
theorem mc_57 : lw_tbl[539]? = some (.code (mm_y 57) (mm_by 57) (mm_maxL 57) (mm_re 57)) := rfl
set_option maxRecDepth 100000 in
set_option maxHeartbeats 2000000 in
theorem mc_58 : lw_tbl[545]? = some (.code (mm_y 58) (mm_by 58) (mm_maxL 58) (mm_re 58)) := rfl
set_option maxRecDepth 100000 in
set_option maxHeartbeats 2000000 in
theorem mc_59 : lw_tbl[554]? = some (.code (mm_y 59) (mm_by 59) (mm_maxL 59) (mm_re 59)) := rfl
set_option maxRecDepth 100000 in
set_option maxHeartbeats 2000000 in
theorem mc_60 : lw_tbl[558]? = some (.code (mm_y 60) (mm_by 60) (mm_maxL 60) (mm_re 60)) := rfl
set_option maxRecDepth 100000 in
set_option maxHeartbeats 2000000 in
theorem mc_61 : lw_tbl[564]? = some (.code (mm_y 61) (mm_by 61) (mm_maxL 61) (mm_re 61)) := rfl
set_option maxRecDepth 100000 in
set_option maxHeartbeats 2000000 in
theorem mc_62 : lw_tbl[568]? = some (.code (mm_y 62) (mm_by 62) (mm_maxL 62) (mm_re 62)) := rfl
set_option maxRecDepth 100000 in
set_option maxHeartbeats 2000000 in
theorem mc_63 : lw_tbl[572]? = some (.code (mm_y 63) (mm_by 63) (mm_maxL 63) (mm_re 63)) := rfl
set_option maxRecDepth 100000 in
set_option maxHeartbeats 2000000 in
theorem mc_64 : lw_tbl[576]? = some (.code (mm_y 64) (mm_by 64) (mm_maxL 64) (mm_re 64)) := rfl
set_option maxRecDepth 100000 in
set_option maxHeartbeats 2000000 in
theorem mc_65 : lw_tbl[580]? = some (.code (mm_y 65) (mm_by 65) (mm_maxL 65) (mm_re 65)) := rfl
set_option maxRecDepth 100000 in
set_option maxHeartbeats 2000000 in
theorem mc_66 : lw_tbl[583]? = some (.code (mm_y 66) (mm_by 66) (mm_maxL 66) (mm_re 66)) := rfl
set_option maxRecDepth 100000 in
set_option maxHeartbeats 2000000 in
theorem mc_67 : lw_tbl[587]? = some (.code (mm_y 67) (mm_by 67) (mm_maxL 67) (mm_re 67)) := rfl
set_option maxRecDepth 100000 in
set_option maxHeartbeats 2000000 in
theorem mc_68 : lw_tbl[594]? = some (.code (mm_y 68) (mm_by 68) (mm_maxL 68) (mm_re 68)) := rfl
set_option maxRecDepth 100000 in
set_option maxHeartbeats 2000000 in
theorem mc_69 : lw_tbl[597]? = some (.code (mm_y 69) (mm_by 69) (mm_maxL 69) (mm_re 69)) := rfl
set_option maxRecDepth 100000 in
set_option maxHeartbeats 2000000 in
theorem mc_70 : lw_tbl[605]? = some (.code (mm_y 70) (mm_by 70) (mm_maxL 70) (mm_re 70)) := rfl
set_option maxRecDepth 100000 in
set_option maxHeartbeats 2000000 in
theorem mc_71 : lw_tbl[608]? = some (.code (mm_y 71) (mm_by 71) (mm_maxL 71) (mm_re 71)) := rfl
set_option maxRecDepth 100000 in
set_option maxHeartbeats 2000000 in
theorem mc_72 : lw_tbl[613]? = some (.code (mm_y 72) (mm_by 72) (mm_maxL 72) (mm_re 72)) := rfl
set_option maxRecDepth 100000 in
set_option maxHeartbeats 2000000 in
theorem mc_73 : lw_tbl[617]? = some (.code (mm_y 73) (mm_by 73) (mm_maxL 73) (mm_re 73)) := rfl
set_option maxRecDepth 100000 in
set_option maxHeartbeats 2000000 in
theorem mc_74 : lw_tbl[621]? = some (.code (mm_y 74) (mm_by 74) (mm_maxL 74) (mm_re 74)) := rfl
set_option maxRecDepth 100000 in
set_option maxHeartbeats 2000000 in
theorem mc_75 : lw_tbl[625]? = some (.code (mm_y 75) (mm_by 75) (mm_maxL 75) (mm_re 75)) := rfl
set_option maxRecDepth 100000 in
set_option maxHeartbeats 2000000 in
theorem mc_76 : lw_tbl[631]? = some (.code (mm_y 76) (mm_by 76) (mm_maxL 76) (mm_re 76)) := rfl
set_option maxRecDepth 100000 in
set_option maxHeartbeats 2000000 in
theorem mc_77 : lw_tbl[645]? = some (.code (mm_y 77) (mm_by 77) (mm_maxL 77) (mm_re 77)) := rfl
set_option maxRecDepth 100000 in
set_option maxHeartbeats 2000000 in
theorem mc_78 : lw_tbl[658]? = some (.code (mm_y 78) (mm_by 78) (mm_maxL 78) (mm_re 78)) := rfl
set_option maxRecDepth 100000 in
set_option maxHeartbeats 2000000 in
theorem mc_79 : lw_tbl[661]? = some (.code (mm_y 79) (mm_by 79) (mm_maxL 79) (mm_re 79)) := rfl
set_option maxRecDepth 100000 in
set_option maxHeartbeats 2000000 in
theorem mc_80 : lw_tbl[668]? = some (.code (mm_y 80) (mm_by 80) (mm_maxL 80) (mm_re 80)) := rfl
set_option maxRecDepth 100000 in
set_option maxHeartbeats 2000000 in
theorem mc_81 : lw_tbl[651]? = some (.code (mm_y 81) (mm_by 81) (mm_maxL 81) (mm_re 81)) := rfl
set_option maxRecDepth 100000 in
set_option maxHeartbeats 2000000 in
theorem mc_82 : lw_tbl[702]? = some (.code (mm_y 82) (mm_by 82) (mm_maxL 82) (mm_re 82)) := rfl
set_option maxRecDepth 100000 in
set_option maxHeartbeats 2000000 in
theorem mc_83 : lw_tbl[717]? = some (.code (mm_y 83) (mm_by 83) (mm_maxL 83) (mm_re 83)) := rfl
set_option maxRecDepth 100000 in
set_option maxHeartbeats 2000000 in
theorem mc_84 : lw_tbl[721]? = some (.code (mm_y 84) (mm_by 84) (mm_maxL 84) (mm_re 84)) := rfl
set_option maxRecDepth 100000 in
set_option maxHeartbeats 2000000 in
theorem mc_85 : lw_tbl[654]? = some (.code (mm_y 85) (mm_by 85) (mm_maxL 85) (mm_re 85)) := rfl
set_option maxRecDepth 100000 in
set_option maxHeartbeats 2000000 in
theorem mc_86 : lw_tbl[724]? = some (.code (mm_y 86) (mm_by 86) (mm_maxL 86) (mm_re 86)) := rfl
set_option maxRecDepth 100000 in
set_option maxHeartbeats 2000000 in
theorem mc_87 : lw_tbl[727]? = some (.code (mm_y 87) (mm_by 87) (mm_maxL 87) (mm_re 87)) := rfl
set_option maxRecDepth 100000 in
set_option maxHeartbeats 2000000 in
theorem mc_88 : lw_tbl[731]? = some (.code (mm_y 88) (mm_by 88) (mm_maxL 88) (mm_re 88)) := rfl
set_option maxRecDepth 100000 in
set_option maxHeartbeats 2000000 in
theorem mc_89 : lw_tbl[735]? = some (.code (mm_y 89) (mm_by 89) (mm_maxL 89) (mm_re 89)) := rfl
set_option maxRecDepth 100000 in
set_option maxHeartbeats 2000000 in
theorem mc_90 : lw_tbl[740]? = some (.code (mm_y 90) (mm_by 90) (mm_maxL 90) (mm_re 90)) := rfl
set_option maxRecDepth 100000 in
set_option maxHeartbeats 2000000 in
theorem mc_91 : lw_tbl[746]? = some (.code (mm_y 91) (mm_by 91) (mm_maxL 91) (mm_re 91)) := rfl
set_option maxRecDepth 100000 in
set_option maxHeartbeats 2000000 in
theorem mc_92 : lw_tbl[784]? = some (.code (mm_y 92) (mm_by 92) (mm_maxL 92) (mm_re 92)) := rfl
set_option maxRecDepth 100000 in
set_option maxHeartbeats 2000000 in
theorem mc_93 : lw_tbl[788]? = some (.code (mm_y 93) (mm_by 93) (mm_maxL 93) (mm_re 93)) := rfl
set_option maxRecDepth 100000 in
set_option maxHeartbeats 2000000 in
theorem mc_94 : lw_tbl[792]? = some (.code (mm_y 94) (mm_by 94) (mm_maxL 94) (mm_re 94)) := rfl
set_option maxRecDepth 100000 in
set_option maxHeartbeats 2000000 in
theorem mc_95 : lw_tbl[796]? = some (.code (mm_y 95) (mm_by 95) (mm_maxL 95) (mm_re 95)) := rfl
set_option maxRecDepth 100000 in
set_option maxHeartbeats 2000000 in
theorem mc_96 : lw_tbl[801]? = some (.code (mm_y 96) (mm_by 96) (mm_maxL 96) (mm_re 96)) := rfl
set_option maxRecDepth 100000 in
set_option maxHeartbeats 2000000 in
theorem mc_97 : lw_tbl[807]? = some (.code (mm_y 97) (mm_by 97) (mm_maxL 97) (mm_re 97)) := rfl
set_option maxRecDepth 100000 in
set_option maxHeartbeats 2000000 in
theorem mc_98 : lw_tbl[810]? = some (.code (mm_y 98) (mm_by 98) (mm_maxL 98) (mm_re 98)) := rfl
set_option maxRecDepth 100000 in
set_option maxHeartbeats 2000000 in
theorem mc_99 : lw_tbl[814]? = some (.code (mm_y 99) (mm_by 99) (mm_maxL 99) (mm_re 99)) := rfl
set_option maxRecDepth 100000 in
set_option maxHeartbeats 2000000 in
theorem mc_100 : lw_tbl[819]? = some (.code (mm_y 100) (mm_by 100) (mm_maxL 100) (mm_re 100)) := rfl
set_option maxRecDepth 100000 in
set_option maxHeartbeats 2000000 in
theorem mc_101 : lw_tbl[823]? = some (.code (mm_y 101) (mm_by 101) (mm_maxL 101) (mm_re 101)) := rfl
set_option maxRecDepth 100000 in
set_option maxHeartbeats 2000000 in
theorem mc_102 : lw_tbl[826]? = some (.code (mm_y 102) (mm_by 102) (mm_maxL 102) (mm_re 102)) := rfl
set_option maxRecDepth 100000 in
set_option maxHeartbeats 2000000 in
theorem mc_103 : lw_tbl[830]? = some (.code (mm_y 103) (mm_by 103) (mm_maxL 103) (mm_re 103)) := rfl
set_option maxRecDepth 100000 in
set_option maxHeartbeats 2000000 in
theorem mc_104 : lw_tbl[834]? = some (.code (mm_y 104) (mm_by 104) (mm_maxL 104) (mm_re 104)) := rfl
set_option maxRecDepth 100000 in
set_option maxHeartbeats 2000000 in
theorem mc_105 : lw_tbl[838]? = some (.code (mm_y 105) (mm_by 105) (mm_maxL 105) (mm_re 105)) := rfl
set_option maxRecDepth 100000 in
set_option maxHeartbeats 2000000 in
theorem mc_106 : lw_tbl[843]? = some (.code (mm_y 106) (mm_by 106) (mm_maxL 106) (mm_re 106)) := rfl
set_option maxRecDepth 100000 in
set_option maxHeartbeats 2000000 in
theorem mc_107 : lw_tbl[848]? = some (.code (mm_y 107) (mm_by 107) (mm_maxL 107) (mm_re 107)) := rfl
set_option maxRecDepth 100000 in
set_option maxHeartbeats 2000000 in
theorem mc_108 : lw_tbl[909]? = some (.code (mm_y 108) (mm_by 108) (mm_maxL 108) (mm_re 108)) := rfl
set_option maxRecDepth 100000 in
set_option maxHeartbeats 2000000 in
theorem mc_109 : lw_tbl[913]? = some (.code (mm_y 109) (mm_by 109) (mm_maxL 109) (mm_re 109)) := rfl
set_option maxRecDepth 100000 in
set_option maxHeartbeats 2000000 in
theorem mc_110 : lw_tbl[917]? = some (.code (mm_y 110) (mm_by 110) (mm_maxL 110) (mm_re 110)) := rfl
set_option maxRecDepth 100000 in
set_option maxHeartbeats 2000000 in
theorem mc_111 : lw_tbl[921]? = some (.code (mm_y 111) (mm_by 111) (mm_maxL 111) (mm_re 111)) := rfl
set_option maxRecDepth 100000 in
set_option maxHeartbeats 2000000 in
theorem mc_112 : lw_tbl[925]? = some (.code (mm_y 112) (mm_by 112) (mm_maxL 112) (mm_re 112)) := rfl
set_option maxRecDepth 100000 in
set_option maxHeartbeats 2000000 in
theorem mc_113 : lw_tbl[929]? = some (.code (mm_y 113) (mm_by 113) (mm_maxL 113) (mm_re 113)) := rfl
set_option maxRecDepth 100000 in
set_option maxHeartbeats 2000000 in
theorem mc_114 : lw_tbl[933]? = some (.code (mm_y 114) (mm_by 114) (mm_maxL 114) (mm_re 114)) := rfl
set_option maxRecDepth 100000 in
set_option maxHeartbeats 2000000 in
theorem mc_115 : lw_tbl[941]? = some (.code (mm_y 115) (mm_by 115) (mm_maxL 115) (mm_re 115)) := rfl
set_option maxRecDepth 100000 in
set_option maxHeartbeats 2000000 in
theorem mc_116 : lw_tbl[945]? = some (.code (mm_y 116) (mm_by 116) (mm_maxL 116) (mm_re 116)) := rfl
set_option maxRecDepth 100000 in
set_option maxHeartbeats 2000000 in
theorem mc_117 : lw_tbl[949]? = some (.code (mm_y 117) (mm_by 117) (mm_maxL 117) (mm_re 117)) := rfl
set_option maxRecDepth 100000 in
set_option maxHeartbeats 2000000 in
theorem mc_118 : lw_tbl[953]? = some (.code (mm_y 118) (mm_by 118) (mm_maxL 118) (mm_re 118)) := rfl
set_option maxRecDepth 100000 in
set_option maxHeartbeats 2000000 in
theorem mc_119 : lw_tbl[959]? = some (.code (mm_y 119) (mm_by 119) (mm_maxL 119) (mm_re 119)) := rfl
set_option maxRecDepth 100000 in
set_option maxHeartbeats 2000000 in
theorem mc_120 : lw_tbl[963]? = some (.code (mm_y 120) (mm_by 120) (mm_maxL 120) (mm_re 120)) := rfl
set_option maxRecDepth 100000 in
set_option maxHeartbeats 2000000 in
theorem mc_121 : lw_tbl[967]? = some (.code (mm_y 121) (mm_by 121) (mm_maxL 121) (mm_re 121)) := rfl
set_option maxRecDepth 100000 in
set_option maxHeartbeats 2000000 in
theorem mc_122 : lw_tbl[971]? = some (.code (mm_y 122) (mm_by 122) (mm_maxL 122) (mm_re 122)) := rfl
set_option maxRecDepth 100000 in
set_option maxHeartbeats 2000000 in
theorem mc_123 : lw_tbl[975]? = some (.code (mm_y 123) (mm_by 123) (mm_maxL 123) (mm_re 123)) := rfl
set_option maxRecDepth 100000 in
set_option maxHeartbeats 2000000 in
theorem mc_124 : lw_tbl[979]? = some (.code (mm_y 124) (mm_by 124) (mm_maxL 124) (mm_re 124)) := rfl
set_option maxRecDepth 100000 in
set_option maxHeartbeats 2000000 in
theorem mc_125 : lw_tbl[983]? = some (.code (mm_y 125) (mm_by 125) (mm_maxL 125) (mm_re 125)) := rfl
set_option maxRecDepth 100000 in
set_option maxHeartbeats 2000000 in
theorem mc_126 : lw_tbl[987]? = some (.code (mm_y 126) (mm_by 126) (mm_maxL 126) (mm_re 126)) := rfl
set_option maxRecDepth 100000 in
set_option maxHeartbeats 2000000 in
theorem mc_127 : lw_tbl[991]? = some (.code (mm_y 127) (mm_by 127) (mm_maxL 127) (mm_re 127)) := rfl
set_option maxRecDepth 100000 in
set_option maxHeartbeats 2000000 in
theorem mc_128 : lw_tbl[995]? = some (.code (mm_y 128) (mm_by 128) (mm_maxL 128) (mm_re 128)) := rfl
set_option maxRecDepth 100000 in
set_option maxHeartbeats 2000000 in
theorem mc_129 : lw_tbl[999]? = some (.code (mm_y 129) (mm_by 129) (mm_maxL 129) (mm_re 129)) := rfl
set_option maxRecDepth 100000 in
set_option maxHeartbeats 2000000 in
theorem mc_130 : lw_tbl[1003]? = some (.code (mm_y 130) (mm_by 130) (mm_maxL 130) (mm_re 130)) := rfl
set_option maxRecDepth 100000 in
set_option maxHeartbeats 2000000 in
theorem mc_131 : lw_tbl[1008]? = some (.code (mm_y 131) (mm_by 131) (mm_maxL 131) (mm_re 131)) := rfl
set_option maxRecDepth 100000 in
set_option maxHeartbeats 2000000 in
theorem mc_132 : lw_tbl[1015]? = some (.code (mm_y 132) (mm_by 132) (mm_maxL 132) (mm_re 132)) := rfl
set_option maxRecDepth 100000 in
set_option maxHeartbeats 2000000 in
theorem mc_133 : lw_tbl[1019]? = some (.code (mm_y 133) (mm_by 133) (mm_maxL 133) (mm_re 133)) := rfl
set_option maxRecDepth 100000 in
set_option maxHeartbeats 2000000 in
theorem mc_134 : lw_tbl[1023]? = some (.code (mm_y 134) (mm_by 134) (mm_maxL 134) (mm_re 134)) := rfl
set_option maxRecDepth 100000 in
set_option maxHeartbeats 2000000 in
theorem mc_135 : lw_tbl[1027]? = some (.code (mm_y 135) (mm_by 135) (mm_maxL 135) (mm_re 135)) := rfl
set_option maxRecDepth 100000 in
set_option maxHeartbeats 2000000 in
theorem mc_136 : lw_tbl[1031]? = some (.code (mm_y 136) (mm_by 136) (mm_maxL 136) (mm_re 136)) := rfl
set_option maxRecDepth 100000 in
set_option maxHeartbeats 2000000 in
theorem mc_137 : lw_tbl[1035]? = some (.code (mm_y 137) (mm_by 137) (mm_maxL 137) (mm_re 137)) := rfl
set_option maxRecDepth 100000 in
set_option maxHeartbeats 2000000 in
theorem mc_138 : lw_tbl[1051]? = some (.code (mm_y 138) (mm_by 138) (mm_maxL 138) (mm_re 138)) := rfl
set_option maxRecDepth 100000 in
set_option maxHeartbeats 2000000 in
theorem mc_139 : lw_tbl[1057]? = some (.code (mm_y 139) (mm_by 139) (mm_maxL 139) (mm_re 139)) := rfl
set_option maxRecDepth 100000 in
set_option maxHeartbeats 2000000 in
theorem mc_140 : lw_tbl[1061]? = some (.code (mm_y 140) (mm_by 140) (mm_maxL 140) (mm_re 140)) := rfl
set_option maxRecDepth 100000 in
set_option maxHeartbeats 2000000 in
theorem mc_141 : lw_tbl[1065]? = some (.code (mm_y 141) (mm_by 141) (mm_maxL 141) (mm_re 141)) := rfl
set_option maxRecDepth 100000 in
set_option maxHeartbeats 2000000 in
theorem mc_142 : lw_tbl[1069]? = some (.code (mm_y 142) (mm_by 142) (mm_maxL 142) (mm_re 142)) := rfl
set_option maxRecDepth 100000 in
set_option maxHeartbeats 2000000 in
theorem mc_143 : lw_tbl[1073]? = some (.code (mm_y 143) (mm_by 143) (mm_maxL 143) (mm_re 143)) := rfl
set_option maxRecDepth 100000 in
set_option maxHeartbeats 2000000 in
theorem mc_144 : lw_tbl[1077]? = some (.code (mm_y 144) (mm_by 144) (mm_maxL 144) (mm_re 144)) := rfl
set_option maxRecDepth 100000 in
set_option maxHeartbeats 2000000 in
theorem mc_145 : lw_tbl[1081]? = some (.code (mm_y 145) (mm_by 145) (mm_maxL 145) (mm_re 145)) := rfl
set_option maxRecDepth 100000 in
set_option maxHeartbeats 2000000 in
theorem mc_146 : lw_tbl[1085]? = some (.code (mm_y 146) (mm_by 146) (mm_maxL 146) (mm_re 146)) := rfl
set_option maxRecDepth 100000 in
set_option maxHeartbeats 2000000 in
theorem mc_147 : lw_tbl[1089]? = some (.code (mm_y 147) (mm_by 147) (mm_maxL 147) (mm_re 147)) := rfl
set_option maxRecDepth 100000 in
set_option maxHeartbeats 2000000 in
theorem mc_148 : lw_tbl[1093]? = some (.code (mm_y 148) (mm_by 148) (mm_maxL 148) (mm_re 148)) := rfl
set_option maxRecDepth 100000 in
set_option maxHeartbeats 2000000 in
theorem mc_149 : lw_tbl[1097]? = some (.code (mm_y 149) (mm_by 149) (mm_maxL 149) (mm_re 149)) := rfl
set_option maxRecDepth 100000 in
set_option maxHeartbeats 2000000 in
theorem mc_150 : lw_tbl[1101]? = some (.code (mm_y 150) (mm_by 150) (mm_maxL 150) (mm_re 150)) := rfl
set_option maxRecDepth 100000 in
set_option maxHeartbeats 2000000 in
theorem mc_151 : lw_tbl[1105]? = some (.code (mm_y 151) (mm_by 151) (mm_maxL 151) (mm_re 151)) := rfl
set_option maxRecDepth 100000 in
set_option maxHeartbeats 2000000 in
theorem mc_152 : lw_tbl[1109]? = some (.code (mm_y 152) (mm_by 152) (mm_maxL 152) (mm_re 152)) := rfl
set_option maxRecDepth 100000 in
set_option maxHeartbeats 2000000 in
theorem mc_153 : lw_tbl[1113]? = some (.code (mm_y 153) (mm_by 153) (mm_maxL 153) (mm_re 153)) := rfl
set_option maxRecDepth 100000 in
set_option maxHeartbeats 2000000 in
theorem mc_154 : lw_tbl[1116]? = some (.code (mm_y 154) (mm_by 154) (mm_maxL 154) (mm_re 154)) := rfl
set_option maxRecDepth 100000 in
set_option maxHeartbeats 2000000 in
theorem mc_155 : lw_tbl[1120]? = some (.code (mm_y 155) (mm_by 155) (mm_maxL 155) (mm_re 155)) := rfl
set_option maxRecDepth 100000 in
set_option maxHeartbeats 2000000 in
theorem mc_156 : lw_tbl[1124]? = some (.code (mm_y 156) (mm_by 156) (mm_maxL 156) (mm_re 156)) := rfl
set_option maxRecDepth 100000 in
set_option maxHeartbeats 2000000 in
theorem mc_157 : lw_tbl[1128]? = some (.code (mm_y 157) (mm_by 157) (mm_maxL 157) (mm_re 157)) := rfl
set_option maxRecDepth 100000 in
set_option maxHeartbeats 2000000 in
theorem mc_158 : lw_tbl[1132]? = some (.code (mm_y 158) (mm_by 158) (mm_maxL 158) (mm_re 158)) := rfl
set_option maxRecDepth 100000 in
set_option maxHeartbeats 2000000 in
theorem mc_159 : lw_tbl[1136]? = some (.code (mm_y 159) (mm_by 159) (mm_maxL 159) (mm_re 159)) := rfl
set_option maxRecDepth 100000 in
set_option maxHeartbeats 2000000 in
theorem mc_160 : lw_tbl[1140]? = some (.code (mm_y 160) (mm_by 160) (mm_maxL 160) (mm_re 160)) := rfl
set_option maxRecDepth 100000 in
set_option maxHeartbeats 2000000 in
theorem mc_161 : lw_tbl[1144]? = some (.code (mm_y 161) (mm_by 161) (mm_maxL 161) (mm_re 161)) := rfl
set_option maxRecDepth 100000 in
set_option maxHeartbeats 2000000 in
theorem mc_162 : lw_tbl[1148]? = some (.code (mm_y 162) (mm_by 162) (mm_maxL 162) (mm_re 162)) := rfl
set_option maxRecDepth 100000 in
set_option maxHeartbeats 2000000 in
theorem mc_163 : lw_tbl[1152]? = some (.code (mm_y 163) (mm_by 163) (mm_maxL 163) (mm_re 163)) := rfl
set_option maxRecDepth 100000 in
set_option maxHeartbeats 2000000 in
theorem mc_164 : lw_tbl[1156]? = some (.code (mm_y 164) (mm_by 164) (mm_maxL 164) (mm_re 164)) := rfl
set_option maxRecDepth 100000 in
set_option maxHeartbeats 2000000 in
theorem mc_165 : lw_tbl[1160]? = some (.code (mm_y 165) (mm_by 165) (mm_maxL 165) (mm_re 165)) := rfl
set_option maxRecDepth 100000 in
set_option maxHeartbeats 2000000 in
theorem mc_166 : lw_tbl[1164]? = some (.code (mm_y 166) (mm_by 166) (mm_maxL 166) (mm_re 166)) := rfl
set_option maxRecDepth 100000 in
set_option maxHeartbeats 2000000 in
theorem mc_167 : lw_tbl[1168]? = some (.code (mm_y 167) (mm_by 167) (mm_maxL 167) (mm_re 167)) := rfl
set_option maxRecDepth 100000 in
set_option maxHeartbeats 2000000 in
theorem mc_168 : lw_tbl[1172]? = some (.code (mm_y 168) (mm_by 168) (mm_maxL 168) (mm_re 168)) := rfl
set_option maxRecDepth 100000 in
set_option maxHeartbeats 2000000 in
theorem mc_169 : lw_tbl[1176]? = some (.code (mm_y 169) (mm_by 169) (mm_maxL 169) (mm_re 169)) := rfl
set_option maxRecDepth 100000 in
set_option maxHeartbeats 2000000 in
theorem mc_170 : lw_tbl[1182]? = some (.code (mm_y 170) (mm_by 170) (mm_maxL 170) (mm_re 170)) := rfl
set_option maxRecDepth 100000 in
set_option maxHeartbeats 2000000 in
theorem mc_171 : lw_tbl[754]? = some (.code (mm_y 171) (mm_by 171) (mm_maxL 171) (mm_re 171)) := rfl
set_option maxRecDepth 100000 in
set_option maxHeartbeats 2000000 in
theorem mc_172 : lw_tbl[778]? = some (.code (mm_y 172) (mm_by 172) (mm_maxL 172) (mm_re 172)) := rfl
def mm_cdP (m : Nat) : Prop := Cond.code (mm_y m) (mm_by m) (mm_maxL m) (mm_re m) ∈ lw_tbl
theorem mm_cd0 : ∀ a, a < 0 → mm_cdP a := lt_0
theorem mm_cd1 : ∀ a, a < 1 → mm_cdP a := lt_s mm_cd0 (List.mem_of_getElem? mc_0)
theorem mm_cd2 : ∀ a, a < 2 → mm_cdP a := lt_s mm_cd1 (List.mem_of_getElem? mc_1)
theorem mm_cd3 : ∀ a, a < 3 → mm_cdP a := lt_s mm_cd2 (List.mem_of_getElem? mc_2)
theorem mm_cd4 : ∀ a, a < 4 → mm_cdP a := lt_s mm_cd3 (List.mem_of_getElem? mc_3)
theorem mm_cd5 : ∀ a, a < 5 → mm_cdP a := lt_s mm_cd4 (List.mem_of_getElem? mc_4)
theorem mm_cd6 : ∀ a, a < 6 → mm_cdP a := lt_s mm_cd5 (List.mem_of_getElem? mc_5)
theorem mm_cd7 : ∀ a, a < 7 → mm_cdP a := lt_s mm_cd6 (List.mem_of_getElem? mc_6)
theorem mm_cd8 : ∀ a, a < 8 → mm_cdP a := lt_s mm_cd7 (List.mem_of_getElem? mc_7)
theorem mm_cd9 : ∀ a, a < 9 → mm_cdP a := lt_s mm_cd8 (List.mem_of_getElem? mc_8)
theorem mm_cd10 : ∀ a, a < 10 → mm_cdP a := lt_s mm_cd9 (List.mem_of_getElem? mc_9)
theorem mm_cd11 : ∀ a, a < 11 → mm_cdP a := lt_s mm_cd10 (List.mem_of_getElem? mc_10)
theorem mm_cd12 : ∀ a, a < 12 → mm_cdP a := lt_s mm_cd11 (List.mem_of_getElem? mc_11)
theorem mm_cd13 : ∀ a, a < 13 → mm_cdP a := lt_s mm_cd12 (List.mem_of_getElem? mc_12)
theorem mm_cd14 : ∀ a, a < 14 → mm_cdP a := lt_s mm_cd13 (List.mem_of_getElem? mc_13)
theorem mm_cd15 : ∀ a, a < 15 → mm_cdP a := lt_s mm_cd14 (List.mem_of_getElem? mc_14)
theorem mm_cd16 : ∀ a, a < 16 → mm_cdP a := lt_s mm_cd15 (List.mem_of_getElem? mc_15)
theorem mm_cd17 : ∀ a, a < 17 → mm_cdP a := lt_s mm_cd16 (List.mem_of_getElem? mc_16)
theorem mm_cd18 : ∀ a, a < 18 → mm_cdP a := lt_s mm_cd17 (List.mem_of_getElem? mc_17)
theorem mm_cd19 : ∀ a, a < 19 → mm_cdP a := lt_s mm_cd18 (List.mem_of_getElem? mc_18)
theorem mm_cd20 : ∀ a, a < 20 → mm_cdP a := lt_s mm_cd19 (List.mem_of_getElem? mc_19)
theorem mm_cd21 : ∀ a, a < 21 → mm_cdP a := lt_s mm_cd20 (List.mem_of_getElem? mc_20)
theorem mm_cd22 : ∀ a, a < 22 → mm_cdP a := lt_s mm_cd21 (List.mem_of_getElem? mc_21)
theorem mm_cd23 : ∀ a, a < 23 → mm_cdP a := lt_s mm_cd22 (List.mem_of_getElem? mc_22)
theorem mm_cd24 : ∀ a, a < 24 → mm_cdP a := lt_s mm_cd23 (List.mem_of_getElem? mc_23)
theorem mm_cd25 : ∀ a, a < 25 → mm_cdP a := lt_s mm_cd24 (List.mem_of_getElem? mc_24)
theorem mm_cd26 : ∀ a, a < 26 → mm_cdP a := lt_s mm_cd25 (List.mem_of_getElem? mc_25)
theorem mm_cd27 : ∀ a, a < 27 → mm_cdP a := lt_s mm_cd26 (List.mem_of_getElem? mc_26)
theorem mm_cd28 : ∀ a, a < 28 → mm_cdP a := lt_s mm_cd27 (List.mem_of_getElem? mc_27)
theorem mm_cd29 : ∀ a, a < 29 → mm_cdP a := lt_s mm_cd28 (List.mem_of_getElem? mc_28)
theorem mm_cd30 : ∀ a, a < 30 → mm_cdP a := lt_s mm_cd29 (List.mem_of_getElem? mc_29)
theorem mm_cd31 : ∀ a, a < 31 → mm_cdP a := lt_s mm_cd30 (List.mem_of_getElem? mc_30)
theorem mm_cd32 : ∀ a, a < 32 → mm_cdP a := lt_s mm_cd31 (List.mem_of_getElem? mc_31)
theorem mm_cd33 : ∀ a, a < 33 → mm_cdP a := lt_s mm_cd32 (List.mem_of_getElem? mc_32)
theorem mm_cd34 : ∀ a, a < 34 → mm_cdP a := lt_s mm_cd33 (List.mem_of_getElem? mc_33)
theorem mm_cd35 : ∀ a, a < 35 → mm_cdP a := lt_s mm_cd34 (List.mem_of_getElem? mc_34)
theorem mm_cd36 : ∀ a, a < 36 → mm_cdP a := lt_s mm_cd35 (List.mem_of_getElem? mc_35)
theorem mm_cd37 : ∀ a, a < 37 → mm_cdP a := lt_s mm_cd36 (List.mem_of_getElem? mc_36)
theorem mm_cd38 : ∀ a, a < 38 → mm_cdP a := lt_s mm_cd37 (List.mem_of_getElem? mc_37)
theorem mm_cd39 : ∀ a, a < 39 → mm_cdP a := lt_s mm_cd38 (List.mem_of_getElem? mc_38)
theorem mm_cd40 : ∀ a, a < 40 → mm_cdP a := lt_s mm_cd39 (List.mem_of_getElem? mc_39)
theorem mm_cd41 : ∀ a, a < 41 → mm_cdP a := lt_s mm_cd40 (List.mem_of_getElem? mc_40)
theorem mm_cd42 : ∀ a, a < 42 → mm_cdP a := lt_s mm_cd41 (List.mem_of_getElem? mc_41)
theorem mm_cd43 : ∀ a, a < 43 → mm_cdP a := lt_s mm_cd42 (List.mem_of_getElem? mc_42)
theorem mm_cd44 : ∀ a, a < 44 → mm_cdP a := lt_s mm_cd43 (List.mem_of_getElem? mc_43)
theorem mm_cd45 : ∀ a, a < 45 → mm_cdP a := lt_s mm_cd44 (List.mem_of_getElem? mc_44)
theorem mm_cd46 : ∀ a, a < 46 → mm_cdP a := lt_s mm_cd45 (List.mem_of_getElem? mc_45)
theorem mm_cd47 : ∀ a, a < 47 → mm_cdP a := lt_s mm_cd46 (List.mem_of_getElem? mc_46)
theorem mm_cd48 : ∀ a, a < 48 → mm_cdP a := lt_s mm_cd47 (List.mem_of_getElem? mc_47)
theorem mm_cd49 : ∀ a, a < 49 → mm_cdP a := lt_s mm_cd48 (List.mem_of_getElem? mc_48)
theorem mm_cd50 : ∀ a, a < 50 → mm_cdP a := lt_s mm_cd49 (List.mem_of_getElem? mc_49)
theorem mm_cd51 : ∀ a, a < 51 → mm_cdP a := lt_s mm_cd50 (List.mem_of_getElem? mc_50)
theorem mm_cd52 : ∀ a, a < 52 → mm_cdP a := lt_s mm_cd51 (List.mem_of_getElem? mc_51)
theorem mm_cd53 : ∀ a, a < 53 → mm_cdP a := lt_s mm_cd52 (List.mem_of_getElem? mc_52)
theorem mm_cd54 : ∀ a, a < 54 → mm_cdP a := lt_s mm_cd53 (List.mem_of_getElem? mc_53)
theorem mm_cd55 : ∀ a, a < 55 → mm_cdP a := lt_s mm_cd54 (List.mem_of_getElem? mc_54)
theorem mm_cd56 : ∀ a, a < 56 → mm_cdP a := lt_s mm_cd55 (List.mem_of_getElem? mc_55)
theorem mm_cd57 : ∀ a, a < 57 → mm_cdP a := lt_s mm_cd56 (List.mem_of_getElem? mc_56)
theorem mm_cd58 : ∀ a, a < 58 → mm_cdP a := lt_s mm_cd57 (List.mem_of_getElem? mc_57)
theorem mm_cd59 : ∀ a, a < 59 → mm_cdP a := lt_s mm_cd58 (List.mem_of_getElem? mc_58)
theorem mm_cd60 : ∀ a, a < 60 → mm_cdP a := lt_s mm_cd59 (List.mem_of_getElem? mc_59)
theorem mm_cd61 : ∀ a, a < 61 → mm_cdP a := lt_s mm_cd60 (List.mem_of_getElem? mc_60)
theorem mm_cd62 : ∀ a, a < 62 → mm_cdP a := lt_s mm_cd61 (List.mem_of_getElem? mc_61)
theorem mm_cd63 : ∀ a, a < 63 → mm_cdP a := lt_s mm_cd62 (List.mem_of_getElem? mc_62)
theorem mm_cd64 : ∀ a, a < 64 → mm_cdP a := lt_s mm_cd63 (List.mem_of_getElem? mc_63)
theorem mm_cd65 : ∀ a, a < 65 → mm_cdP a := lt_s mm_cd64 (List.mem_of_getElem? mc_64)
theorem mm_cd66 : ∀ a, a < 66 → mm_cdP a := lt_s mm_cd65 (List.mem_of_getElem? mc_65)
theorem mm_cd67 : ∀ a, a < 67 → mm_cdP a := lt_s mm_cd66 (List.mem_of_getElem? mc_66)
theorem mm_cd68 : ∀ a, a < 68 → mm_cdP a := lt_s mm_cd67 (List.mem_of_getElem? mc_67)
theorem mm_cd69 : ∀ a, a < 69 → mm_cdP a := lt_s mm_cd68 (List.mem_of_getElem? mc_68)
theorem mm_cd70 : ∀ a, a < 70 → mm_cdP a := lt_s mm_cd69 (List.mem_of_getElem? mc_69)
theorem mm_cd71 : ∀ a, a < 71 → mm_cdP a := lt_s mm_cd70 (List.mem_of_getElem? mc_70)
theorem mm_cd72 : ∀ a, a < 72 → mm_cdP a := lt_s mm_cd71 (List.mem_of_getElem? mc_71)
theorem mm_cd73 : ∀ a, a < 73 → mm_cdP a := lt_s mm_cd72 (List.mem_of_getElem? mc_72)
theorem mm_cd74 : ∀ a, a < 74 → mm_cdP a := lt_s mm_cd73 (List.mem_of_getElem? mc_73)
theorem mm_cd75 : ∀ a, a < 75 → mm_cdP a := lt_s mm_cd74 (List.mem_of_getElem? mc_74)
theorem mm_cd76 : ∀ a, a < 76 → mm_cdP a := lt_s mm_cd75 (List.mem_of_getElem? mc_75)
theorem mm_cd77 : ∀ a, a < 77 → mm_cdP a := lt_s mm_cd76 (List.mem_of_getElem? mc_76)
theorem mm_cd78 : ∀ a, a < 78 → mm_cdP a := lt_s mm_cd77 (List.mem_of_getElem? mc_77)
theorem mm_cd79 : ∀ a, a < 79 → mm_cdP a := lt_s mm_cd78 (List.mem_of_getElem? mc_78)
theorem mm_cd80 : ∀ a, a < 80 → mm_cdP a := lt_s mm_cd79 (List.mem_of_getElem? mc_79)
theorem mm_cd81 : ∀ a, a < 81 → mm_cdP a := lt_s mm_cd80 (List.mem_of_getElem? mc_80)
theorem mm_cd82 : ∀ a, a < 82 → mm_cdP a := lt_s mm_cd81 (List.mem_of_getElem? mc_81)
theorem mm_cd83 : ∀ a, a < 83 → mm_cdP a := lt_s mm_cd82 (List.mem_of_getElem? mc_82)
theorem mm_cd84 : ∀ a, a < 84 → mm_cdP a := lt_s mm_cd83 (List.mem_of_getElem? mc_83)
theorem mm_cd85 : ∀ a, a < 85 → mm_cdP a := lt_s mm_cd84 (List.mem_of_getElem? mc_84)
theorem mm_cd86 : ∀ a, a < 86 → mm_cdP a := lt_s mm_cd85 (List.mem_of_getElem? mc_85)
theorem mm_cd87 : ∀ a, a < 87 → mm_cdP a := lt_s mm_cd86 (List.mem_of_getElem? mc_86)
theorem mm_cd88 : ∀ a, a < 88 → mm_cdP a := lt_s mm_cd87 (List.mem_of_getElem? mc_87)
theorem mm_cd89 : ∀ a, a < 89 → mm_cdP a := lt_s mm_cd88 (List.mem_of_getElem? mc_88)
theorem mm_cd90 : ∀ a, a < 90 → mm_cdP a := lt_s mm_cd89 (List.mem_of_getElem? mc_89)
theorem mm_cd91 : ∀ a, a < 91 → mm_cdP a := lt_s mm_cd90 (List.mem_of_getElem? mc_90)
theorem mm_cd92 : ∀ a, a < 92 → mm_cdP a := lt_s mm_cd91 (List.mem_of_getElem? mc_91)
theorem mm_cd93 : ∀ a, a < 93 → mm_cdP a := lt_s mm_cd92 (List.mem_of_getElem? mc_92)
theorem mm_cd94 : ∀ a, a < 94 → mm_cdP a := lt_s mm_cd93 (List.mem_of_getElem? mc_93)
theorem mm_cd95 : ∀ a, a < 95 → mm_cdP a := lt_s mm_cd94 (List.mem_of_getElem? mc_94)
theorem mm_cd96 : ∀ a, a < 96 → mm_cdP a := lt_s mm_cd95 (List.mem_of_getElem? mc_95)
theorem mm_cd97 : ∀ a, a < 97 → mm_cdP a := lt_s mm_cd96 (List.mem_of_getElem? mc_96)
theorem mm_cd98 : ∀ a, a < 98 → mm_cdP a := lt_s mm_cd97 (List.mem_of_getElem? mc_97)
theorem mm_cd99 : ∀ a, a < 99 → mm_cdP a := lt_s mm_cd98 (List.mem_of_getElem? mc_98)
theorem mm_cd100 : ∀ a, a < 100 → mm_cdP a := lt_s mm_cd99 (List.mem_of_getElem? mc_99)
theorem mm_cd101 : ∀ a, a < 101 → mm_cdP a := lt_s mm_cd100 (List.mem_of_getElem? mc_100)
theorem mm_cd102 : ∀ a, a < 102 → mm_cdP a := lt_s mm_cd101 (List.mem_of_getElem? mc_101)
theorem mm_cd103 : ∀ a, a < 103 → mm_cdP a := lt_s mm_cd102 (List.mem_of_getElem? mc_102)
theorem mm_cd104 : ∀ a, a < 104 → mm_cdP a := lt_s mm_cd103 (List.mem_of_getElem? mc_103)
theorem mm_cd105 : ∀ a, a < 105 → mm_cdP a := lt_s mm_cd104 (List.mem_of_getElem? mc_104)
theorem mm_cd106 : ∀ a, a < 106 → mm_cdP a := lt_s mm_cd105 (List.mem_of_getElem? mc_105)
theorem mm_cd107 : ∀ a, a < 107 → mm_cdP a := lt_s mm_cd106 (List.mem_of_getElem? mc_106)
theorem mm_cd108 : ∀ a, a < 108 → mm_cdP a := lt_s mm_cd107 (List.mem_of_getElem? mc_107)
theorem mm_cd109 : ∀ a, a < 109 → mm_cdP a := lt_s mm_cd108 (List.mem_of_getElem? mc_108)
theorem mm_cd110 : ∀ a, a < 110 → mm_cdP a := lt_s mm_cd109 (List.mem_of_getElem? mc_109)
theorem mm_cd111 : ∀ a, a < 111 → mm_cdP a := lt_s mm_cd110 (List.mem_of_getElem? mc_110)
theorem mm_cd112 : ∀ a, a < 112 → mm_cdP a := lt_s mm_cd111 (List.mem_of_getElem? mc_111)
theorem mm_cd113 : ∀ a, a < 113 → mm_cdP a := lt_s mm_cd112 (List.mem_of_getElem? mc_112)
theorem mm_cd114 : ∀ a, a < 114 → mm_cdP a := lt_s mm_cd113 (List.mem_of_getElem? mc_113)
theorem mm_cd115 : ∀ a, a < 115 → mm_cdP a := lt_s mm_cd114 (List.mem_of_getElem? mc_114)
theorem mm_cd116 : ∀ a, a < 116 → mm_cdP a := lt_s mm_cd115 (List.mem_of_getElem? mc_115)
theorem mm_cd117 : ∀ a, a < 117 → mm_cdP a := lt_s mm_cd116 (List.mem_of_getElem? mc_116)
theorem mm_cd118 : ∀ a, a < 118 → mm_cdP a := lt_s mm_cd117 (List.mem_of_getElem? mc_117)
theorem mm_cd119 : ∀ a, a < 119 → mm_cdP a := lt_s mm_cd118 (List.mem_of_getElem? mc_118)
theorem mm_cd120 : ∀ a, a < 120 → mm_cdP a := lt_s mm_cd119 (List.mem_of_getElem? mc_119)
theorem mm_cd121 : ∀ a, a < 121 → mm_cdP a := lt_s mm_cd120 (List.mem_of_getElem? mc_120)
theorem mm_cd122 : ∀ a, a < 122 → mm_cdP a := lt_s mm_cd121 (List.mem_of_getElem? mc_121)
theorem mm_cd123 : ∀ a, a < 123 → mm_cdP a := lt_s mm_cd122 (List.mem_of_getElem? mc_122)
theorem mm_cd124 : ∀ a, a < 124 → mm_cdP a := lt_s mm_cd123 (List.mem_of_getElem? mc_123)
theorem mm_cd125 : ∀ a, a < 125 → mm_cdP a := lt_s mm_cd124 (List.mem_of_getElem? mc_124)
theorem mm_cd126 : ∀ a, a < 126 → mm_cdP a := lt_s mm_cd125 (List.mem_of_getElem? mc_125)
theorem mm_cd127 : ∀ a, a < 127 → mm_cdP a := lt_s mm_cd126 (List.mem_of_getElem? mc_126)
theorem mm_cd128 : ∀ a, a < 128 → mm_cdP a := lt_s mm_cd127 (List.mem_of_getElem? mc_127)
theorem mm_cd129 : ∀ a, a < 129 → mm_cdP a := lt_s mm_cd128 (List.mem_of_getElem? mc_128)
theorem mm_cd130 : ∀ a, a < 130 → mm_cdP a := lt_s mm_cd129 (List.mem_of_getElem? mc_129)
theorem mm_cd131 : ∀ a, a < 131 → mm_cdP a := lt_s mm_cd130 (List.mem_of_getElem? mc_130)
theorem mm_cd132 : ∀ a, a < 132 → mm_cdP a := lt_s mm_cd131 (List.mem_of_getElem? mc_131)
theorem mm_cd133 : ∀ a, a < 133 → mm_cdP a := lt_s mm_cd132 (List.mem_of_getElem? mc_132)
theorem mm_cd134 : ∀ a, a < 134 → mm_cdP a := lt_s mm_cd133 (List.mem_of_getElem? mc_133)
theorem mm_cd135 : ∀ a, a < 135 → mm_cdP a := lt_s mm_cd134 (List.mem_of_getElem? mc_134)
theorem mm_cd136 : ∀ a, a < 136 → mm_cdP a := lt_s mm_cd135 (List.mem_of_getElem? mc_135)
theorem mm_cd137 : ∀ a, a < 137 → mm_cdP a := lt_s mm_cd136 (List.mem_of_getElem? mc_136)
theorem mm_cd138 : ∀ a, a < 138 → mm_cdP a := lt_s mm_cd137 (List.mem_of_getElem? mc_137)
theorem mm_cd139 : ∀ a, a < 139 → mm_cdP a := lt_s mm_cd138 (List.mem_of_getElem? mc_138)
theorem mm_cd140 : ∀ a, a < 140 → mm_cdP a := lt_s mm_cd139 (List.mem_of_getElem? mc_139)
theorem mm_cd141 : ∀ a, a < 141 → mm_cdP a := lt_s mm_cd140 (List.mem_of_getElem? mc_140)
theorem mm_cd142 : ∀ a, a < 142 → mm_cdP a := lt_s mm_cd141 (List.mem_of_getElem? mc_141)
theorem mm_cd143 : ∀ a, a < 143 → mm_cdP a := lt_s mm_cd142 (List.mem_of_getElem? mc_142)
theorem mm_cd144 : ∀ a, a < 144 → mm_cdP a := lt_s mm_cd143 (List.mem_of_getElem? mc_143)
theorem mm_cd145 : ∀ a, a < 145 → mm_cdP a := lt_s mm_cd144 (List.mem_of_getElem? mc_144)
theorem mm_cd146 : ∀ a, a < 146 → mm_cdP a := lt_s mm_cd145 (List.mem_of_getElem? mc_145)
theorem mm_cd147 : ∀ a, a < 147 → mm_cdP a := lt_s mm_cd146 (List.mem_of_getElem? mc_146)
theorem mm_cd148 : ∀ a, a < 148 → mm_cdP a := lt_s mm_cd147 (List.mem_of_getElem? mc_147)
theorem mm_cd149 : ∀ a, a < 149 → mm_cdP a := lt_s mm_cd148 (List.mem_of_getElem? mc_148)
theorem mm_cd150 : ∀ a, a < 150 → mm_cdP a := lt_s mm_cd149 (List.mem_of_getElem? mc_149)
theorem mm_cd151 : ∀ a, a < 151 → mm_cdP a := lt_s mm_cd150 (List.mem_of_getElem? mc_150)
theorem mm_cd152 : ∀ a, a < 152 → mm_cdP a := lt_s mm_cd151 (List.mem_of_getElem? mc_151)
theorem mm_cd153 : ∀ a, a < 153 → mm_cdP a := lt_s mm_cd152 (List.mem_of_getElem? mc_152)
theorem mm_cd154 : ∀ a, a < 154 → mm_cdP a := lt_s mm_cd153 (List.mem_of_getElem? mc_153)
theorem mm_cd155 : ∀ a, a < 155 → mm_cdP a := lt_s mm_cd154 (List.mem_of_getElem? mc_154)
theorem mm_cd156 : ∀ a, a < 156 → mm_cdP a := lt_s mm_cd155 (List.mem_of_getElem? mc_155)
theorem mm_cd157 : ∀ a, a < 157 → mm_cdP a := lt_s mm_cd156 (List.mem_of_getElem? mc_156)
theorem mm_cd158 : ∀ a, a < 158 → mm_cdP a := lt_s mm_cd157 (List.mem_of_getElem? mc_157)
theorem mm_cd159 : ∀ a, a < 159 → mm_cdP a := lt_s mm_cd158 (List.mem_of_getElem? mc_158)
theorem mm_cd160 : ∀ a, a < 160 → mm_cdP a := lt_s mm_cd159 (List.mem_of_getElem? mc_159)
theorem mm_cd161 : ∀ a, a < 161 → mm_cdP a := lt_s mm_cd160 (List.mem_of_getElem? mc_160)
theorem mm_cd162 : ∀ a, a < 162 → mm_cdP a := lt_s mm_cd161 (List.mem_of_getElem? mc_161)
theorem mm_cd163 : ∀ a, a < 163 → mm_cdP a := lt_s mm_cd162 (List.mem_of_getElem? mc_162)
theorem mm_cd164 : ∀ a, a < 164 → mm_cdP a := lt_s mm_cd163 (List.mem_of_getElem? mc_163)
theorem mm_cd165 : ∀ a, a < 165 → mm_cdP a := lt_s mm_cd164 (List.mem_of_getElem? mc_164)
theorem mm_cd166 : ∀ a, a < 166 → mm_cdP a := lt_s mm_cd165 (List.mem_of_getElem? mc_165)
theorem mm_cd167 : ∀ a, a < 167 → mm_cdP a := lt_s mm_cd166 (List.mem_of_getElem? mc_166)
theorem mm_cd168 : ∀ a, a < 168 → mm_cdP a := lt_s mm_cd167 (List.mem_of_getElem? mc_167)
theorem mm_cd169 : ∀ a, a < 169 → mm_cdP a := lt_s mm_cd168 (List.mem_of_getElem? mc_168)
theorem mm_cd170 : ∀ a, a < 170 → mm_cdP a := lt_s mm_cd169 (List.mem_of_getElem? mc_169)
theorem mm_cd171 : ∀ a, a < 171 → mm_cdP a := lt_s mm_cd170 (List.mem_of_getElem? mc_170)
theorem mm_cd172 : ∀ a, a < 172 → mm_cdP a := lt_s mm_cd171 (List.mem_of_getElem? mc_171)
theorem mm_cd173 : ∀ a, a < 173 → mm_cdP a := lt_s mm_cd172 (List.mem_of_getElem? mc_172)
end
section
def mm_tbl : List Cond := lw_tbl.filter goodWord
theorem mm_win {w : Cond} (h : w ∈ lw_tbl) (hg : goodWord w = true) : w ∈ mm_tbl := List.mem_filter.mpr ⟨h, hg⟩
theorem mm_goodIn : GoodIn mm_tbl mm_tbl := fun w h => ⟨h, good_of_word (List.mem_filter.mp h).2⟩
theorem mm_code_in {m : Nat} (h : m < 173) : Cond.code (mm_y m) (mm_by m) (mm_maxL m) (mm_re m) ∈ mm_tbl := mm_win (mm_cd173 m h) rfl
theorem mm_plain : ∀ m, m < 173 → plainFor (mm_y m) = true := by decide +kernel
def mm_hd (m b : Nat) : Option Nat := (mm_blk m b).head?.map (fun i => i.1)
def mm_ln (i : Instr) : Nat := match i with
  | .bipush _ | .ldc _ | .newarray _ | .iload _ | .lload _ | .aload _ | .istore _ | .lstore _ | .astore _ => 2
  | .sipush _ | .ldc2_w _ | .getfield _ | .putfield _ | .getstatic _ | .invokestatic _ | .invokevirtual _ | .invokespecial _ | .goto _ | .ifCond _ _ | .if_icmp _ _ | .if_acmp _ _ | .ifnull _ | .ifnonnull _ | .new _ | .anewarray _ | .checkcast _ | .iinc _ _ => 3
  | _ => 1
def mm_dd (bs : ByteArray) (pc : Nat) (ins : Instr) (n : Nat) : Bool := match decode bs pc with
  | .ok (j, k) => decide (j = ins) && decide (k = n)
  | .error _ => false
def mm_dt (bs : ByteArray) (pc : Nat) (ins : Instr) : Bool := match decode bs pc with
  | .ok (j, _) => decide (j = ins)
  | .error _ => false
def mm_dk (bs : ByteArray) (i : mmI) (nx : Option Nat) : Bool := match i.2.1 with
  | .athrow => true
  | .nop => true
  | .tableswitch d lo hi offs => mm_dt bs i.1 (.tableswitch d lo hi offs)
  | ins => mm_dd bs i.1 ins (mm_ln ins) && (match nx with
    | some k => decide (k = i.1 + mm_ln ins)
    | none => true)
def mm_to (m pc : Nat) (o : Int) (b : Nat) : Bool := match mm_hd m b with
  | some t => decide ((pc : Int) + o = (t : Int))
  | none => false
def mm_tk (m : Nat) (i : mmI) : Bool := match i.2.1 with
  | .nop => decide (mm_hd m (mm_k0 i.2.2) = some i.1)
  | .goto o => mm_to m i.1 o (mm_k0 i.2.2)
  | .ifCond _ o => mm_to m i.1 o (mm_k0 i.2.2)
  | .if_icmp _ o => mm_to m i.1 o (mm_k0 i.2.2)
  | .if_acmp _ o => mm_to m i.1 o (mm_k0 i.2.2)
  | .ifnull o => mm_to m i.1 o (mm_k0 i.2.2)
  | .ifnonnull o => mm_to m i.1 o (mm_k0 i.2.2)
  | .tableswitch d lo hi offs => mm_to m i.1 d (mm_k0 i.2.2) && decide (i.2.2.tail.length = offs.size) && decide (hi - lo + 1 = (offs.size : Int)) && (List.range offs.size).all (fun j => mm_to m i.1 (offs.getD j 0) (i.2.2.tail.getD j 0))
  | _ => true
def mm_wd (k : Nat) : Option Cond := lw_tbl[k]?
def mm_sf (k : Nat) : String × String := if k = 0 then ("value", "[B") else ("coder", "B")
def mm_gs (k : Nat) : String × String × String := match k with
  | 0 => ("java/util/ArrayList", "DEFAULTCAPACITY_EMPTY_ELEMENTDATA", "[Ljava/lang/Object;")
  | 1 => ("java/lang/String", "COMPACT_STRINGS", "Z")
  | _ => ("jdk/internal/util/Preconditions", "SIOOBE_FORMATTER", "Ljava/util/function/BiFunction;")
def mm_fk (own : String) (idx c k j : Nat) : Bool := match mm_cls[c]? with
  | some (C, T, N) => decide (k < N) && (match mm_wd j with
    | some (.fieldLink o x r n d) => decide (o = own) && decide (x = idx) && decide (n = (T k).2.1) && decide (d = (T k).2.2.1) && (decide (r = (T k).1) || (decide (r = C) && decide (C = "java/util/ArrayList") && decide ((T k).1 = "java/util/AbstractList") && decide (n = "modCount") && decide (d = "I")))
    | _ => false)
  | none => false
/-- the kind of a field's type, as mm_fit has it -/
def mm_tg (ty : FieldType) : Nat := match ty with
  | .int => 0
  | .boolean => 1
  | .long => 2
  | .object _ => 3
  | .array _ => 3
  | .byte => 4
  | .char => 5
  | _ => 9
def mm_pk (m c k t : Nat) : Bool := match mm_cls[c]? with
  | some (_, T, _) => decide (mm_tg ((mm_fts.getD c (fun _ => .int)) k) = t) && (!(T k).2.2.2 || (decide ((mm_y m).name = "<init>") && decide ((T k).1 = mm_own m)))
  | none => false
def mm_arn (t : Nat) : String := if t = 0 then "[B" else "[Ljava/lang/Object;"
def mm_obn (t : Nat) : String := if t = 3 then "java/lang/Object" else "BoundsPlanner$Path"
def mm_nar1 (c n : Nat) : Bool := decide ((mm_y c).cls ≠ "java/lang/invoke/MethodHandle") && decide ((mm_y c).cls ≠ "java/lang/invoke/VarHandle") && decide ((parseMethodDescriptor (mm_y c).desc).map (fun d => d.parameters.length) = some n)
def mm_cnm (r : Nat) : String := if r = 100 then "java/lang/String" else ((mm_cls[r - 1]?).map (fun q => q.1)).getD ""
def mm_cw (own : String) (idx : Nat) (ex : List Nat) : Bool := decide (mm_k0 ex < 173) && decide (mm_wd (mm_k3 ex) = some (if ex.getD 4 0 = 1 then .methodLinkNest own idx (mm_y (mm_k0 ex)) "BoundsPlanner" else .methodLink own idx (mm_y (mm_k0 ex)))) && decide (mm_wd (mm_nis.getD (mm_k0 ex) 9999) = some (.initialized (mm_y (mm_k0 ex)).cls))
def mm_lk (m : Nat) (i : mmI) : Bool := match i.2.1 with
  | .getfield idx => if mm_k0 i.2.2 = 99 then decide (mm_k1 i.2.2 < 2) && decide (mm_wd (mm_k2 i.2.2) = some (.fieldLink (mm_own m) idx "java/lang/String" (mm_sf (mm_k1 i.2.2)).1 (mm_sf (mm_k1 i.2.2)).2)) else mm_fk (mm_own m) idx (mm_k0 i.2.2) (mm_k1 i.2.2) (mm_k3 i.2.2)
  | .putfield idx => mm_fk (mm_own m) idx (mm_k0 i.2.2) (mm_k1 i.2.2) (mm_k3 i.2.2) && mm_pk m (mm_k0 i.2.2) (mm_k1 i.2.2) (mm_k2 i.2.2)
  | .getstatic idx => decide (mm_k0 i.2.2 < 3) && decide (mm_wd (mm_k1 i.2.2) = some (.fieldLink (mm_own m) idx (mm_gs (mm_k0 i.2.2)).1 (mm_gs (mm_k0 i.2.2)).2.1 (mm_gs (mm_k0 i.2.2)).2.2))
  | .ldc idx => if mm_k0 i.2.2 = 0 then decide (mm_wd (mm_k2 i.2.2) = some (.constant (mm_own m) idx (Int32.ofNat (mm_k1 i.2.2)))) else if mm_k1 i.2.2 = 3 then decide (mm_wd (mm_k2 i.2.2) = some (.classLink (mm_own m) idx "[Ljava/lang/Object;")) else decide (10 ≤ mm_k1 i.2.2) && (match mm_sts[mm_k1 i.2.2 - 10]? with
    | some (o, x, _) => decide (o = mm_own m) && decide (x = idx)
    | none => false)
  | .ldc2_w idx => decide (mm_wd (mm_k1 i.2.2) = some (.constantLong (mm_own m) idx (Int64.ofNat (mm_k0 i.2.2))))
  | .new idx => match mm_cls[mm_k0 i.2.2]? with
    | some (C, _, N) => decide (mm_wd (mm_k1 i.2.2) = some (.classLink (mm_own m) idx C)) && decide (mm_wd (mm_cns.getD (mm_k0 i.2.2) (9999, 9999)).1 = some (.instantiable C N)) && decide (mm_wd (mm_cns.getD (mm_k0 i.2.2) (9999, 9999)).2 = some (.initialized C)) && decide ((mm_defs (mm_k0 i.2.2)).length = N)
    | none => false
  | .newarray t => decide (mm_k0 i.2.2 < 3) && decide (Op.newarray.typeOf t = mm_aty (mm_k0 i.2.2))
  | .anewarray idx => (decide (mm_k0 i.2.2 = 3) || decide (mm_k0 i.2.2 = 4)) && decide (mm_wd (mm_k1 i.2.2) = some (.classLink (mm_own m) idx (mm_obn (mm_k0 i.2.2))))
  | .checkcast idx => if mm_k0 i.2.2 = 0 then (decide (mm_k1 i.2.2 = 4) || decide (mm_k1 i.2.2 = 7) || decide (mm_k1 i.2.2 = 8)) && decide (mm_wd (mm_k2 i.2.2) = some (.classLink (mm_own m) idx (mm_cnm (mm_k1 i.2.2 + 1)))) else (decide (mm_k1 i.2.2 = 0) || decide (mm_k1 i.2.2 = 3)) && decide (mm_wd (mm_k2 i.2.2) = some (.classLink (mm_own m) idx (mm_arn (mm_k1 i.2.2))))
  | .invokestatic idx => if mm_k0 i.2.2 = 1000 then decide (mm_wd (mm_k1 i.2.2) = some (.methodLink (mm_own m) idx arraycopyName)) else mm_cw (mm_own m) idx i.2.2 && decide (mm_k2 i.2.2 = 0) && decide (mm_wd (mm_ips.getD (mm_k0 i.2.2) 9999) = some (.static (mm_y (mm_k0 i.2.2)))) && mm_nar1 (mm_k0 i.2.2) (mm_k1 i.2.2)
  | .invokevirtual idx => if mm_k0 i.2.2 = 1001 then decide (mm_wd (mm_k1 i.2.2) = some (.methodLink (mm_own m) idx ⟨"[B", "clone", "()Ljava/lang/Object;"⟩)) else if mm_k0 i.2.2 = 1002 then decide (mm_k1 i.2.2 = 3) && decide (mm_wd (mm_k2 i.2.2) = some (.methodLink (mm_own m) idx ⟨"java/lang/Object", "getClass", "()Ljava/lang/Class;"⟩)) else mm_cw (mm_own m) idx i.2.2 && decide (0 < mm_k1 i.2.2) && decide (0 < mm_k2 i.2.2) && decide ((mm_y (mm_k0 i.2.2)).cls = mm_cnm (mm_k2 i.2.2)) && decide (mm_wd (mm_ips.getD (mm_k0 i.2.2) 9999) = some (.instanceMethod (mm_y (mm_k0 i.2.2)))) && decide (mm_wd (mm_sps.getD (mm_k0 i.2.2) 9999) = some (.selects (mm_y (mm_k0 i.2.2)).cls (mm_y (mm_k0 i.2.2)) (mm_y (mm_k0 i.2.2)))) && mm_nar1 (mm_k0 i.2.2) (mm_k1 i.2.2 - 1)
  | .invokespecial idx => if mm_k0 i.2.2 = 1003 then decide (mm_wd (mm_k1 i.2.2) = some (.methodLink (mm_own m) idx Lib.objectInit)) else mm_cw (mm_own m) idx i.2.2 && decide (0 < mm_k1 i.2.2) && decide (mm_k2 i.2.2 = 0) && decide ((mm_y (mm_k0 i.2.2)).name = "<init>") && decide (mm_re (mm_k0 i.2.2) = none) && decide (mm_wd (mm_ips.getD (mm_k0 i.2.2) 9999) = some (.instanceMethod (mm_y (mm_k0 i.2.2)))) && mm_nar1 (mm_k0 i.2.2) (mm_k1 i.2.2 - 1)
  | .ireturn => match mm_re m with
    | some ty => decide (mm_tg ty = mm_k0 i.2.2) && decide (mm_k0 i.2.2 ≠ 2) && decide (mm_k0 i.2.2 ≠ 3)
    | none => false
  | .lreturn => decide (mm_re m = some .long)
  | .areturn => match mm_re m with
    | some ty => decide (mm_tg ty = 3)
    | none => false
  | .return_ => decide (mm_re m = none)
  | _ => true
def mm_okL (m : Nat) : List mmI → Bool
  | [] => true
  | i :: is => mm_dk (mm_by m) i (is.head?.map (fun j => j.1)) && mm_tk m i && mm_lk m i && mm_okL m is
def mm_okM (m : Nat) : Bool := (mm_tab.getD m []).all (mm_okL m)
theorem mm_ok_0 : mm_okM 0 = true := by decide +kernel
theorem mm_ok_1 : mm_okM 1 = true := by decide +kernel
end
section
/-! PRINTED by wip/whole/tool/gen3.py: every block is as the bytes and the tables have it -/
theorem mm_ok_2 : mm_okM 2 = true := by decide +kernel
theorem mm_ok_3 : mm_okM 3 = true := by decide +kernel
theorem mm_ok_4 : mm_okM 4 = true := by decide +kernel
theorem mm_ok_5 : mm_okM 5 = true := by decide +kernel
theorem mm_ok_6 : mm_okM 6 = true := by decide +kernel
theorem mm_ok_7 : mm_okM 7 = true := by decide +kernel
theorem mm_ok_8 : mm_okM 8 = true := by decide +kernel
theorem mm_ok_9 : mm_okM 9 = true := by decide +kernel
theorem mm_ok_10 : mm_okM 10 = true := by decide +kernel
theorem mm_ok_11 : mm_okM 11 = true := by decide +kernel
theorem mm_ok_12 : mm_okM 12 = true := by decide +kernel
theorem mm_ok_13 : mm_okM 13 = true := by decide +kernel
theorem mm_ok_14 : mm_okM 14 = true := by decide +kernel
theorem mm_ok_15 : mm_okM 15 = true := by decide +kernel
theorem mm_ok_16 : mm_okM 16 = true := by decide +kernel
theorem mm_ok_17 : mm_okM 17 = true := by decide +kernel
theorem mm_ok_18 : mm_okM 18 = true := by decide +kernel
theorem mm_ok_19 : mm_okM 19 = true := by decide +kernel
theorem mm_ok_20 : mm_okM 20 = true := by decide +kernel
theorem mm_ok_21 : mm_okM 21 = true := by decide +kernel
theorem mm_ok_22 : mm_okM 22 = true := by decide +kernel
theorem mm_ok_23 : mm_okM 23 = true := by decide +kernel
theorem mm_ok_24 : mm_okM 24 = true := by decide +kernel
theorem mm_ok_25 : mm_okM 25 = true := by decide +kernel
theorem mm_ok_26 : mm_okM 26 = true := by decide +kernel
theorem mm_ok_27 : mm_okM 27 = true := by decide +kernel
theorem mm_ok_28 : mm_okM 28 = true := by decide +kernel
theorem mm_ok_29 : mm_okM 29 = true := by decide +kernel
theorem mm_ok_30 : mm_okM 30 = true := by decide +kernel
theorem mm_ok_31 : mm_okM 31 = true := by decide +kernel
theorem mm_ok_32 : mm_okM 32 = true := by decide +kernel
theorem mm_ok_33 : mm_okM 33 = true := by decide +kernel
theorem mm_ok_34 : mm_okM 34 = true := by decide +kernel
theorem mm_ok_35 : mm_okM 35 = true := by decide +kernel
theorem mm_ok_36 : mm_okM 36 = true := by decide +kernel
theorem mm_ok_37 : mm_okM 37 = true := by decide +kernel
theorem mm_ok_38 : mm_okM 38 = true := by decide +kernel
theorem mm_ok_39 : mm_okM 39 = true := by decide +kernel
end
section
/-! PRINTED by wip/whole/tool/gen3.py: every block is as the bytes and the tables have it -/
theorem mm_ok_40 : mm_okM 40 = true := by decide +kernel
theorem mm_ok_41 : mm_okM 41 = true := by decide +kernel
theorem mm_ok_42 : mm_okM 42 = true := by decide +kernel
theorem mm_ok_43 : mm_okM 43 = true := by decide +kernel
theorem mm_ok_44 : mm_okM 44 = true := by decide +kernel
theorem mm_ok_45 : mm_okM 45 = true := by decide +kernel
theorem mm_ok_46 : mm_okM 46 = true := by decide +kernel
theorem mm_ok_47 : mm_okM 47 = true := by decide +kernel
theorem mm_ok_48 : mm_okM 48 = true := by decide +kernel
theorem mm_ok_49 : mm_okM 49 = true := by decide +kernel
theorem mm_ok_50 : mm_okM 50 = true := by decide +kernel
theorem mm_ok_51 : mm_okM 51 = true := by decide +kernel
theorem mm_ok_52 : mm_okM 52 = true := by decide +kernel
theorem mm_ok_53 : mm_okM 53 = true := by decide +kernel
theorem mm_ok_54 : mm_okM 54 = true := by decide +kernel
theorem mm_ok_55 : mm_okM 55 = true := by decide +kernel
theorem mm_ok_56 : mm_okM 56 = true := by decide +kernel
theorem mm_ok_57 : mm_okM 57 = true := by decide +kernel
theorem mm_ok_58 : mm_okM 58 = true := by decide +kernel
theorem mm_ok_59 : mm_okM 59 = true := by decide +kernel
theorem mm_ok_60 : mm_okM 60 = true := by decide +kernel
theorem mm_ok_61 : mm_okM 61 = true := by decide +kernel
theorem mm_ok_62 : mm_okM 62 = true := by decide +kernel
theorem mm_ok_63 : mm_okM 63 = true := by decide +kernel
theorem mm_ok_64 : mm_okM 64 = true := by decide +kernel
theorem mm_ok_65 : mm_okM 65 = true := by decide +kernel
theorem mm_ok_66 : mm_okM 66 = true := by decide +kernel
theorem mm_ok_67 : mm_okM 67 = true := by decide +kernel
theorem mm_ok_68 : mm_okM 68 = true := by decide +kernel
theorem mm_ok_69 : mm_okM 69 = true := by decide +kernel
theorem mm_ok_70 : mm_okM 70 = true := by decide +kernel
theorem mm_ok_71 : mm_okM 71 = true := by decide +kernel
theorem mm_ok_72 : mm_okM 72 = true := by decide +kernel
theorem mm_ok_73 : mm_okM 73 = true := by decide +kernel
theorem mm_ok_74 : mm_okM 74 = true := by decide +kernel
theorem mm_ok_75 : mm_okM 75 = true := by decide +kernel
theorem mm_ok_76 : mm_okM 76 = true := by decide +kernel
theorem mm_ok_77 : mm_okM 77 = true := by decide +kernel
theorem mm_ok_78 : mm_okM 78 = true := by decide +kernel
theorem mm_ok_79 : mm_okM 79 = true := by decide +kernel
end
section
/-! PRINTED by wip/whole/tool/gen3.py: every block is as the bytes and the tables have it -/
theorem mm_ok_80 : mm_okM 80 = true := by decide +kernel
theorem mm_ok_81 : mm_okM 81 = true := by decide +kernel
theorem mm_ok_82 : mm_okM 82 = true := by decide +kernel
theorem mm_ok_83 : mm_okM 83 = true := by decide +kernel
theorem mm_ok_84 : mm_okM 84 = true := by decide +kernel
theorem mm_ok_85 : mm_okM 85 = true := by decide +kernel
theorem mm_ok_86 : mm_okM 86 = true := by decide +kernel
theorem mm_ok_87 : mm_okM 87 = true := by decide +kernel
theorem mm_ok_88 : mm_okM 88 = true := by decide +kernel
theorem mm_ok_89 : mm_okM 89 = true := by decide +kernel
theorem mm_ok_90 : mm_okM 90 = true := by decide +kernel
theorem mm_ok_91 : mm_okM 91 = true := by decide +kernel
theorem mm_ok_92 : mm_okM 92 = true := by decide +kernel
theorem mm_ok_93 : mm_okM 93 = true := by decide +kernel
theorem mm_ok_94 : mm_okM 94 = true := by decide +kernel
theorem mm_ok_95 : mm_okM 95 = true := by decide +kernel
theorem mm_ok_96 : mm_okM 96 = true := by decide +kernel
theorem mm_ok_97 : mm_okM 97 = true := by decide +kernel
theorem mm_ok_98 : mm_okM 98 = true := by decide +kernel
theorem mm_ok_99 : mm_okM 99 = true := by decide +kernel
theorem mm_ok_100 : mm_okM 100 = true := by decide +kernel
theorem mm_ok_101 : mm_okM 101 = true := by decide +kernel
theorem mm_ok_102 : mm_okM 102 = true := by decide +kernel
theorem mm_ok_103 : mm_okM 103 = true := by decide +kernel
theorem mm_ok_104 : mm_okM 104 = true := by decide +kernel
theorem mm_ok_105 : mm_okM 105 = true := by decide +kernel
theorem mm_ok_106 : mm_okM 106 = true := by decide +kernel
theorem mm_ok_107 : mm_okM 107 = true := by decide +kernel
theorem mm_ok_108 : mm_okM 108 = true := by decide +kernel
theorem mm_ok_109 : mm_okM 109 = true := by decide +kernel
theorem mm_ok_110 : mm_okM 110 = true := by decide +kernel
theorem mm_ok_111 : mm_okM 111 = true := by decide +kernel
theorem mm_ok_112 : mm_okM 112 = true := by decide +kernel
theorem mm_ok_113 : mm_okM 113 = true := by decide +kernel
theorem mm_ok_114 : mm_okM 114 = true := by decide +kernel
theorem mm_ok_115 : mm_okM 115 = true := by decide +kernel
theorem mm_ok_116 : mm_okM 116 = true := by decide +kernel
theorem mm_ok_117 : mm_okM 117 = true := by decide +kernel
theorem mm_ok_118 : mm_okM 118 = true := by decide +kernel
theorem mm_ok_119 : mm_okM 119 = true := by decide +kernel
end
section
/-! PRINTED by wip/whole/tool/gen3.py: every block is as the bytes and the tables have it -/
theorem mm_ok_120 : mm_okM 120 = true := by decide +kernel
theorem mm_ok_121 : mm_okM 121 = true := by decide +kernel
theorem mm_ok_122 : mm_okM 122 = true := by decide +kernel
theorem mm_ok_123 : mm_okM 123 = true := by decide +kernel
theorem mm_ok_124 : mm_okM 124 = true := by decide +kernel
theorem mm_ok_125 : mm_okM 125 = true := by decide +kernel
theorem mm_ok_126 : mm_okM 126 = true := by decide +kernel
theorem mm_ok_127 : mm_okM 127 = true := by decide +kernel
theorem mm_ok_128 : mm_okM 128 = true := by decide +kernel
theorem mm_ok_129 : mm_okM 129 = true := by decide +kernel
theorem mm_ok_130 : mm_okM 130 = true := by decide +kernel
theorem mm_ok_131 : mm_okM 131 = true := by decide +kernel
theorem mm_ok_132 : mm_okM 132 = true := by decide +kernel
theorem mm_ok_133 : mm_okM 133 = true := by decide +kernel
theorem mm_ok_134 : mm_okM 134 = true := by decide +kernel
theorem mm_ok_135 : mm_okM 135 = true := by decide +kernel
theorem mm_ok_136 : mm_okM 136 = true := by decide +kernel
theorem mm_ok_137 : mm_okM 137 = true := by decide +kernel
theorem mm_ok_138 : mm_okM 138 = true := by decide +kernel
theorem mm_ok_139 : mm_okM 139 = true := by decide +kernel
theorem mm_ok_140 : mm_okM 140 = true := by decide +kernel
theorem mm_ok_141 : mm_okM 141 = true := by decide +kernel
theorem mm_ok_142 : mm_okM 142 = true := by decide +kernel
theorem mm_ok_143 : mm_okM 143 = true := by decide +kernel
theorem mm_ok_144 : mm_okM 144 = true := by decide +kernel
theorem mm_ok_145 : mm_okM 145 = true := by decide +kernel
theorem mm_ok_146 : mm_okM 146 = true := by decide +kernel
theorem mm_ok_147 : mm_okM 147 = true := by decide +kernel
theorem mm_ok_148 : mm_okM 148 = true := by decide +kernel
theorem mm_ok_149 : mm_okM 149 = true := by decide +kernel
theorem mm_ok_150 : mm_okM 150 = true := by decide +kernel
theorem mm_ok_151 : mm_okM 151 = true := by decide +kernel
theorem mm_ok_152 : mm_okM 152 = true := by decide +kernel
theorem mm_ok_153 : mm_okM 153 = true := by decide +kernel
theorem mm_ok_154 : mm_okM 154 = true := by decide +kernel
theorem mm_ok_155 : mm_okM 155 = true := by decide +kernel
theorem mm_ok_156 : mm_okM 156 = true := by decide +kernel
theorem mm_ok_157 : mm_okM 157 = true := by decide +kernel
theorem mm_ok_158 : mm_okM 158 = true := by decide +kernel
theorem mm_ok_159 : mm_okM 159 = true := by decide +kernel
end
section
/-! PRINTED by wip/whole/tool/gen3.py: every block is as the bytes and the tables have it -/
theorem mm_ok_160 : mm_okM 160 = true := by decide +kernel
theorem mm_ok_161 : mm_okM 161 = true := by decide +kernel
theorem mm_ok_162 : mm_okM 162 = true := by decide +kernel
theorem mm_ok_163 : mm_okM 163 = true := by decide +kernel
theorem mm_ok_164 : mm_okM 164 = true := by decide +kernel
theorem mm_ok_165 : mm_okM 165 = true := by decide +kernel
theorem mm_ok_166 : mm_okM 166 = true := by decide +kernel
theorem mm_ok_167 : mm_okM 167 = true := by decide +kernel
theorem mm_ok_168 : mm_okM 168 = true := by decide +kernel
theorem mm_ok_169 : mm_okM 169 = true := by decide +kernel
theorem mm_ok_170 : mm_okM 170 = true := by decide +kernel
theorem mm_ok_171 : mm_okM 171 = true := by decide +kernel
theorem mm_ok_172 : mm_okM 172 = true := by decide +kernel
theorem mm_ok_173 : mm_okM 173 = true := by decide +kernel
end
section
def mm_okP (m : Nat) : Prop := mm_okM m = true
theorem mm_oq0 : ∀ a, a < 0 → mm_okP a := lt_0
theorem mm_oq1 : ∀ a, a < 1 → mm_okP a := lt_s mm_oq0 mm_ok_0
theorem mm_oq2 : ∀ a, a < 2 → mm_okP a := lt_s mm_oq1 mm_ok_1
theorem mm_oq3 : ∀ a, a < 3 → mm_okP a := lt_s mm_oq2 mm_ok_2
theorem mm_oq4 : ∀ a, a < 4 → mm_okP a := lt_s mm_oq3 mm_ok_3
theorem mm_oq5 : ∀ a, a < 5 → mm_okP a := lt_s mm_oq4 mm_ok_4
theorem mm_oq6 : ∀ a, a < 6 → mm_okP a := lt_s mm_oq5 mm_ok_5
theorem mm_oq7 : ∀ a, a < 7 → mm_okP a := lt_s mm_oq6 mm_ok_6
theorem mm_oq8 : ∀ a, a < 8 → mm_okP a := lt_s mm_oq7 mm_ok_7
theorem mm_oq9 : ∀ a, a < 9 → mm_okP a := lt_s mm_oq8 mm_ok_8
theorem mm_oq10 : ∀ a, a < 10 → mm_okP a := lt_s mm_oq9 mm_ok_9
theorem mm_oq11 : ∀ a, a < 11 → mm_okP a := lt_s mm_oq10 mm_ok_10
theorem mm_oq12 : ∀ a, a < 12 → mm_okP a := lt_s mm_oq11 mm_ok_11
theorem mm_oq13 : ∀ a, a < 13 → mm_okP a := lt_s mm_oq12 mm_ok_12
theorem mm_oq14 : ∀ a, a < 14 → mm_okP a := lt_s mm_oq13 mm_ok_13
theorem mm_oq15 : ∀ a, a < 15 → mm_okP a := lt_s mm_oq14 mm_ok_14
theorem mm_oq16 : ∀ a, a < 16 → mm_okP a := lt_s mm_oq15 mm_ok_15
theorem mm_oq17 : ∀ a, a < 17 → mm_okP a := lt_s mm_oq16 mm_ok_16
theorem mm_oq18 : ∀ a, a < 18 → mm_okP a := lt_s mm_oq17 mm_ok_17
theorem mm_oq19 : ∀ a, a < 19 → mm_okP a := lt_s mm_oq18 mm_ok_18
theorem mm_oq20 : ∀ a, a < 20 → mm_okP a := lt_s mm_oq19 mm_ok_19
theorem mm_oq21 : ∀ a, a < 21 → mm_okP a := lt_s mm_oq20 mm_ok_20
theorem mm_oq22 : ∀ a, a < 22 → mm_okP a := lt_s mm_oq21 mm_ok_21
theorem mm_oq23 : ∀ a, a < 23 → mm_okP a := lt_s mm_oq22 mm_ok_22
theorem mm_oq24 : ∀ a, a < 24 → mm_okP a := lt_s mm_oq23 mm_ok_23
theorem mm_oq25 : ∀ a, a < 25 → mm_okP a := lt_s mm_oq24 mm_ok_24
theorem mm_oq26 : ∀ a, a < 26 → mm_okP a := lt_s mm_oq25 mm_ok_25
theorem mm_oq27 : ∀ a, a < 27 → mm_okP a := lt_s mm_oq26 mm_ok_26
theorem mm_oq28 : ∀ a, a < 28 → mm_okP a := lt_s mm_oq27 mm_ok_27
theorem mm_oq29 : ∀ a, a < 29 → mm_okP a := lt_s mm_oq28 mm_ok_28
theorem mm_oq30 : ∀ a, a < 30 → mm_okP a := lt_s mm_oq29 mm_ok_29
theorem mm_oq31 : ∀ a, a < 31 → mm_okP a := lt_s mm_oq30 mm_ok_30
theorem mm_oq32 : ∀ a, a < 32 → mm_okP a := lt_s mm_oq31 mm_ok_31
theorem mm_oq33 : ∀ a, a < 33 → mm_okP a := lt_s mm_oq32 mm_ok_32
theorem mm_oq34 : ∀ a, a < 34 → mm_okP a := lt_s mm_oq33 mm_ok_33
theorem mm_oq35 : ∀ a, a < 35 → mm_okP a := lt_s mm_oq34 mm_ok_34
theorem mm_oq36 : ∀ a, a < 36 → mm_okP a := lt_s mm_oq35 mm_ok_35
theorem mm_oq37 : ∀ a, a < 37 → mm_okP a := lt_s mm_oq36 mm_ok_36
theorem mm_oq38 : ∀ a, a < 38 → mm_okP a := lt_s mm_oq37 mm_ok_37
theorem mm_oq39 : ∀ a, a < 39 → mm_okP a := lt_s mm_oq38 mm_ok_38
theorem mm_oq40 : ∀ a, a < 40 → mm_okP a := lt_s mm_oq39 mm_ok_39
theorem mm_oq41 : ∀ a, a < 41 → mm_okP a := lt_s mm_oq40 mm_ok_40
theorem mm_oq42 : ∀ a, a < 42 → mm_okP a := lt_s mm_oq41 mm_ok_41
theorem mm_oq43 : ∀ a, a < 43 → mm_okP a := lt_s mm_oq42 mm_ok_42
theorem mm_oq44 : ∀ a, a < 44 → mm_okP a := lt_s mm_oq43 mm_ok_43
theorem mm_oq45 : ∀ a, a < 45 → mm_okP a := lt_s mm_oq44 mm_ok_44
theorem mm_oq46 : ∀ a, a < 46 → mm_okP a := lt_s mm_oq45 mm_ok_45
theorem mm_oq47 : ∀ a, a < 47 → mm_okP a := lt_s mm_oq46 mm_ok_46
theorem mm_oq48 : ∀ a, a < 48 → mm_okP a := lt_s mm_oq47 mm_ok_47
theorem mm_oq49 : ∀ a, a < 49 → mm_okP a := lt_s mm_oq48 mm_ok_48
theorem mm_oq50 : ∀ a, a < 50 → mm_okP a := lt_s mm_oq49 mm_ok_49
theorem mm_oq51 : ∀ a, a < 51 → mm_okP a := lt_s mm_oq50 mm_ok_50
theorem mm_oq52 : ∀ a, a < 52 → mm_okP a := lt_s mm_oq51 mm_ok_51
theorem mm_oq53 : ∀ a, a < 53 → mm_okP a := lt_s mm_oq52 mm_ok_52
theorem mm_oq54 : ∀ a, a < 54 → mm_okP a := lt_s mm_oq53 mm_ok_53
theorem mm_oq55 : ∀ a, a < 55 → mm_okP a := lt_s mm_oq54 mm_ok_54
theorem mm_oq56 : ∀ a, a < 56 → mm_okP a := lt_s mm_oq55 mm_ok_55
theorem mm_oq57 : ∀ a, a < 57 → mm_okP a := lt_s mm_oq56 mm_ok_56
theorem mm_oq58 : ∀ a, a < 58 → mm_okP a := lt_s mm_oq57 mm_ok_57
theorem mm_oq59 : ∀ a, a < 59 → mm_okP a := lt_s mm_oq58 mm_ok_58
theorem mm_oq60 : ∀ a, a < 60 → mm_okP a := lt_s mm_oq59 mm_ok_59
theorem mm_oq61 : ∀ a, a < 61 → mm_okP a := lt_s mm_oq60 mm_ok_60
theorem mm_oq62 : ∀ a, a < 62 → mm_okP a := lt_s mm_oq61 mm_ok_61
theorem mm_oq63 : ∀ a, a < 63 → mm_okP a := lt_s mm_oq62 mm_ok_62
theorem mm_oq64 : ∀ a, a < 64 → mm_okP a := lt_s mm_oq63 mm_ok_63
theorem mm_oq65 : ∀ a, a < 65 → mm_okP a := lt_s mm_oq64 mm_ok_64
theorem mm_oq66 : ∀ a, a < 66 → mm_okP a := lt_s mm_oq65 mm_ok_65
theorem mm_oq67 : ∀ a, a < 67 → mm_okP a := lt_s mm_oq66 mm_ok_66
theorem mm_oq68 : ∀ a, a < 68 → mm_okP a := lt_s mm_oq67 mm_ok_67
theorem mm_oq69 : ∀ a, a < 69 → mm_okP a := lt_s mm_oq68 mm_ok_68
theorem mm_oq70 : ∀ a, a < 70 → mm_okP a := lt_s mm_oq69 mm_ok_69
theorem mm_oq71 : ∀ a, a < 71 → mm_okP a := lt_s mm_oq70 mm_ok_70
theorem mm_oq72 : ∀ a, a < 72 → mm_okP a := lt_s mm_oq71 mm_ok_71
theorem mm_oq73 : ∀ a, a < 73 → mm_okP a := lt_s mm_oq72 mm_ok_72
theorem mm_oq74 : ∀ a, a < 74 → mm_okP a := lt_s mm_oq73 mm_ok_73
theorem mm_oq75 : ∀ a, a < 75 → mm_okP a := lt_s mm_oq74 mm_ok_74
theorem mm_oq76 : ∀ a, a < 76 → mm_okP a := lt_s mm_oq75 mm_ok_75
theorem mm_oq77 : ∀ a, a < 77 → mm_okP a := lt_s mm_oq76 mm_ok_76
theorem mm_oq78 : ∀ a, a < 78 → mm_okP a := lt_s mm_oq77 mm_ok_77
theorem mm_oq79 : ∀ a, a < 79 → mm_okP a := lt_s mm_oq78 mm_ok_78
theorem mm_oq80 : ∀ a, a < 80 → mm_okP a := lt_s mm_oq79 mm_ok_79
theorem mm_oq81 : ∀ a, a < 81 → mm_okP a := lt_s mm_oq80 mm_ok_80
theorem mm_oq82 : ∀ a, a < 82 → mm_okP a := lt_s mm_oq81 mm_ok_81
theorem mm_oq83 : ∀ a, a < 83 → mm_okP a := lt_s mm_oq82 mm_ok_82
theorem mm_oq84 : ∀ a, a < 84 → mm_okP a := lt_s mm_oq83 mm_ok_83
theorem mm_oq85 : ∀ a, a < 85 → mm_okP a := lt_s mm_oq84 mm_ok_84
theorem mm_oq86 : ∀ a, a < 86 → mm_okP a := lt_s mm_oq85 mm_ok_85
theorem mm_oq87 : ∀ a, a < 87 → mm_okP a := lt_s mm_oq86 mm_ok_86
theorem mm_oq88 : ∀ a, a < 88 → mm_okP a := lt_s mm_oq87 mm_ok_87
theorem mm_oq89 : ∀ a, a < 89 → mm_okP a := lt_s mm_oq88 mm_ok_88
theorem mm_oq90 : ∀ a, a < 90 → mm_okP a := lt_s mm_oq89 mm_ok_89
theorem mm_oq91 : ∀ a, a < 91 → mm_okP a := lt_s mm_oq90 mm_ok_90
theorem mm_oq92 : ∀ a, a < 92 → mm_okP a := lt_s mm_oq91 mm_ok_91
theorem mm_oq93 : ∀ a, a < 93 → mm_okP a := lt_s mm_oq92 mm_ok_92
theorem mm_oq94 : ∀ a, a < 94 → mm_okP a := lt_s mm_oq93 mm_ok_93
theorem mm_oq95 : ∀ a, a < 95 → mm_okP a := lt_s mm_oq94 mm_ok_94
theorem mm_oq96 : ∀ a, a < 96 → mm_okP a := lt_s mm_oq95 mm_ok_95
theorem mm_oq97 : ∀ a, a < 97 → mm_okP a := lt_s mm_oq96 mm_ok_96
theorem mm_oq98 : ∀ a, a < 98 → mm_okP a := lt_s mm_oq97 mm_ok_97
theorem mm_oq99 : ∀ a, a < 99 → mm_okP a := lt_s mm_oq98 mm_ok_98
theorem mm_oq100 : ∀ a, a < 100 → mm_okP a := lt_s mm_oq99 mm_ok_99
theorem mm_oq101 : ∀ a, a < 101 → mm_okP a := lt_s mm_oq100 mm_ok_100
theorem mm_oq102 : ∀ a, a < 102 → mm_okP a := lt_s mm_oq101 mm_ok_101
theorem mm_oq103 : ∀ a, a < 103 → mm_okP a := lt_s mm_oq102 mm_ok_102
theorem mm_oq104 : ∀ a, a < 104 → mm_okP a := lt_s mm_oq103 mm_ok_103
theorem mm_oq105 : ∀ a, a < 105 → mm_okP a := lt_s mm_oq104 mm_ok_104
theorem mm_oq106 : ∀ a, a < 106 → mm_okP a := lt_s mm_oq105 mm_ok_105
theorem mm_oq107 : ∀ a, a < 107 → mm_okP a := lt_s mm_oq106 mm_ok_106
theorem mm_oq108 : ∀ a, a < 108 → mm_okP a := lt_s mm_oq107 mm_ok_107
theorem mm_oq109 : ∀ a, a < 109 → mm_okP a := lt_s mm_oq108 mm_ok_108
theorem mm_oq110 : ∀ a, a < 110 → mm_okP a := lt_s mm_oq109 mm_ok_109
theorem mm_oq111 : ∀ a, a < 111 → mm_okP a := lt_s mm_oq110 mm_ok_110
theorem mm_oq112 : ∀ a, a < 112 → mm_okP a := lt_s mm_oq111 mm_ok_111
theorem mm_oq113 : ∀ a, a < 113 → mm_okP a := lt_s mm_oq112 mm_ok_112
theorem mm_oq114 : ∀ a, a < 114 → mm_okP a := lt_s mm_oq113 mm_ok_113
theorem mm_oq115 : ∀ a, a < 115 → mm_okP a := lt_s mm_oq114 mm_ok_114
theorem mm_oq116 : ∀ a, a < 116 → mm_okP a := lt_s mm_oq115 mm_ok_115
theorem mm_oq117 : ∀ a, a < 117 → mm_okP a := lt_s mm_oq116 mm_ok_116
theorem mm_oq118 : ∀ a, a < 118 → mm_okP a := lt_s mm_oq117 mm_ok_117
theorem mm_oq119 : ∀ a, a < 119 → mm_okP a := lt_s mm_oq118 mm_ok_118
theorem mm_oq120 : ∀ a, a < 120 → mm_okP a := lt_s mm_oq119 mm_ok_119
theorem mm_oq121 : ∀ a, a < 121 → mm_okP a := lt_s mm_oq120 mm_ok_120
theorem mm_oq122 : ∀ a, a < 122 → mm_okP a := lt_s mm_oq121 mm_ok_121
theorem mm_oq123 : ∀ a, a < 123 → mm_okP a := lt_s mm_oq122 mm_ok_122
theorem mm_oq124 : ∀ a, a < 124 → mm_okP a := lt_s mm_oq123 mm_ok_123
theorem mm_oq125 : ∀ a, a < 125 → mm_okP a := lt_s mm_oq124 mm_ok_124
theorem mm_oq126 : ∀ a, a < 126 → mm_okP a := lt_s mm_oq125 mm_ok_125
theorem mm_oq127 : ∀ a, a < 127 → mm_okP a := lt_s mm_oq126 mm_ok_126
theorem mm_oq128 : ∀ a, a < 128 → mm_okP a := lt_s mm_oq127 mm_ok_127
theorem mm_oq129 : ∀ a, a < 129 → mm_okP a := lt_s mm_oq128 mm_ok_128
theorem mm_oq130 : ∀ a, a < 130 → mm_okP a := lt_s mm_oq129 mm_ok_129
theorem mm_oq131 : ∀ a, a < 131 → mm_okP a := lt_s mm_oq130 mm_ok_130
theorem mm_oq132 : ∀ a, a < 132 → mm_okP a := lt_s mm_oq131 mm_ok_131
theorem mm_oq133 : ∀ a, a < 133 → mm_okP a := lt_s mm_oq132 mm_ok_132
theorem mm_oq134 : ∀ a, a < 134 → mm_okP a := lt_s mm_oq133 mm_ok_133
theorem mm_oq135 : ∀ a, a < 135 → mm_okP a := lt_s mm_oq134 mm_ok_134
theorem mm_oq136 : ∀ a, a < 136 → mm_okP a := lt_s mm_oq135 mm_ok_135
theorem mm_oq137 : ∀ a, a < 137 → mm_okP a := lt_s mm_oq136 mm_ok_136
theorem mm_oq138 : ∀ a, a < 138 → mm_okP a := lt_s mm_oq137 mm_ok_137
theorem mm_oq139 : ∀ a, a < 139 → mm_okP a := lt_s mm_oq138 mm_ok_138
theorem mm_oq140 : ∀ a, a < 140 → mm_okP a := lt_s mm_oq139 mm_ok_139
theorem mm_oq141 : ∀ a, a < 141 → mm_okP a := lt_s mm_oq140 mm_ok_140
theorem mm_oq142 : ∀ a, a < 142 → mm_okP a := lt_s mm_oq141 mm_ok_141
theorem mm_oq143 : ∀ a, a < 143 → mm_okP a := lt_s mm_oq142 mm_ok_142
theorem mm_oq144 : ∀ a, a < 144 → mm_okP a := lt_s mm_oq143 mm_ok_143
theorem mm_oq145 : ∀ a, a < 145 → mm_okP a := lt_s mm_oq144 mm_ok_144
theorem mm_oq146 : ∀ a, a < 146 → mm_okP a := lt_s mm_oq145 mm_ok_145
theorem mm_oq147 : ∀ a, a < 147 → mm_okP a := lt_s mm_oq146 mm_ok_146
theorem mm_oq148 : ∀ a, a < 148 → mm_okP a := lt_s mm_oq147 mm_ok_147
theorem mm_oq149 : ∀ a, a < 149 → mm_okP a := lt_s mm_oq148 mm_ok_148
theorem mm_oq150 : ∀ a, a < 150 → mm_okP a := lt_s mm_oq149 mm_ok_149
theorem mm_oq151 : ∀ a, a < 151 → mm_okP a := lt_s mm_oq150 mm_ok_150
theorem mm_oq152 : ∀ a, a < 152 → mm_okP a := lt_s mm_oq151 mm_ok_151
theorem mm_oq153 : ∀ a, a < 153 → mm_okP a := lt_s mm_oq152 mm_ok_152
theorem mm_oq154 : ∀ a, a < 154 → mm_okP a := lt_s mm_oq153 mm_ok_153
theorem mm_oq155 : ∀ a, a < 155 → mm_okP a := lt_s mm_oq154 mm_ok_154
theorem mm_oq156 : ∀ a, a < 156 → mm_okP a := lt_s mm_oq155 mm_ok_155
theorem mm_oq157 : ∀ a, a < 157 → mm_okP a := lt_s mm_oq156 mm_ok_156
theorem mm_oq158 : ∀ a, a < 158 → mm_okP a := lt_s mm_oq157 mm_ok_157
theorem mm_oq159 : ∀ a, a < 159 → mm_okP a := lt_s mm_oq158 mm_ok_158
theorem mm_oq160 : ∀ a, a < 160 → mm_okP a := lt_s mm_oq159 mm_ok_159
theorem mm_oq161 : ∀ a, a < 161 → mm_okP a := lt_s mm_oq160 mm_ok_160
theorem mm_oq162 : ∀ a, a < 162 → mm_okP a := lt_s mm_oq161 mm_ok_161
theorem mm_oq163 : ∀ a, a < 163 → mm_okP a := lt_s mm_oq162 mm_ok_162
theorem mm_oq164 : ∀ a, a < 164 → mm_okP a := lt_s mm_oq163 mm_ok_163
theorem mm_oq165 : ∀ a, a < 165 → mm_okP a := lt_s mm_oq164 mm_ok_164
theorem mm_oq166 : ∀ a, a < 166 → mm_okP a := lt_s mm_oq165 mm_ok_165
theorem mm_oq167 : ∀ a, a < 167 → mm_okP a := lt_s mm_oq166 mm_ok_166
theorem mm_oq168 : ∀ a, a < 168 → mm_okP a := lt_s mm_oq167 mm_ok_167
theorem mm_oq169 : ∀ a, a < 169 → mm_okP a := lt_s mm_oq168 mm_ok_168
theorem mm_oq170 : ∀ a, a < 170 → mm_okP a := lt_s mm_oq169 mm_ok_169
theorem mm_oq171 : ∀ a, a < 171 → mm_okP a := lt_s mm_oq170 mm_ok_170
theorem mm_oq172 : ∀ a, a < 172 → mm_okP a := lt_s mm_oq171 mm_ok_171
theorem mm_oq173 : ∀ a, a < 173 → mm_okP a := lt_s mm_oq172 mm_ok_172
theorem mm_oq174 : ∀ a, a < 174 → mm_okP a := lt_s mm_oq173 mm_ok_173
theorem mm_okAll (m : Nat) : mm_okM m = true := by
  by_cases h : m < 174
  · exact mm_oq174 m h
  · unfold mm_okM
    rw [show mm_tab.getD m [] = [] from by rw [List.getD_eq_getElem?_getD, List.getElem?_eq_none (by rw [show mm_tab.length = 174 from rfl]; omega)]; rfl]
    rfl
theorem mm_okB (m b : Nat) : mm_okL m (mm_blk m b) = true := by
  have h := List.all_eq_true.mp (mm_okAll m)
  unfold mm_blk
  generalize mm_tab.getD m [] = l at h ⊢
  by_cases hb : b < l.length
  · refine h _ ?_
    rw [List.getD_eq_getElem?_getD, List.getElem?_eq_getElem hb]
    exact List.getElem_mem hb
  · rw [List.getD_eq_getElem?_getD, List.getElem?_eq_none (by omega)]
    rfl
end
section
/-- what an outcome asks for: goes on, jumps, answers, calls -/
def mm_then {α : Type} (o : mmO) (bad : α) (nx : List Value → List Value → mmH → α) (br : Bool → Nat → List Value → α) (jp : Nat → List Value → α) (rt : Option Value → α) (cl : Nat → List Value → List Value → α) : α := match o with
  | .inl _ => bad
  | .inr (.inl (L, S, h)) => nx L S h
  | .inr (.inr (.inl (c, b, S))) => br c b S
  | .inr (.inr (.inr (.inl (b, S)))) => jp b S
  | .inr (.inr (.inr (.inr (.inl v)))) => rt v
  | .inr (.inr (.inr (.inr (.inr (c, as, r))))) => cl c as r
/-- the receiver is there -/
def mm_hr (as : List Value) : Bool := match as with
  | .ref _ :: _ => true
  | _ => false
def mm_run (E : mmE) : Nat → Nat → Nat → List mmI → List Value → List Value → mmH → Option (Option Value × mmH)
  | 0, _, _, _, _, _, _ => none
  | _ + 1, _, _, [], _, _, _ => none
  | f + 1, d, m, i :: is, L, S, h => mm_then (mm_step E L S h i.2.1 i.2.2) none (fun L S h => mm_run E f d m is L S h) (fun c b S => if c then mm_run E f d m (mm_blk m b) L S h else mm_run E f d m is L S h)
      (fun b S => mm_run E f d m (mm_blk m b) L S h) (fun v => some (v, h))
      (fun c as r => match d with
        | 0 => none
        | d' + 1 => if (mm_lay as).length ≤ mm_maxL c ∧ (mm_iss.getD c true || mm_hr as) = true then (match mm_run E f d' c (mm_blk c 0) (mm_ent (mm_maxL c) as) [] h with
          | some (v, h') => mm_run E f d m is L (v.toList ++ r) h'
          | none => none) else none)
def mm_Go (E : mmE) (d m : Nat) (is : List mmI) (L S : List Value) (h : mmH) (Q : Option Value → mmH → Prop) : Prop := ∃ f r h', mm_run E f d m is L S h = some (r, h') ∧ Q r h'
end
section
def mm_cv (dA : Nat → ClassId) (c : mmC) : va_E := match c with
  | .inl (t, x) => .inl (dA t, x)
  | .inr o => .inr o
def mm_A (E : mmE) : Nat → Prop := fun q => E.1 ≤ q
def mm_tys (dA : Nat → ClassId) : List (ClassId × FieldType) := [(dA 0, mm_aty 0), (dA 1, mm_aty 1), (dA 2, mm_aty 2), (dA 3, mm_aty 3), (dA 4, mm_aty 4)]
/-- a cell's contents: bytes are bytes, references stand for objects that may stand there -/
def mm_cok (h : mmH) (c : mmC) : Prop := match c with
  | .inl (t, _, .inl f) => t < 3 ∧ (t = 0 → ∀ j, (f j).toInt8.toInt32 = f j)
  | .inl (t, _, .inr (.inr (.inr (.inr f)))) => (t = 3 ∨ t = 4) ∧ ∀ j y, f j = some y → mm_may h t y = true
  | .inl _ => False
  | .inr _ => True
def mm_sh (c : mmC) : Option Nat := match c with
  | .inl _ => none
  | .inr (ci, _) => some ci
/-- the heap holds the machine's cells -/
def mm_rel (E : mmE) (D : va_G) (dA : Nat → ClassId) (h : mmH) (H : Heap) : Prop := H.size = h.1 ∧ E.1 ≤ h.1 ∧ ∀ a c, h.2.2 a = some c → E.1 ≤ a ∧ va_at D mm_cls (a, mm_cv dA c) H ∧ mm_cok h c
def mm_nest : List Cond := [.methodLinkNest "BoundsPlanner" 74 ⟨"BoundsPlanner$Checker", "faultOfFilter", "(LBoundsPlanner$Node;I)I"⟩ "BoundsPlanner", .methodLinkNest "BoundsPlanner" 90 ⟨"BoundsPlanner$Filter", "<init>", "()V"⟩ "BoundsPlanner", .methodLinkNest "BoundsPlanner" 91 ⟨"BoundsPlanner$Filter", "gather", "(LBoundsPlanner$Node;I)V"⟩ "BoundsPlanner", .methodLinkNest "BoundsPlanner$Interval" 41 ⟨"BoundsPlanner$Order", "compare", "(LBoundsPlanner$Node;LBoundsPlanner$Node;I)I"⟩ "BoundsPlanner"]
def mm_old (E : mmE) (a : Nat) (z : mmZ) (U : State) (H : Heap) : Prop := match z with
  | .inl (t, n, f) => t ≤ 3 ∧ va_T (mm_aty t) a n (fun j => .int (f j)) (mm_A E) U H
  | .inr fs => va_O "java/lang/String" a (mm_A E) U H ∧ va_OF "java/lang/String" "value" "[B" (fs 0) a (mm_A E) U H ∧ va_OF "java/lang/String" "coder" "B" (fs 1) a (mm_A E) U H
/-- what the start gives beside the tables' good words -/
def mm_env (E : mmE) (U : State) (H : Heap) : Prop :=
  (∀ g, g < 3 → va_Z (mm_gs g).1 (mm_gs g).2.1 (mm_gs g).2.2 (E.2.1 g) (mm_A E) U H) ∧
  (∃ mi, E.2.1 3 = .ref mi ∧ va_Mi "[Ljava/lang/Object;" mi U) ∧
  (∀ i o x t, mm_sts[i]? = some (o, x, t) → ∃ a, E.2.1 (10 + i) = .ref a ∧ vk_R o x t a U) ∧
  (∀ g a z, E.2.2 g a = some z → a < E.1 ∧ mm_old E a z U H) ∧
  (∀ w ∈ mm_nest, va_Nw w U) ∧
  (∀ C D, Cond.castable C D ∈ lw_tbl → va_Nw (.castable C D) U) ∧
  va_Dc U ∧ va_AO "java/lang/Object" U ∧ va_AO "BoundsPlanner$Path" U
theorem mm_env.moved {E : mmE} {s U : State} {H H1 : Heap} (hW : s.WarmedH U.vm) (hk : ∀ a : Nat, a < H.size → ¬ mm_A E a → H1[a]? = H[a]?) (h : mm_env E s H) : mm_env E U H1 := by
  obtain ⟨h1, ⟨mi, h2, h2'⟩, h3, h4, h5, h6, h7, h8, h9⟩ := h
  have hal := hW.alike
  refine ⟨fun g hg => ((h1 g hg).moved hal).kept hk, ⟨mi, h2, h2'.moved hal⟩, fun i o x t hi => ?_, fun g a z hz => ⟨(h4 g a z hz).1, ?_⟩, fun w hw => ?_, fun C D hC => va_Nw.warmC hW (h6 C D hC), h7.moved hal, h8.moved hal, h9.moved hal⟩
  · obtain ⟨a, e1, e2⟩ := h3 i o x t hi
    exact ⟨a, e1, vk_R.warm hW e2⟩
  · have h := (h4 g a z hz).2
    match z, h with
    | .inl (t, n, f), h => exact ⟨h.1, (va_T.moved hal h.2).kept hk⟩
    | .inr fs, h => exact ⟨(va_O.moved hal h.1).kept hk, (va_OF.moved hal h.2.1).kept hk, (va_OF.moved hal h.2.2).kept hk⟩
  · have hN := h5 w hw
    simp only [mm_nest, List.mem_cons, List.not_mem_nil, or_false] at hw
    rcases hw with rfl | rfl | rfl | rfl <;> exact va_Nw.warmM hW hN
/-- the locals: a value that stands in the list stands there -/
def mm_loc (L : List Value) (ls : Array Slot) : Prop := ls.size = L.length ∧ lv_wf ls ∧ ∀ (i : Nat) (v : Value), L[i]? = some v → v ≠ mm_un → ls[i]? = some (Slot.val v)
theorem mm_cok.mono {h h' : mmH} {c : mmC} (hm : ∀ t y, mm_may h t y = true → mm_may h' t y = true) (hc : mm_cok h c) : mm_cok h' c := by
  match c, hc with
  | .inl (_, _, .inl _), hc => exact hc
  | .inl (_, _, .inr (.inl _)), hc => exact hc
  | .inl (_, _, .inr (.inr (.inl _))), hc => exact hc
  | .inl (_, _, .inr (.inr (.inr (.inl _)))), hc => exact hc
  | .inl (t, _, .inr (.inr (.inr (.inr f)))), hc => exact ⟨hc.1, fun j y hj => hm t y (hc.2 j y hj)⟩
  | .inr _, _ => trivial
theorem mm_may_sh {h : mmH} {t y : Nat} : mm_may h t y = true ↔ ∃ c ci, h.2.2 y = some c ∧ mm_sh c = some ci ∧ ((t == 3 && ci != 3) || (t == 4 && ci == 1)) = true := by
  unfold mm_may
  cases hy : h.2.2 y with
  | none => simp
  | some c =>
    match c with
    | .inl x => simp [mm_sh]
    | .inr (ci, fs) => simp [mm_sh]
theorem mm_rel.kept {E : mmE} {D : va_G} {dA : Nat → ClassId} {h : mmH} {H H1 : Heap} (hr : mm_rel E D dA h H) (hz : H1.size = H.size) (hq : ∀ q : Nat, H1[q]? = H[q]?) : mm_rel E D dA h H1 := ⟨hz.trans hr.1, hr.2.1, fun a c hc => ⟨(hr.2.2 a c hc).1, (hr.2.2 a c hc).2.1.kept (hq a), (hr.2.2 a c hc).2.2⟩⟩
theorem mm_rel.lt {E : mmE} {D : va_G} {dA : Nat → ClassId} {h : mmH} {H : Heap} (hr : mm_rel E D dA h H) {a : Nat} {c : mmC} (hc : h.2.2 a = some c) : a < h.1 := by
  rw [← hr.1]; exact (hr.2.2 a c hc).2.1.lt
theorem mm_rel.set {E : mmE} {D : va_G} {dA : Nat → ClassId} {h : mmH} {H H1 : Heap} (hr : mm_rel E D dA h H) {a : Nat} {c0 c : mmC} (ha : h.2.2 a = some c0) (hsh : mm_sh c = mm_sh c0) (hok : mm_cok h c) (hz : H1.size = H.size) (hq : ∀ q : Nat, q ≠ a → H1[q]? = H[q]?) (hn : va_at D mm_cls (a, mm_cv dA c) H1) : mm_rel E D dA (mm_set h a c) H1 := by
  have hm : ∀ t y, mm_may h t y = true → mm_may (mm_set h a c) t y = true := by
    intro t y hy
    obtain ⟨c1, ci, e1, e2, e3⟩ := mm_may_sh.mp hy
    refine mm_may_sh.mpr ?_
    by_cases he : y = a
    · subst he
      cases e1.symm.trans ha
      exact ⟨c, ci, va_up_self _ _ _, hsh.trans e2, e3⟩
    · exact ⟨c1, ci, (va_up_ne _ _ he).trans e1, e2, e3⟩
  refine ⟨hz.trans hr.1, hr.2.1, fun b c' hb => ?_⟩
  by_cases he : b = a
  · subst he
    have hb' : va_up h.2.2 b (some c) b = some c' := hb
    rw [va_up_self] at hb'
    cases hb'
    exact ⟨(hr.2.2 b c0 ha).1, hn, hok.mono hm⟩
  · have hb' : va_up h.2.2 a (some c) b = some c' := hb
    rw [va_up_ne _ _ he] at hb'
    exact ⟨(hr.2.2 b c' hb').1, (hr.2.2 b c' hb').2.1.kept (hq b he), (hr.2.2 b c' hb').2.2.mono hm⟩
theorem mm_rel.new {E : mmE} {D : va_G} {dA : Nat → ClassId} {h : mmH} {H H1 : Heap} (hr : mm_rel E D dA h H) {n : Nat} {c : mmC} (hok : mm_cok h c) (hz : H1.size = H.size + 1) (hq : ∀ q : Nat, q < H.size → H1[q]? = H[q]?) (hn : va_at D mm_cls (h.1, mm_cv dA c) H1) : mm_rel E D dA (mm_new h n c) H1 := by
  have hm : ∀ t y, mm_may h t y = true → mm_may (mm_new h n c) t y = true := by
    intro t y hy
    obtain ⟨c1, ci, e1, e2, e3⟩ := mm_may_sh.mp hy
    have he : y ≠ h.1 := Nat.ne_of_lt (hr.lt e1)
    exact mm_may_sh.mpr ⟨c1, ci, (va_up_ne _ _ he).trans e1, e2, e3⟩
  refine ⟨by rw [hz, hr.1]; rfl, Nat.le_succ_of_le hr.2.1, fun b c' hb => ?_⟩
  by_cases he : b = h.1
  · subst he
    have hb' : va_up h.2.2 h.1 (some c) h.1 = some c' := hb
    rw [va_up_self] at hb'
    cases hb'
    exact ⟨hr.2.1, hn, hok.mono hm⟩
  · have hb' : va_up h.2.2 h.1 (some c) b = some c' := hb
    rw [va_up_ne _ _ he] at hb'
    exact ⟨(hr.2.2 b c' hb').1, (hr.2.2 b c' hb').2.1.kept (hq b (by rw [hr.1]; exact hr.lt hb')), (hr.2.2 b c' hb').2.2.mono hm⟩
theorem mm_cok.lt {h : mmH} {t n : Nat} {y : (Nat → Int32) ⊕ (Nat → Int64) ⊕ (Nat → UInt32) ⊕ (Nat → UInt64) ⊕ (Nat → Option Nat)} (hc : mm_cok h (.inl (t, n, y))) : t < 5 := by
  match y, hc with
  | .inl _, hc => have := hc.1; omega
  | .inr (.inl _), hc => exact hc.elim
  | .inr (.inr (.inl _)), hc => exact hc.elim
  | .inr (.inr (.inr (.inl _))), hc => exact hc.elim
  | .inr (.inr (.inr (.inr f))), hc => have := hc.1; omega
end
section
/-- what holds inside a method -/
def mm_cx (E : mmE) (D : va_G) (dA : Nat → ClassId) (p : Program) (s : State) (mth : MethodId) (args : Array Value) (meth : Method) (c : Code) (m : Nat) : Prop :=
  p.tables.exec = Jvm.exec ∧ c.code = mm_by m ∧ meth.sig.returnType = mm_re m ∧ c.maxLocals = mm_maxL m ∧ s.vm.findClass (mm_own m) = some mth.cls ∧ (∀ w ∈ mm_tbl, w.before args s = true) ∧ meth.locks = false ∧ ((mm_y m).name = "<init>" → meth.name = "<init>") ∧ va_K D mm_cls (mm_tys dA) s ∧ mm_env E s s.heap
theorem mm_uw0 : ∀ w ∈ u_ws "BoundsPlanner" mF_0 5, w ∈ mm_tbl := by decide +kernel
theorem mm_uw1 : ∀ w ∈ u_ws "BoundsPlanner$Path" mF_1 5, w ∈ mm_tbl := by decide +kernel
theorem mm_uw2 : ∀ w ∈ u_ws "BoundsPlanner$Reader" mF_2 4, w ∈ mm_tbl := by decide +kernel
theorem mm_uw3 : ∀ w ∈ u_ws "java/util/ArrayList" mF_3 3, w ∈ mm_tbl := by decide +kernel
theorem mm_uw4 : ∀ w ∈ u_ws "BoundsPlanner$Node" mF_4 12, w ∈ mm_tbl := by decide +kernel
theorem mm_uw5 : ∀ w ∈ u_ws "BoundsPlanner$Checker" mF_5 1, w ∈ mm_tbl := by decide +kernel
theorem mm_uw6 : ∀ w ∈ u_ws "BoundsPlanner$End" mF_6 5, w ∈ mm_tbl := by decide +kernel
theorem mm_uw7 : ∀ w ∈ u_ws "BoundsPlanner$Interval" mF_7 2, w ∈ mm_tbl := by decide +kernel
theorem mm_uw8 : ∀ w ∈ u_ws "BoundsPlanner$Clause" mF_8 4, w ∈ mm_tbl := by decide +kernel
theorem mm_uw9 : ∀ w ∈ u_ws "BoundsPlanner$Filter" mF_9 2, w ∈ mm_tbl := by decide +kernel
theorem mm_uw10 : ∀ w ∈ u_ws "BoundsPlannerModel" mF_10 18, w ∈ mm_tbl := by decide +kernel
theorem mm_nmd : ∀ ci, ci < 11 → ∀ q, mm_cls[ci]? = some q → ∀ a, a < q.2.2 → ∀ b, b < q.2.2 → a ≠ b → (q.2.1 a).2.1 ≠ (q.2.1 b).2.1 := by
  intro ci hci q hq
  match ci, hq with
  | 0, hq => cases hq; decide +kernel
  | 1, hq => cases hq; decide +kernel
  | 2, hq => cases hq; decide +kernel
  | 3, hq => cases hq; decide +kernel
  | 4, hq => cases hq; decide +kernel
  | 5, hq => cases hq; decide +kernel
  | 6, hq => cases hq; decide +kernel
  | 7, hq => cases hq; decide +kernel
  | 8, hq => cases hq; decide +kernel
  | 9, hq => cases hq; decide +kernel
  | 10, hq => cases hq; decide +kernel
  | k + 11, _ => omega
theorem mm_tyd : ∀ ci, ci < 11 → ∀ q, mm_cls[ci]? = some q → ∀ k, k < q.2.2 → parseFieldDescriptor (q.2.1 k).2.2.1 = some ((mm_fts.getD ci (fun _ => .int)) k) := by
  intro ci hci q hq
  match ci, hq with
  | 0, hq => cases hq; decide +kernel
  | 1, hq => cases hq; decide +kernel
  | 2, hq => cases hq; decide +kernel
  | 3, hq => cases hq; decide +kernel
  | 4, hq => cases hq; decide +kernel
  | 5, hq => cases hq; decide +kernel
  | 6, hq => cases hq; decide +kernel
  | 7, hq => cases hq; decide +kernel
  | 8, hq => cases hq; decide +kernel
  | 9, hq => cases hq; decide +kernel
  | 10, hq => cases hq; decide +kernel
  | k + 11, _ => omega
theorem mm_dfd : ∀ ci, ci < 11 → ∀ q, mm_cls[ci]? = some q → ∀ k, k < q.2.2 → defaultValue ((mm_fts.getD ci (fun _ => .int)) k) = vp_V (mm_defs ci) k := by
  intro ci hci q hq
  match ci, hq with
  | 0, hq => cases hq; decide +kernel
  | 1, hq => cases hq; decide +kernel
  | 2, hq => cases hq; decide +kernel
  | 3, hq => cases hq; decide +kernel
  | 4, hq => cases hq; decide +kernel
  | 5, hq => cases hq; decide +kernel
  | 6, hq => cases hq; decide +kernel
  | 7, hq => cases hq; decide +kernel
  | 8, hq => cases hq; decide +kernel
  | 9, hq => cases hq; decide +kernel
  | 10, hq => cases hq; decide +kernel
  | k + 11, _ => omega
theorem mm_cls_lt {ci : Nat} {q : vw_C} (h : mm_cls[ci]? = some q) : ci < 11 := (List.getElem?_eq_some_iff.mp h).1
theorem mm_uws {ci : Nat} {C : String} {T : u_T} {N : Nat} (h : mm_cls[ci]? = some (C, T, N)) : ∀ w ∈ u_ws C T N, w ∈ mm_tbl := by
  have hl := mm_cls_lt h
  match ci, h with
  | 0, h => cases h; exact mm_uw0
  | 1, h => cases h; exact mm_uw1
  | 2, h => cases h; exact mm_uw2
  | 3, h => cases h; exact mm_uw3
  | 4, h => cases h; exact mm_uw4
  | 5, h => cases h; exact mm_uw5
  | 6, h => cases h; exact mm_uw6
  | 7, h => cases h; exact mm_uw7
  | 8, h => cases h; exact mm_uw8
  | 9, h => cases h; exact mm_uw9
  | 10, h => cases h; exact mm_uw10
  | k + 11, _ => omega
theorem mm_wdm {k : Nat} {w : Cond} (h : mm_wd k = some w) : w ∈ lw_tbl := List.mem_of_getElem? h
theorem mm_smf : Cond.sameField "java/util/ArrayList" "java/util/AbstractList" "modCount" "I" ∈ mm_tbl := by decide +kernel
theorem mm_fkS {own : String} {idx ci k j : Nat} (h : mm_fk own idx ci k j = true) : ∃ (C : String) (T : u_T) (N : Nat) (r : String), mm_cls[ci]? = some (C, T, N) ∧ k < N ∧ Cond.fieldLink own idx r (T k).2.1 (T k).2.2.1 ∈ mm_tbl ∧ (r = (T k).1 ∨ Cond.sameField r (T k).1 (T k).2.1 (T k).2.2.1 ∈ mm_tbl) := by
  unfold mm_fk at h
  split at h
  · rename_i C T N hc
    rw [Bool.and_eq_true] at h
    obtain ⟨h1, h2⟩ := h
    split at h2
    · rename_i o x r n d hw
      simp only [Bool.and_eq_true, Bool.or_eq_true, decide_eq_true_eq] at h2
      obtain ⟨⟨⟨⟨rfl, rfl⟩, rfl⟩, rfl⟩, h3⟩ := h2
      refine ⟨C, T, N, r, hc, of_decide_eq_true h1, mm_win (mm_wdm hw) rfl, ?_⟩
      rcases h3 with h3 | ⟨⟨⟨⟨e1, e2⟩, e3⟩, e4⟩, e5⟩
      · exact Or.inl h3
      · right
        rw [e4, e5, e3, e1, e2]
        exact mm_smf
    · cases h2
  · cases h
section MR
variable {p : Program} {l : Launch} {e : Env} {R : Room} {s : State} {mth : MethodId} {args : Array Value} {below : List Frame} {meth : Method} {c : Code} {H : Heap} {locs : List Loc} {cells slots : Nat} {Q : State → Prop} {E : mmE} {D : va_G} {dA : Nat → ClassId} {m pc : Nat} {ls : Array Slot} {rest : List Value} {h : mmH}
theorem mr_get (cx : mm_cx E D dA p s mth args meth c m) (hr : mm_rel E D dA h H) {a ci k j idx : Nat} {fs : List Value} {v : Value} (ha : h.2.2 a = some (.inr (ci, fs))) (hk : mm_fk (mm_own m) idx ci k j = true) (hv : fs[k]? = some v) (hdg : decode (mm_by m) pc = .ok (.getfield idx, 3))
    (kk : W p l e R s mth args below meth c H locs cells slots Q (F0 mth (pc + 3) ls (v :: rest))) : W p l e R s mth args below meth c H locs cells slots Q (F0 mth pc ls (.ref a :: rest)) := by
  obtain ⟨hx, hb, -, -, hown, hts, -, -, hK, -⟩ := cx
  obtain ⟨C, T, N, r, hc, hkN, hlink, hsame⟩ := mm_fkS hk
  have hP : va_P D mm_cls [(a, .inr (ci, fs))] H := fun q x hq => by
    have : q < 1 := (List.getElem?_eq_some_iff.mp hq).1
    obtain rfl : q = 0 := by omega
    cases hq
    exact (hr.2.2 a _ ha).2.1
  refine va_get (C := C) (T := T) (N := N) hx hb hts (mm_uws hc) hown hK hP 0 rfl hc k hkN (hts _ hlink) (fun x hxx => ?_) hv hdg kk
  rcases hsame with rfl | hsame
  · exact hxx
  · exact u_same (hts _ hsame) x hxx
theorem mm_fit_ok {t : Nat} {v : Value} {ty : FieldType} (hf : mm_fit t v = true) (ht : mm_tg ty = t) : narrow ty v = v ∧ fits ty v = true := by
  subst ht
  cases ty with
  | int => cases v <;> first | (cases hf; done) | exact ⟨rfl, rfl⟩
  | long => cases v <;> first | (cases hf; done) | exact ⟨rfl, rfl⟩
  | object n => cases v <;> first | (cases hf; done) | exact ⟨rfl, rfl⟩
  | array t => cases v <;> first | (cases hf; done) | exact ⟨rfl, rfl⟩
  | boolean =>
    cases v with
    | int x =>
      have h2 : (decide (x = 0) || decide (x = 1)) = true := hf
      simp only [Bool.or_eq_true, decide_eq_true_eq] at h2
      rcases h2 with rfl | rfl <;> exact ⟨rfl, rfl⟩
    | _ => cases hf
  | byte =>
    cases v with
    | int x =>
      have h2 : x.toInt8.toInt32 = x := of_decide_eq_true hf
      rw [← h2]
      exact ⟨pk_nb x, pk_fb x⟩
    | _ => cases hf
  | char =>
    cases v with
    | int x =>
      have h2 : (x.toUInt32 % 65536).toInt32 = x := of_decide_eq_true hf
      rw [← h2]
      exact ⟨pk_nc x, pk_fc x⟩
    | _ => cases hf
  | _ => cases v <;> cases hf
theorem mr_put (cx : mm_cx E D dA p s mth args meth c m) (hr : mm_rel E D dA h H) (hS : va_S (mm_A E) s.heap H locs) {a ci k j idx t : Nat} {fs : List Value} {v : Value} (ha : h.2.2 a = some (.inr (ci, fs))) (hk : mm_fk (mm_own m) idx ci k j = true) (hp : mm_pk m ci k t = true) (hl : k < fs.length) (hf : mm_fit t v = true) (hdg : decode (mm_by m) pc = .ok (.putfield idx, 3))
    (kk : ∀ (H1 : Heap) (locs1 : List Loc), mm_rel E D dA (mm_set h a (.inr (ci, fs.set k v))) H1 → va_S (mm_A E) s.heap H1 locs1 → W p l e R s mth args below meth c H1 locs1 cells slots Q (F0 mth (pc + 3) ls rest)) : W p l e R s mth args below meth c H locs cells slots Q (F0 mth pc ls (v :: .ref a :: rest)) := by
  obtain ⟨hx, hb, -, -, hown, hts, -, hin, hK, -⟩ := cx
  obtain ⟨C, T, N, r, hc, hkN, hlink, hsame⟩ := mm_fkS hk
  have hci := mm_cls_lt hc
  have hA := (hr.2.2 a _ ha).1
  have hst : ∀ x, s.fieldFound? (T k).1 (T k).2.1 (T k).2.2.1 = some x → s.fieldFound? r (T k).2.1 (T k).2.2.1 = some x := fun x hxx => by
    rcases hsame with rfl | hsame
    · exact hxx
    · exact u_same (hts _ hsame) x hxx
  have hd := mm_tyd ci hci _ hc k hkN
  unfold mm_pk at hp
  rw [hc] at hp
  simp only [Bool.and_eq_true, decide_eq_true_eq, Bool.or_eq_true, Bool.not_eq_true'] at hp
  obtain ⟨ht, hfin⟩ := hp
  obtain ⟨hn, hfit⟩ := mm_fit_ok hf ht
  have hap := va_apart (own := mm_own m) hts (mm_uws hc) _ (mm_tyd ci hci _ hc) (mm_nmd ci hci _ hc) hK hc
  obtain ⟨q', h1, cell, q1, q2, q3, q4⟩ := (hr.2.2 a _ ha).2.1
  have hq' : q' = (C, T, N) := Option.some.inj (h1.symm.trans hc)
  subst hq'
  obtain ⟨hSl, hfc, kC, hkC, hkind⟩ := hK.1 ci _ hc
  obtain ⟨cf, kf, fi, f, hi, hsl⟩ := hSl k hkN
  have hlay := hts _ (mm_uws hc _ (u_in_lay hkN))
  have hstt := (u_facts hfc hkC (u_lays hts (mm_uws hc) hkN) hi).1
  have hend : ∀ (H1 : Heap), H1[a]? = some (cell.setSlot f.slot v) → H1.size = H.size → (∀ q, q ≠ a → H1[q]? = H[q]?) → W p l e R s mth args below meth c H1 (locs ++ [⟨a, f.slot⟩]) cells slots Q (F0 mth (pc + 3) ls rest) := by
    intro H1 e1 e2 e3
    refine kk H1 _ (hr.set ha rfl trivial e2 e3 ?_) (hS.put e2 e3 hA)
    rw [hsl] at e1
    exact ⟨_, hc, t_OB.to (V := updV (vp_V fs) k v) ⟨_, e1, q2, q3, t_set q4 hap hkN v⟩ (fun j _ => vp_updV_set hl v j)⟩
  unfold u_lay at hlay
  rcases hfin with hfin | ⟨hf1, hf2⟩
  · rw [if_neg (by rw [hfin]; decide)] at hlay
    have h6 := u_store hfc hkC hkind hlay hi hd hn hfit
    exact W.putK hx hb (f := f) ⟨hown, hts _ hlink, ⟨_, _, _, hst _ hi⟩, hstt⟩ (by rw [q2]; exact h6) q1 q3 (by rw [hsl]; exact k2_hasslot (q4 k hkN)) rfl rfl hdg hend
  · by_cases hfl : (T k).2.2.2 = true
    · rw [if_pos hfl] at hlay
      have hcf : mth.cls = cf := by
        obtain ⟨_, _, c', _, _, _, -, -, hf', -, -, -, hown2, -⟩ := Cond.laysFinal_spec hlay
        have e1 : c' = cf := by have := hi.symm.trans hf'; simp at this; exact this.1.symm
        rw [hf2] at hown2
        rw [← e1]; exact Option.some.inj (hown.symm.trans hown2)
      have h6 := u_fits hfc hkC hkind (Or.inr hlay) hi hd hn hfit
      exact W.putFinK hx hb hown (hts _ hlink) (hst _ hi) hstt hcf (hin hf1) (by rw [q2]; exact h6) q1 q3 (by rw [hsl]; exact k2_hasslot (q4 k hkN)) rfl rfl hdg hend
    · rw [if_neg hfl] at hlay
      have h6 := u_store hfc hkC hkind hlay hi hd hn hfit
      exact W.putK hx hb (f := f) ⟨hown, hts _ hlink, ⟨_, _, _, hst _ hi⟩, hstt⟩ (by rw [q2]; exact h6) q1 q3 (by rw [hsl]; exact k2_hasslot (q4 k hkN)) rfl rfl hdg hend
end MR
end
section
section MR
variable {p : Program} {l : Launch} {e : Env} {R : Room} {s : State} {mth : MethodId} {args : Array Value} {below : List Frame} {meth : Method} {c : Code} {H : Heap} {locs : List Loc} {cells slots : Nat} {Q : State → Prop} {E : mmE} {D : va_G} {dA : Nat → ClassId} {m pc : Nat} {ls : Array Slot} {rest : List Value} {h : mmH}
theorem mr_P1 {a : Nat} {x : va_E} (hx : va_at D mm_cls (a, x) H) : va_P D mm_cls [(a, x)] H := fun q y hq => by
  have : q < 1 := (List.getElem?_eq_some_iff.mp hq).1
  obtain rfl : q = 0 := by omega
  cases hq
  exact hx
theorem mr_ty {t : Nat} (ht : t < 5) : (mm_tys dA)[t]? = some (dA t, mm_aty t) := by
  match t, ht with
  | 0, _ => rfl
  | 1, _ => rfl
  | 2, _ => rfl
  | 3, _ => rfl
  | 4, _ => rfl
theorem mr_in {i : Int32} {n : Nat} (h : mm_in i n = true) : vp_in i n := by
  simp only [mm_in, decide_eq_true_eq] at h
  exact h
theorem mr_out (hS : va_S (mm_A E) s.heap H locs) : ∀ a : Nat, a < s.heap.size → ¬ mm_A E a → H[a]? = s.heap[a]? := hS.2.1
theorem mr_iald (cx : mm_cx E D dA p s mth args meth c m) (hr : mm_rel E D dA h H) (hS : va_S (mm_A E) s.heap H locs) {a n : Nat} {f : Nat → Int32} {i : Int32} (ha : mm_aI E h a = some (1, n, f)) (hin : mm_in i n = true) (hdg : decode (mm_by m) pc = .ok (.iaload, 1))
    (kk : W p l e R s mth args below meth c H locs cells slots Q (F0 mth (pc + 1) ls (.int (f i.toNatClampNeg) :: rest))) : W p l e R s mth args below meth c H locs cells slots Q (F0 mth pc ls (.int i :: .ref a :: rest)) := by
  obtain ⟨hx, hb, -, -, hown, hts, -, -, hK, hE⟩ := cx
  have hi := mr_in hin
  unfold mm_aI at ha
  cases hc : h.2.2 a with
  | none =>
    rw [hc] at ha
    dsimp only at ha
    cases hz : E.2.2 0 a with
    | none => rw [hz] at ha; cases ha
    | some z =>
      rw [hz] at ha
      match z, hz, ha with
      | .inl x, hz, ha =>
        cases ha
        exact va_ti hx hb ((hE.2.2.2.1 0 a _ hz).2.2) hS hi rfl hdg kk
      | .inr x, hz, ha => cases ha
  | some z =>
    rw [hc] at ha
    match z, hc, ha with
    | .inl (t, n', .inl f'), hc, ha =>
      cases ha
      exact va_iald hx hb hK (mr_P1 (hr.2.2 a _ hc).2.1) 0 1 rfl rfl hi hdg kk
    | .inl (t, n', .inr z), hc, ha => cases ha
    | .inr z, hc, ha => cases ha
theorem mr_bald (cx : mm_cx E D dA p s mth args meth c m) (hr : mm_rel E D dA h H) (hS : va_S (mm_A E) s.heap H locs) {a t n : Nat} {f : Nat → Int32} {i : Int32} (ha : mm_aI E h a = some (t, n, f)) (ht : t = 0 ∨ t = 2) (hin : mm_in i n = true) (hdg : decode (mm_by m) pc = .ok (.baload, 1))
    (kk : W p l e R s mth args below meth c H locs cells slots Q (F0 mth (pc + 1) ls (.int (f i.toNatClampNeg) :: rest))) : W p l e R s mth args below meth c H locs cells slots Q (F0 mth pc ls (.int i :: .ref a :: rest)) := by
  obtain ⟨hx, hb, -, -, hown, hts, -, -, hK, hE⟩ := cx
  have hi := mr_in hin
  unfold mm_aI at ha
  cases hc : h.2.2 a with
  | none =>
    rw [hc] at ha
    dsimp only at ha
    cases hz : E.2.2 0 a with
    | none => rw [hz] at ha; cases ha
    | some z =>
      rw [hz] at ha
      match z, hz, ha with
      | .inl x, hz, ha =>
        cases ha
        rcases ht with rfl | rfl
        · exact va_tb hx hb ((hE.2.2.2.1 0 a _ hz).2.2) hS hi rfl hdg kk
        · exact va_tz hx hb ((hE.2.2.2.1 0 a _ hz).2.2) hS hi rfl hdg kk
      | .inr x, hz, ha => cases ha
  | some z =>
    rw [hc] at ha
    match z, hc, ha with
    | .inl (t, n', .inl f'), hc, ha =>
      cases ha
      rcases ht with rfl | rfl
      · exact va_bald hx hb hK (mr_P1 (hr.2.2 a _ hc).2.1) 0 0 rfl rfl hi hdg kk
      · exact va_zald hx hb hK (mr_P1 (hr.2.2 a _ hc).2.1) 0 2 rfl rfl hi hdg kk
    | .inl (t, n', .inr z), hc, ha => cases ha
    | .inr z, hc, ha => cases ha
theorem mr_tcase {t : Nat} {x : vp_A} (hr : mm_rel E D dA h H) {a : Nat} (hc : h.2.2 a = some (.inl (t, x))) : H[a]? = some (vp_cell (dA t) x) := (hr.2.2 a _ hc).2.1
theorem mr_alen (cx : mm_cx E D dA p s mth args meth c m) (hr : mm_rel E D dA h H) (hS : va_S (mm_A E) s.heap H locs) {a n : Nat} (ha : mm_len E h a = some n) (hdg : decode (mm_by m) pc = .ok (.arraylength, 1))
    (kk : W p l e R s mth args below meth c H locs cells slots Q (F0 mth (pc + 1) ls (.int (Int32.ofNat n) :: rest))) : W p l e R s mth args below meth c H locs cells slots Q (F0 mth pc ls (.ref a :: rest)) := by
  obtain ⟨hx, hb, -, -, hown, hts, -, -, hK, hE⟩ := cx
  unfold mm_len at ha
  cases hc : h.2.2 a with
  | none =>
    rw [hc] at ha
    dsimp only at ha
    cases hz : E.2.2 0 a with
    | none => rw [hz] at ha; cases ha
    | some z =>
      rw [hz] at ha
      match z, hz, ha with
      | .inl x, hz, ha =>
        cases ha
        exact va_tlen hx hb ((hE.2.2.2.1 0 a _ hz).2.2) hS rfl hdg kk
      | .inr x, hz, ha => cases ha
  | some z =>
    rw [hc] at ha
    match z, hc, ha with
    | .inl (t, n', y), hc, ha =>
      cases ha
      exact va_alen hx hb hK (mr_P1 (hr.2.2 a _ hc).2.1) 0 t rfl (mr_ty (hr.2.2 a _ hc).2.2.lt) rfl hdg kk
    | .inr z, hc, ha => cases ha
theorem mr_iast (cx : mm_cx E D dA p s mth args meth c m) (hr : mm_rel E D dA h H) (hS : va_S (mm_A E) s.heap H locs) {a n : Nat} {f : Nat → Int32} {i x : Int32} (ha : h.2.2 a = some (.inl (1, n, .inl f))) (hin : mm_in i n = true) (hdg : decode (mm_by m) pc = .ok (.iastore, 1))
    (kk : ∀ (H1 : Heap) (locs1 : List Loc), mm_rel E D dA (mm_set h a (.inl (1, n, .inl (upd f i.toNatClampNeg x)))) H1 → va_S (mm_A E) s.heap H1 locs1 → W p l e R s mth args below meth c H1 locs1 cells slots Q (F0 mth (pc + 1) ls rest)) : W p l e R s mth args below meth c H locs cells slots Q (F0 mth pc ls (.int x :: .int i :: .ref a :: rest)) := by
  obtain ⟨hx, hb, -, -, hown, hts, -, -, hK, hE⟩ := cx
  have hA := (hr.2.2 a _ ha).1
  refine W.iast hx hb (mr_tcase hr ha) ((hK.2 1 _ rfl).1 n (fun j => .int (f j))) (fun q => by cases q) (by show ¬ (i < 0 ∨ (arrV _ _ _).slots.size ≤ _); rw [arrV_size]; exact mr_in hin) rfl rfl hdg fun H1 e z oq => ?_
  refine kk H1 _ (hr.set ha rfl ⟨by decide, fun h0 => by cases h0⟩ z oq ?_) (hS.put z oq hA)
  show H1[a]? = some (vp_cell _ _)
  rw [e]
  rw [vp_cell_i, vp_cell_i, arrV_store]
  congr 2
  funext q
  by_cases hq : q = i.toNatClampNeg
  · subst hq
    simp [updV, upd]
  · simp [updV, upd, hq]
theorem mr_bast (cx : mm_cx E D dA p s mth args meth c m) (hr : mm_rel E D dA h H) (hS : va_S (mm_A E) s.heap H locs) {a t n : Nat} {f : Nat → Int32} {i x : Int32} (ha : h.2.2 a = some (.inl (t, n, .inl f))) (ht : t = 0 ∨ t = 2) (hin : mm_in i n = true) (hdg : decode (mm_by m) pc = .ok (.bastore, 1))
    (kk : ∀ (H1 : Heap) (locs1 : List Loc), mm_rel E D dA (mm_set h a (.inl (t, n, .inl (upd f i.toNatClampNeg (mm_nar t x))))) H1 → va_S (mm_A E) s.heap H1 locs1 → W p l e R s mth args below meth c H1 locs1 cells slots Q (F0 mth (pc + 1) ls rest)) : W p l e R s mth args below meth c H locs cells slots Q (F0 mth pc ls (.int x :: .int i :: .ref a :: rest)) := by
  obtain ⟨hx, hb, -, -, hown, hts, -, -, hK, hE⟩ := cx
  have hA := (hr.2.2 a _ ha).1
  have hok := (hr.2.2 a _ ha).2.2
  rcases ht with rfl | rfl
  · refine W.bast hx hb (mr_tcase hr ha) ((hK.2 0 _ rfl).1 n (fun j => .int (f j))) (fun q => by cases q) (by show ¬ (i < 0 ∨ (arrV _ _ _).slots.size ≤ _); rw [arrV_size]; exact mr_in hin) rfl rfl hdg fun H1 e z oq => ?_
    refine kk H1 _ (hr.set ha rfl ⟨by decide, fun h0 j => ?_⟩ z oq ?_) (hS.put z oq hA)
    · by_cases hj : j = i.toNatClampNeg
      · subst hj
        simp only [upd, if_true, mm_nar, vp_nar_byte]
        exact pk_vb x
      · simp only [upd, hj, if_false]
        exact hok.2 rfl j
    · show H1[a]? = some (vp_cell _ _)
      rw [e]
      rw [vp_cell_i, vp_cell_i, arrV_store]
      congr 2
      funext q
      by_cases hq : q = i.toNatClampNeg
      · subst hq
        simp [updV, upd, mm_nar, vp_nar]
        try rfl
      · simp [updV, upd, hq]
  · refine W.zast hx hb (mr_tcase hr ha) ((hK.2 2 _ rfl).1 n (fun j => .int (f j))) (fun q => by cases q) (by show ¬ (i < 0 ∨ (arrV _ _ _).slots.size ≤ _); rw [arrV_size]; exact mr_in hin) rfl rfl hdg fun H1 e z oq => ?_
    refine kk H1 _ (hr.set ha rfl ⟨by decide, fun h0 => by cases h0⟩ z oq ?_) (hS.put z oq hA)
    · show H1[a]? = some (vp_cell _ _)
      rw [e]
      rw [vp_cell_i, vp_cell_i, arrV_store]
      congr 2
      funext q
      by_cases hq : q = i.toNatClampNeg
      · subst hq
        simp [updV, upd, mm_nar, vp_nar]
        try rfl
      · simp [updV, upd, hq]
theorem mr_aald (cx : mm_cx E D dA p s mth args meth c m) (hr : mm_rel E D dA h H) {a t n : Nat} {f : Nat → Option Nat} {i : Int32} (ha : h.2.2 a = some (.inl (t, n, .inr (.inr (.inr (.inr f)))))) (hin : mm_in i n = true) (hdg : decode (mm_by m) pc = .ok (.aaload, 1))
    (kk : W p l e R s mth args below meth c H locs cells slots Q (F0 mth (pc + 1) ls (va_rf (f i.toNatClampNeg) :: rest))) : W p l e R s mth args below meth c H locs cells slots Q (F0 mth pc ls (.int i :: .ref a :: rest)) := by
  obtain ⟨hx, hb, -, -, hown, hts, -, -, hK, hE⟩ := cx
  rcases (hr.2.2 a _ ha).2.2.1 with rfl | rfl
  · exact va_aldq hx hb hK (mr_P1 (hr.2.2 a _ ha).2.1) 0 3 rfl rfl (mr_in hin) hdg kk
  · exact va_aldq hx hb hK (mr_P1 (hr.2.2 a _ ha).2.1) 0 4 rfl rfl (mr_in hin) hdg kk
end MR
end
section
section MR
variable {p : Program} {l : Launch} {e : Env} {R : Room} {s : State} {mth : MethodId} {args : Array Value} {below : List Frame} {meth : Method} {c : Code} {H : Heap} {locs : List Loc} {cells slots : Nat} {Q : State → Prop} {E : mmE} {D : va_G} {dA : Nat → ClassId} {m pc : Nat} {ls : Array Slot} {rest : List Value} {h : mmH}
theorem mr_obj (hK : va_K D mm_cls (mm_tys dA) s) (hr : mm_rel E D dA h H) {a ci : Nat} {fs : List Value} (ha : h.2.2 a = some (.inr (ci, fs))) : ∃ (C : String) (T : u_T) (N : Nat) (cell : Cell), mm_cls[ci]? = some (C, T, N) ∧ H[a]? = some cell ∧ cell.vm.isStatics = false ∧ s.vm.findClass C = some cell.cls := by
  obtain ⟨q, h1, -⟩ := (hr.2.2 a _ ha).2.1
  obtain ⟨cell, g1, g2, g3⟩ := va_recv hK (mr_P1 (hr.2.2 a _ ha).2.1) h1 (q0 := 0) rfl
  obtain ⟨C, T, N⟩ := q
  exact ⟨C, T, N, cell, h1, g1, g2, g3⟩
theorem mm_casO : ∀ ci, ci < 11 → ci ≠ 3 → ∀ q, mm_cls[ci]? = some q → Cond.castable q.1 "java/lang/Object" ∈ lw_tbl := by
  intro ci hci h3 q hq
  match ci, hq with
  | 0, hq => cases hq; decide +kernel
  | 1, hq => cases hq; decide +kernel
  | 2, hq => cases hq; decide +kernel
  | 3, hq => exact absurd rfl h3
  | 4, hq => cases hq; decide +kernel
  | 5, hq => cases hq; decide +kernel
  | 6, hq => cases hq; decide +kernel
  | 7, hq => cases hq; decide +kernel
  | 8, hq => cases hq; decide +kernel
  | 9, hq => cases hq; decide +kernel
  | 10, hq => cases hq; decide +kernel
  | k + 11, _ => omega
end MR
section MR
variable {p : Program} {l : Launch} {e : Env} {R : Room} {s : State} {mth : MethodId} {args : Array Value} {below : List Frame} {meth : Method} {c : Code} {H : Heap} {locs : List Loc} {cells slots : Nat} {Q : State → Prop} {E : mmE} {D : va_G} {dA : Nat → ClassId} {m pc : Nat} {ls : Array Slot} {rest : List Value} {h : mmH}
theorem mr_any (hK : va_K D mm_cls (mm_tys dA) s) (hE : mm_env E s s.heap) (hr : mm_rel E D dA h H) {t y : Nat} (hm : mm_may h t y = true) : va_Any (mm_obn t) s H y := by
  unfold mm_may at hm
  cases hc : h.2.2 y with
  | none => rw [hc] at hm; cases hm
  | some z =>
    rw [hc] at hm
    match z, hc, hm with
    | .inl x, hc, hm => cases hm
    | .inr (ci, fs), hc, hm =>
      obtain ⟨C, T, N, cell, h1, g1, g2, g3⟩ := mr_obj hK hr hc
      obtain ⟨kC, hkC, -⟩ := Vm.findClass_spec g3
      simp only [Bool.or_eq_true, Bool.and_eq_true, beq_iff_eq, bne_iff_ne, ne_eq] at hm
      refine ⟨cell, g1, g2, ⟨kC, hkC⟩, fun comp hcomp => ?_⟩
      rcases hm with ⟨rfl, h3⟩ | ⟨rfl, rfl⟩
      · obtain ⟨c0, t0, f1, f2, f3⟩ := Cond.castable_spec (va_Nw.use (A := #[]) rfl (hE.2.2.2.2.2.1 _ _ (mm_casO ci (mm_cls_lt h1) h3 _ h1)))
        cases f1.symm.trans g3
        cases f2.symm.trans hcomp
        exact f3
      · cases h1
        cases g3.symm.trans hcomp
        exact va_asg _ _
theorem mr_aast (cx : mm_cx E D dA p s mth args meth c m) (hr : mm_rel E D dA h H) (hS : va_S (mm_A E) s.heap H locs) {a t n v : Nat} {f : Nat → Option Nat} {i : Int32} (ha : h.2.2 a = some (.inl (t, n, .inr (.inr (.inr (.inr f)))))) (hm : mm_may h t v = true) (hin : mm_in i n = true) (hdg : decode (mm_by m) pc = .ok (.aastore, 1))
    (kk : ∀ (H1 : Heap) (locs1 : List Loc), mm_rel E D dA (mm_set h a (.inl (t, n, .inr (.inr (.inr (.inr (va_up f i.toNatClampNeg (some v)))))))) H1 → va_S (mm_A E) s.heap H1 locs1 → W p l e R s mth args below meth c H1 locs1 cells slots Q (F0 mth (pc + 1) ls rest)) : W p l e R s mth args below meth c H locs cells slots Q (F0 mth pc ls (.ref v :: .int i :: .ref a :: rest)) := by
  obtain ⟨hx, hb, -, -, hown, hts, -, -, hK, hE⟩ := cx
  have hA := (hr.2.2 a _ ha).1
  have hok := (hr.2.2 a _ ha).2.2
  have hi := mr_in hin
  have hlt : i.toNatClampNeg < n := Nat.not_le.mp fun q => hi (Or.inr q)
  have h0 : ¬ i < 0 := fun q => hi (Or.inl q)
  obtain ⟨cellV, g1, g3, ⟨kC, hkC⟩, hasg⟩ := mr_any hK hE hr hm
  have hRA : va_RA s (dA t) (.object (mm_obn t)) := by
    rcases hok.1 with rfl | rfl
    · exact (hK.2 3 _ rfl).2
    · exact (hK.2 4 _ rfl).2
  obtain ⟨kA, comp, k1, k2, k3, -⟩ := hRA
  obtain ⟨kE, hkE, -⟩ := Vm.findClass_spec k3
  refine W.aast hx hb (mr_tcase hr ha) (fun q h => by cases h) (fun h => by cases h) k1 k2 rfl hkE ⟨h0, by show _ < (arrV _ _ _).slots.size; rw [arrV_size]; exact hlt⟩ g1 (fun q h => by rw [h] at g3; cases g3) hkC (hasg _ k3) rfl rfl hdg fun H1 e z oq => ?_
  refine kk H1 _ (hr.set ha rfl ⟨hok.1, fun j y hj => ?_⟩ z oq ?_) (hS.put z oq hA)
  · by_cases hq : j = i.toNatClampNeg
    · subst hq
      rw [va_up_self] at hj
      cases hj
      exact hm
    · rw [va_up_ne _ _ hq] at hj
      exact hok.2 j y hj
  · show H1[a]? = some (vp_cell _ _)
    rw [e]
    rw [vp_cell_q, vp_cell_q, arrV_store]
    congr 2
    funext q
    by_cases hq : q = i.toNatClampNeg
    · subst hq
      simp [updV, va_up, va_rf]
    · simp [updV, va_up, hq]
theorem mr_aastN (cx : mm_cx E D dA p s mth args meth c m) (hr : mm_rel E D dA h H) (hS : va_S (mm_A E) s.heap H locs) {a t n : Nat} {f : Nat → Option Nat} {i : Int32} (ha : h.2.2 a = some (.inl (t, n, .inr (.inr (.inr (.inr f)))))) (hin : mm_in i n = true) (hdg : decode (mm_by m) pc = .ok (.aastore, 1))
    (kk : ∀ (H1 : Heap) (locs1 : List Loc), mm_rel E D dA (mm_set h a (.inl (t, n, .inr (.inr (.inr (.inr (va_up f i.toNatClampNeg none))))))) H1 → va_S (mm_A E) s.heap H1 locs1 → W p l e R s mth args below meth c H1 locs1 cells slots Q (F0 mth (pc + 1) ls rest)) : W p l e R s mth args below meth c H locs cells slots Q (F0 mth pc ls (.null :: .int i :: .ref a :: rest)) := by
  obtain ⟨hx, hb, -, -, hown, hts, -, -, hK, hE⟩ := cx
  have hA := (hr.2.2 a _ ha).1
  have hok := (hr.2.2 a _ ha).2.2
  have hAr : ArrOfT s (dA t) (.object (mm_obn t)) := by
    rcases hok.1 with rfl | rfl
    · exact (hK.2 3 _ rfl).1
    · exact (hK.2 4 _ rfl).1
  refine va_WaastN (C := mm_obn t) hx hb (mr_tcase hr ha) (hAr n (fun j => va_rf (f j))) (fun h => by cases h) (by show ¬ (i < 0 ∨ (arrV _ _ _).slots.size ≤ _); rw [arrV_size]; exact mr_in hin) rfl rfl hdg fun H1 e z oq => ?_
  refine kk H1 _ (hr.set ha rfl ⟨hok.1, fun j y hj => ?_⟩ z oq ?_) (hS.put z oq hA)
  · by_cases hq : j = i.toNatClampNeg
    · subst hq
      rw [va_up_self] at hj
      cases hj
    · rw [va_up_ne _ _ hq] at hj
      exact hok.2 j y hj
  · show H1[a]? = some (vp_cell _ _)
    rw [e]
    rw [vp_cell_q, vp_cell_q, arrV_store]
    congr 2
    funext q
    by_cases hq : q = i.toNatClampNeg
    · subst hq
      simp [updV, va_up, va_rf]
    · simp [updV, va_up, hq]
theorem mr_S1 {H1 : Heap} (hS : va_S (mm_A E) s.heap H locs) (hz : H1.size = H.size + 1) (o1 : ∀ q : Nat, q < H.size → H1[q]? = H[q]?) : va_S (mm_A E) s.heap H1 locs := ⟨Nat.le_trans hS.1 (by omega), fun x h1 h2 => (o1 x (Nat.lt_of_lt_of_le h1 hS.1)).trans (hS.2.1 x h1 h2), hS.2.2⟩
theorem mr_new (cx : mm_cx E D dA p s mth args meth c m) (hr : mm_rel E D dA h H) (hS : va_S (mm_A E) s.heap H locs) {ci idx N : Nat} {C : String} {T : u_T} (hc : mm_cls[ci]? = some (C, T, N)) (hl : Cond.classLink (mm_own m) idx C ∈ mm_tbl) (hi : Cond.instantiable C N ∈ mm_tbl) (hn : Cond.initialized C ∈ mm_tbl) (hcells : cells + 1 ≤ R.cells) (hslots : slots + N ≤ R.slots) (hdg : decode (mm_by m) pc = .ok (.new idx, 3))
    (kk : ∀ (H1 : Heap), mm_rel E D dA (mm_new h N (.inr (ci, mm_defs ci))) H1 → va_S (mm_A E) s.heap H1 locs → W p l e R s mth args below meth c H1 locs (cells + 1) (slots + N) Q (F0 mth (pc + 3) ls (.ref h.1 :: rest))) : W p l e R s mth args below meth c H locs cells slots Q (F0 mth pc ls rest) := by
  obtain ⟨hx, hb, -, -, hown, hts, -, -, hK, hE⟩ := cx
  have hKn := hK.1 ci _ hc
  refine W.newcK hx hb hown (hts _ hl) (hts _ hi) (hts _ hn) rfl hdg hcells hslots hKn.2.1 hr.1 fun H1 kC hkC e1 z1 o1 => ?_
  rw [← hr.1] at z1 o1
  exact kk H1 (hr.new trivial z1 o1 ⟨_, hc, (u_born _ hts (mm_uws hc) hKn hkC e1 (mm_tyd ci (mm_cls_lt hc) _ hc)).to (mm_dfd ci (mm_cls_lt hc) _ hc)⟩) (mr_S1 hS z1 o1)
theorem mr_newa (cx : mm_cx E D dA p s mth args meth c m) (hr : mm_rel E D dA h H) (hS : va_S (mm_A E) s.heap H locs) {t : Nat} {at_ : ArrayType} {n : Int32} (ht : t < 3) (hty : newarray.typeOf at_ = mm_aty t) (hn : ¬ (n < 0 ∨ 1000000 < n)) (hcells : cells + 1 ≤ R.cells) (hslots : slots + n.toNatClampNeg ≤ R.slots) (hdg : decode (mm_by m) pc = .ok (.newarray at_, 2))
    (kk : ∀ (H1 : Heap), mm_rel E D dA (mm_new h n.toNatClampNeg (.inl (t, n.toNatClampNeg, .inl fun _ => 0))) H1 → va_S (mm_A E) s.heap H1 locs → W p l e R s mth args below meth c H1 locs (cells + 1) (slots + n.toNatClampNeg) Q (F0 mth (pc + 2) ls (.ref h.1 :: rest))) : W p l e R s mth args below meth c H locs cells slots Q (F0 mth pc ls (.int n :: rest)) := by
  obtain ⟨hx, hb, -, -, hown, hts, -, -, hK, hE⟩ := cx
  have harr : (Cond.arrayClass (newarray.typeOf at_)).before args s = true := by
    rw [hty]
    refine hts _ ?_
    match t, ht with
    | 0, _ => decide +kernel
    | 1, _ => decide +kernel
    | 2, _ => decide +kernel
  have hle : n.toNatClampNeg ≤ 1000000 := by
    have h2 : ¬ (1000000 : Int32) < n := fun q => hn (Or.inr q)
    rw [Int32.lt_iff_toInt_lt] at h2
    show n.toInt.toNat ≤ 1000000
    have : (1000000 : Int32).toInt = 1000000 := by decide
    omega
  have hcb : componentBytes (newarray.typeOf at_) ≤ 8 := by cases at_ <;> decide
  have hbytes : n.toNatClampNeg * componentBytes (newarray.typeOf at_) ≤ 536870912 := Nat.le_trans (Nat.mul_le_mul hle hcb) (by decide)
  refine va_newaK hx hb harr rfl hdg rfl (fun q => hn (Or.inl q)) rfl hbytes hcells hslots hr.1 fun H1 cA e1 z1 o1 hAr hNm => ?_
  rw [← hr.1] at z1 o1
  have hcA : cA = dA t := by
    have h2 := (hK.2 t _ (mr_ty (by omega))).2
    rw [hty] at hNm
    match t, ht, h2, hNm with
    | 0, _, h2, hNm => exact Option.some.inj (hNm.symm.trans h2)
    | 1, _, h2, hNm => exact Option.some.inj (hNm.symm.trans h2)
    | 2, _, h2, hNm => exact Option.some.inj (hNm.symm.trans h2)
  subst hcA
  refine kk H1 (hr.new ⟨ht, fun _ _ => rfl⟩ z1 o1 ?_) (mr_S1 hS z1 o1)
  show H1[h.1]? = some (vp_cell _ _)
  rw [e1, vp_cell_i, hty]
  match t, ht with
  | 0, _ => rfl
  | 1, _ => rfl
  | 2, _ => rfl
theorem mr_anew (cx : mm_cx E D dA p s mth args meth c m) (hr : mm_rel E D dA h H) (hS : va_S (mm_A E) s.heap H locs) {t idx : Nat} {n : Int32} (ht : t = 3 ∨ t = 4) (hl : Cond.classLink (mm_own m) idx (mm_obn t) ∈ mm_tbl) (hn : ¬ (n < 0 ∨ 1000000 < n)) (hcells : cells + 1 ≤ R.cells) (hslots : slots + n.toNatClampNeg ≤ R.slots) (hdg : decode (mm_by m) pc = .ok (.anewarray idx, 3))
    (kk : ∀ (H1 : Heap), mm_rel E D dA (mm_new h n.toNatClampNeg (.inl (t, n.toNatClampNeg, .inr (.inr (.inr (.inr fun _ => none)))))) H1 → va_S (mm_A E) s.heap H1 locs → W p l e R s mth args below meth c H1 locs (cells + 1) (slots + n.toNatClampNeg) Q (F0 mth (pc + 3) ls (.ref h.1 :: rest))) : W p l e R s mth args below meth c H locs cells slots Q (F0 mth pc ls (.int n :: rest)) := by
  obtain ⟨hx, hb, -, -, hown, hts, -, -, hK, hE⟩ := cx
  have hle : n.toNatClampNeg ≤ 1000000 := by
    have h2 : ¬ (1000000 : Int32) < n := fun q => hn (Or.inr q)
    rw [Int32.lt_iff_toInt_lt] at h2
    show n.toInt.toNat ≤ 1000000
    have : (1000000 : Int32).toInt = 1000000 := by decide
    omega
  have hov : va_AO (mm_obn t) s := by
    rcases ht with rfl | rfl
    · exact hE.2.2.2.2.2.2.2.1
    · exact hE.2.2.2.2.2.2.2.2
  refine W.anew hx hb hown (hts _ hl) (va_AO.use hov) rfl hdg rfl (fun q => hn (Or.inl q)) (by omega) hcells hslots fun cA kA comp f1 f2 f3 f4 => ?_
  have hcA : cA = dA t := by
    rcases ht with rfl | rfl
    · obtain ⟨_, _, _, _, _, q⟩ := (hK.2 3 _ rfl).2
      exact Option.some.inj (f1.symm.trans q)
    · obtain ⟨_, _, _, _, _, q⟩ := (hK.2 4 _ rfl).2
      exact Option.some.inj (f1.symm.trans q)
  subst hcA
  have z1 : (H.push ({ cls := dA t, slots := Array.replicate n.toNatClampNeg .null, vm := .none } : Cell)).size = H.size + 1 := Array.size_push _
  have o1 : ∀ q : Nat, q < H.size → (H.push ({ cls := dA t, slots := Array.replicate n.toNatClampNeg .null, vm := .none } : Cell))[q]? = H[q]? := fun q hq => by rw [Array.getElem?_push, if_neg (Nat.ne_of_lt hq)]
  rw [hr.1]
  refine kk _ (hr.new ⟨ht, fun j y hj => by cases hj⟩ z1 o1 ?_) (mr_S1 hS z1 o1)
  show (H.push _)[h.1]? = some (vp_cell _ _)
  rw [← hr.1, Array.getElem?_push_size, vp_cell_q, arrV_new]
  rfl
theorem mr_castO (cx : mm_cx E D dA p s mth args meth c m) (hr : mm_rel E D dA h H) {a ci idx : Nat} {fs : List Value} (ha : h.2.2 a = some (.inr (ci, fs))) (hl : Cond.classLink (mm_own m) idx (mm_cnm (ci + 1)) ∈ mm_tbl) (hdg : decode (mm_by m) pc = .ok (.checkcast idx, 3))
    (kk : W p l e R s mth args below meth c H locs cells slots Q (F0 mth (pc + 3) ls (.ref a :: rest))) : W p l e R s mth args below meth c H locs cells slots Q (F0 mth pc ls (.ref a :: rest)) := by
  obtain ⟨hx, hb, -, -, hown, hts, -, -, hK, hE⟩ := cx
  obtain ⟨C, T, N, cell, h1, g1, g2, g3⟩ := mr_obj hK hr ha
  have hl2 := mm_cls_lt h1
  have hnm : mm_cnm (ci + 1) = C := by
    unfold mm_cnm
    rw [if_neg (by omega), Nat.add_sub_cancel, h1]
    rfl
  rw [hnm] at hl
  exact va_castS hx hb hown (hts _ hl) (hK.1 ci _ h1).2 ⟨cell, g1, g2, g3⟩ hdg kk
theorem mr_castA (cx : mm_cx E D dA p s mth args meth c m) (hr : mm_rel E D dA h H) {a t idx : Nat} {x : vp_A} (ha : h.2.2 a = some (.inl (t, x))) (ht : t = 0 ∨ t = 3) (hl : Cond.classLink (mm_own m) idx (mm_arn t) ∈ mm_tbl) (hdg : decode (mm_by m) pc = .ok (.checkcast idx, 3))
    (kk : W p l e R s mth args below meth c H locs cells slots Q (F0 mth (pc + 3) ls (.ref a :: rest))) : W p l e R s mth args below meth c H locs cells slots Q (F0 mth pc ls (.ref a :: rest)) := by
  obtain ⟨hx, hb, -, -, hown, hts, -, -, hK, hE⟩ := cx
  have hnm : s.vm.findClass (mm_arn t) = some (dA t) := by
    rcases ht with rfl | rfl
    · exact (hK.2 0 _ rfl).2
    · exact va_nmO (hK.2 3 _ rfl).2 rfl
  exact va_castA hx hb hown (hts _ hl) (mr_P1 (hr.2.2 a _ ha).2.1) 0 rfl hnm hdg kk
theorem mr_gets (cx : mm_cx E D dA p s mth args meth c m) (hS : va_S (mm_A E) s.heap H locs) {g idx : Nat} (hg : g < 3) (hl : Cond.fieldLink (mm_own m) idx (mm_gs g).1 (mm_gs g).2.1 (mm_gs g).2.2 ∈ mm_tbl) (hdg : decode (mm_by m) pc = .ok (.getstatic idx, 3))
    (kk : W p l e R s mth args below meth c H locs cells slots Q (F0 mth (pc + 3) ls (E.2.1 g :: rest))) : W p l e R s mth args below meth c H locs cells slots Q (F0 mth pc ls rest) := by
  obtain ⟨hx, hb, -, -, hown, hts, -, -, hK, hE⟩ := cx
  exact va_gets hx hb (hE.1 g hg) hS hown (hts _ hl) (fun _ h => h) hdg kk
theorem mr_gstr (cx : mm_cx E D dA p s mth args meth c m) (hS : va_S (mm_A E) s.heap H locs) {a k idx : Nat} {fs : Nat → Value} (ha : E.2.2 1 a = some (.inr fs)) (hk : k < 2) (hl : Cond.fieldLink (mm_own m) idx "java/lang/String" (mm_sf k).1 (mm_sf k).2 ∈ mm_tbl) (hdg : decode (mm_by m) pc = .ok (.getfield idx, 3))
    (kk : W p l e R s mth args below meth c H locs cells slots Q (F0 mth (pc + 3) ls (fs k :: rest))) : W p l e R s mth args below meth c H locs cells slots Q (F0 mth pc ls (.ref a :: rest)) := by
  obtain ⟨hx, hb, -, -, hown, hts, -, -, hK, hE⟩ := cx
  have ho := (hE.2.2.2.1 1 a _ ha).2
  match k, hk with
  | 0, _ => exact vk_getf hx hb ho.2.1 hS hown (hts _ hl) (fun _ h => h) hdg kk
  | 1, _ => exact vk_getf hx hb ho.2.2 hS hown (hts _ hl) (fun _ h => h) hdg kk
end MR
end
section
section MR
variable {p : Program} {l : Launch} {e : Env} {R : Room} {s : State} {mth : MethodId} {args : Array Value} {below : List Frame} {meth : Method} {c : Code} {H : Heap} {locs : List Loc} {cells slots : Nat} {Q : State → Prop} {E : mmE} {D : va_G} {dA : Nat → ClassId} {m pc : Nat} {ls : Array Slot} {rest : List Value} {h : mmH}
theorem mm_w_nat : Cond.native arraycopyName ∈ mm_tbl := by decide +kernel
theorem mm_w_st : Cond.static arraycopyName ∈ mm_tbl := by decide +kernel
theorem mm_w_sys : Cond.initialized "java/lang/System" ∈ mm_tbl := by decide +kernel
theorem mr_cl {z : Int32} (hz : ¬ z < 0) : z.toInt = (z.toNatClampNeg : Int) := by
  have h1 := Int32.not_lt.mp hz
  rw [Int32.le_iff_toInt_le, Int32.toInt_zero] at h1
  show z.toInt = ((z.toInt.toNat : Nat) : Int)
  omega
theorem mr_nfw : nativeFrameWords "java/lang/System" "arraycopy" 5 ≤ 40 := by decide +kernel
theorem mr_setS (hS : va_S (mm_A E) s.heap H locs) {a : Nat} {x : Cell} {L : List Loc} (hA : E.1 ≤ a) (hL : ∀ q ∈ L, q.base = a) : va_S (mm_A E) s.heap (H.setIfInBounds a x) (locs ++ L) := by
  refine ⟨by rw [Array.size_setIfInBounds]; exact hS.1, fun q h1 h2 => ?_, fun q hq => ?_⟩
  · have hne : a ≠ q := fun e => h2 (by rw [← e]; exact hA)
    rw [Array.getElem?_setIfInBounds_ne hne]
    exact hS.2.1 q h1 h2
  · rcases List.mem_append.mp hq with h | h
    · exact hS.2.2 q h
    · show E.1 ≤ q.base
      rw [hL q h]
      exact hA
theorem mr_copyI (cx : mm_cx E D dA p s mth args meth c m) (hr : mm_rel E D dA h H) (hS : va_S (mm_A E) s.heap H locs) {a b t n0 n1 idx : Nat} {f g : Nat → Int32} {sp dp n : Int32} (hb0 : h.2.2 b = some (.inl (t, n0, .inl f))) (ha : h.2.2 a = some (.inl (t, n1, .inl g))) (ht : t < 2)
    (h1 : ¬ sp < 0) (h2 : ¬ dp < 0) (h3 : ¬ n < 0) (h4 : sp.toNatClampNeg + n.toNatClampNeg ≤ n0) (h5 : dp.toNatClampNeg + n.toNatClampNeg ≤ n1) (hsum : mm_sum rest ≤ 8) (hl : Cond.methodLink (mm_own m) idx arraycopyName ∈ mm_tbl) (hsz : ls.size = mm_maxL m) (hfr : 1 ≤ R.frames) (hlo : 60 ≤ R.locals) (hdg : decode (mm_by m) pc = .ok (.invokestatic idx, 3))
    (kk : ∀ (H1 : Heap) (locs1 : List Loc), mm_rel E D dA (mm_set h a (.inl (t, n1, .inl (va_cpy f g sp.toNatClampNeg dp.toNatClampNeg n.toNatClampNeg)))) H1 → va_S (mm_A E) s.heap H1 locs1 → W p l e R s mth args below meth c H1 locs1 cells slots Q (F0 mth (pc + 3) ls rest)) : W p l e R s mth args below meth c H locs cells slots Q (F0 mth pc ls (.int n :: .int dp :: .ref a :: .int sp :: .ref b :: rest)) := by
  obtain ⟨hx, hb, -, hml, hown, hts, -, -, hK, hE⟩ := cx
  have hA := (hr.2.2 a _ ha).1
  have hokf := (hr.2.2 b _ hb0).2.2
  have hokg := (hr.2.2 a _ ha).2.2
  have hcb := mr_tcase hr hb0
  have hca := mr_tcase hr ha
  have hAr := (hK.2 t _ (mr_ty (by omega))).1
  have hw := mr_nfw
  intro T hT X
  obtain ⟨-, k0, hk0, cm0, hkk0⟩ := hAr n0 (fun j => .int (f j))
  have hfit : ∀ j, fits (mm_aty t) (.int (f j)) = true := by
    intro j
    match t, ht, hokf with
    | 0, _, hokf => rw [← hokf.2 rfl j]; exact pk_fb _
    | 1, _, _ => rfl
  obtain ⟨vm', X', step⟩ := X.arraycopy hx hown (hts _ hl) (hts _ mm_w_nat) (hts _ mm_w_st) (hts _ mm_w_sys) (src := b) (dst := a) (cs := vp_cell (dA t) (n0, .inl f)) (cd := vp_cell (dA t) (n1, .inl g)) (srcPos := sp) (destPos := dp) (n := n) (by rw [hT]; exact hcb) (by rw [hT]; exact hca)
    (fun _ h => by cases h) (fun _ h => by cases h) (fun h => by cases h) (fun h => by cases h) hk0 hk0 hkk0 hkk0 (by
      match t, ht with
      | 0, _ => simp [mm_aty, refKind]
      | 1, _ => simp [mm_aty, refKind]) h1 h2 h3
    (by rw [mr_cl h1, mr_cl h3]; show ¬ _ > ((arrV _ n0 (fun j => .int (f j))).slots.size : Int); rw [arrV_size]; omega)
    (by rw [mr_cl h2, mr_cl h3]; show ¬ _ > ((arrV _ n1 (fun j => .int (g j))).slots.size : Int); rw [arrV_size]; omega)
    (fun vm₁ _ i hi => by
      have e : (vp_cell (dA t) (n0, .inl f)).slots.getD (sp.toNatClampNeg + i) .null = .int (f (sp.toNatClampNeg + i)) := by
        show (arrV (dA t) n0 (fun j => .int (f j))).slots.getD _ _ = _
        rw [Array.getD_eq_getD_getElem?, arrV_read _ _ (by omega)]
        rfl
      rw [e]
      exact ⟨hfit _, trivial⟩)
    (g := F0 mth pc ls (.int n :: .int dp :: .ref a :: .int sp :: .ref b :: rest)) rfl (by rw [hml]; exact hsz) (rest := rest) rfl (by rw [hb]; exact hdg) hfr (by show 2 * 0 + mm_sum rest + _ ≤ _; omega)
  have e1 : copied (vp_cell (dA t) (n0, .inl f)) (vp_cell (dA t) (n1, .inl g)) sp dp n = vp_cell (dA t) (n1, .inl (va_cpy f g sp.toNatClampNeg dp.toNatClampNeg n.toNatClampNeg)) := va_copied (fun z => .int z) _ _ f g h4
  rw [e1] at X' step
  have hlt : a < H.size := (Array.getElem?_eq_some_iff.mp hca).1
  obtain ⟨t2, a1, b1⟩ := kk (H.setIfInBounds a (vp_cell (dA t) (n1, .inl (va_cpy f g sp.toNatClampNeg dp.toNatClampNeg n.toNatClampNeg)))) _ (hr.set ha rfl ⟨hokg.1, fun h0 j => by
      unfold va_cpy
      split
      · exact hokf.2 h0 _
      · exact hokg.2 h0 _⟩ (by simp) (fun q hq => by simp [Array.getElem?_setIfInBounds, Ne.symm hq]) (show (H.setIfInBounds a _)[a]? = some _ by simp [Array.getElem?_setIfInBounds, hlt])) (mr_setS hS hA (fun q hq => by
      obtain ⟨z, -, hz⟩ := List.mem_map.mp hq
      rw [← hz])) _ (by rw [← hT]; rfl) X'
  exact ⟨t2, step t2 a1, b1⟩
theorem mr_copyR (cx : mm_cx E D dA p s mth args meth c m) (hr : mm_rel E D dA h H) (hS : va_S (mm_A E) s.heap H locs) {a b n0 n1 idx : Nat} {f g : Nat → Option Nat} {sp dp n : Int32} (hb0 : h.2.2 b = some (.inl (3, n0, .inr (.inr (.inr (.inr f)))))) (ha : h.2.2 a = some (.inl (3, n1, .inr (.inr (.inr (.inr g))))))
    (h1 : ¬ sp < 0) (h2 : ¬ dp < 0) (h3 : ¬ n < 0) (h4 : sp.toNatClampNeg + n.toNatClampNeg ≤ n0) (h5 : dp.toNatClampNeg + n.toNatClampNeg ≤ n1) (hsum : mm_sum rest ≤ 8) (hl : Cond.methodLink (mm_own m) idx arraycopyName ∈ mm_tbl) (hsz : ls.size = mm_maxL m) (hfr : 1 ≤ R.frames) (hlo : 60 ≤ R.locals) (hdg : decode (mm_by m) pc = .ok (.invokestatic idx, 3))
    (kk : ∀ (H1 : Heap) (locs1 : List Loc), mm_rel E D dA (mm_set h a (.inl (3, n1, .inr (.inr (.inr (.inr (va_cpy f g sp.toNatClampNeg dp.toNatClampNeg n.toNatClampNeg))))))) H1 → va_S (mm_A E) s.heap H1 locs1 → W p l e R s mth args below meth c H1 locs1 cells slots Q (F0 mth (pc + 3) ls rest)) : W p l e R s mth args below meth c H locs cells slots Q (F0 mth pc ls (.int n :: .int dp :: .ref a :: .int sp :: .ref b :: rest)) := by
  obtain ⟨hx, hb, -, hml, hown, hts, -, -, hK, hE⟩ := cx
  have hA := (hr.2.2 a _ ha).1
  have hokf := (hr.2.2 b _ hb0).2.2
  have hokg := (hr.2.2 a _ ha).2.2
  have hcb := mr_tcase hr hb0
  have hca := mr_tcase hr ha
  have hAr := (hK.2 3 _ rfl).1
  have hw := mr_nfw
  have hany : ∀ j y, f j = some y → va_Any "java/lang/Object" s H y := fun j y hj => mr_any hK hE hr (hokf.2 j y hj)
  intro T hT X
  obtain ⟨-, k0, hk0, cm0, hkk0⟩ := hAr n0 (fun j => va_rf (f j))
  obtain ⟨vm', X', step⟩ := X.arraycopy hx hown (hts _ hl) (hts _ mm_w_nat) (hts _ mm_w_st) (hts _ mm_w_sys) (src := b) (dst := a) (cs := vp_cell (dA 3) (n0, .inr (.inr (.inr (.inr f))))) (cd := vp_cell (dA 3) (n1, .inr (.inr (.inr (.inr g))))) (srcPos := sp) (destPos := dp) (n := n) (by rw [hT]; exact hcb) (by rw [hT]; exact hca)
    (fun _ h => by cases h) (fun _ h => by cases h) (fun h => by cases h) (fun h => by cases h) hk0 hk0 hkk0 hkk0 rfl h1 h2 h3
    (by rw [mr_cl h1, mr_cl h3]; show ¬ _ > ((arrV _ n0 (fun j => va_rf (f j))).slots.size : Int); rw [arrV_size]; omega)
    (by rw [mr_cl h2, mr_cl h3]; show ¬ _ > ((arrV _ n1 (fun j => va_rf (g j))).slots.size : Int); rw [arrV_size]; omega)
    (fun vm₁ hal i hi => by
      have e : (vp_cell (dA 3) (n0, .inr (.inr (.inr (.inr f))))).slots.getD (sp.toNatClampNeg + i) .null = va_rf (f (sp.toNatClampNeg + i)) := by
        show (arrV (dA 3) n0 (fun j => va_rf (f j))).slots.getD _ _ = _
        rw [Array.getD_eq_getD_getElem?, arrV_read _ _ (by omega)]
        rfl
      rw [e]
      cases hy : f (sp.toNatClampNeg + i) with
      | none => exact ⟨rfl, trivial⟩
      | some y =>
        obtain ⟨cellV, g1, g2, ⟨kC, hkC⟩, hasg⟩ := hany _ y hy
        obtain ⟨kA, comp, r1, r2, r3, -⟩ := (hK.2 3 _ rfl).2
        cases hk0.symm.trans r1
        cases hkk0.symm.trans r2
        obtain ⟨kE, hkE, -⟩ := Vm.findClass_spec r3
        obtain ⟨kC', hkC', -⟩ := hal.2.2 _ _ hkC
        obtain ⟨kE', hkE', -⟩ := hal.2.2 _ _ hkE
        refine ⟨rfl, cellV, (show T.heap[y]? = some cellV by rw [hT]; exact g1), (fun q h => by rw [h] at g2; cases g2), ⟨kC', hkC'⟩, ⟨kE', hkE'⟩, ?_⟩
        show vm₁.assignable _ _ = true
        rw [hal.assignable]
        exact hasg _ r3)
    (g := F0 mth pc ls (.int n :: .int dp :: .ref a :: .int sp :: .ref b :: rest)) rfl (by rw [hml]; exact hsz) (rest := rest) rfl (by rw [hb]; exact hdg) hfr (by show 2 * 0 + mm_sum rest + _ ≤ _; omega)
  have e1 : copied (vp_cell (dA 3) (n0, .inr (.inr (.inr (.inr f))))) (vp_cell (dA 3) (n1, .inr (.inr (.inr (.inr g))))) sp dp n = vp_cell (dA 3) (n1, .inr (.inr (.inr (.inr (va_cpy f g sp.toNatClampNeg dp.toNatClampNeg n.toNatClampNeg))))) := by
    rw [vp_cell_q, vp_cell_q, vp_cell_q]
    exact va_copied (fun z => va_rf z) _ _ f g h4
  rw [e1] at X' step
  have hlt : a < H.size := (Array.getElem?_eq_some_iff.mp hca).1
  obtain ⟨t2, a1, b1⟩ := kk (H.setIfInBounds a (vp_cell (dA 3) (n1, .inr (.inr (.inr (.inr (va_cpy f g sp.toNatClampNeg dp.toNatClampNeg n.toNatClampNeg))))))) _ (hr.set ha rfl ⟨hokg.1, fun j y hj => by
      unfold va_cpy at hj
      split at hj
      · exact hokf.2 _ y hj
      · exact hokg.2 _ y hj⟩ (by simp) (fun q hq => by simp [Array.getElem?_setIfInBounds, Ne.symm hq]) (show (H.setIfInBounds a _)[a]? = some _ by simp [Array.getElem?_setIfInBounds, hlt])) (mr_setS hS hA (fun q hq => by
      obtain ⟨z, -, hz⟩ := List.mem_map.mp hq
      rw [← hz])) _ (by rw [← hT]; rfl) X'
  exact ⟨t2, step t2 a1, b1⟩
end MR
end
section
section MR
variable {p : Program} {l : Launch} {e : Env} {R : Room} {s : State} {mth : MethodId} {args : Array Value} {below : List Frame} {meth : Method} {c : Code} {H : Heap} {locs : List Loc} {cells slots : Nat} {Q : State → Prop} {E : mmE} {D : va_G} {dA : Nat → ClassId} {m pc : Nat} {ls : Array Slot} {rest : List Value} {h : mmH}
theorem mm_w_c1 : Cond.sameMethod "[B" "java/lang/Object" "clone" "()Ljava/lang/Object;" ∈ mm_tbl := by decide +kernel
theorem mm_w_c2 : Cond.native ⟨"java/lang/Object", "clone", "()Ljava/lang/Object;"⟩ ∈ mm_tbl := by decide +kernel
theorem mm_w_c3 : Cond.instanceMethod ⟨"java/lang/Object", "clone", "()Ljava/lang/Object;"⟩ ∈ mm_tbl := by decide +kernel
theorem mm_w_c4 : Cond.selects "[B" ⟨"[B", "clone", "()Ljava/lang/Object;"⟩ ⟨"java/lang/Object", "clone", "()Ljava/lang/Object;"⟩ ∈ mm_tbl := by decide +kernel
theorem mm_w_c5 : Cond.castable "[B" "java/lang/Cloneable" ∈ lw_tbl := by decide +kernel
theorem mr_clone (cx : mm_cx E D dA p s mth args meth c m) (hr : mm_rel E D dA h H) (hS : va_S (mm_A E) s.heap H locs) {a n idx : Nat} {f : Nat → Int32} (ha : h.2.2 a = some (.inl (0, n, .inl f))) (hl : Cond.methodLink (mm_own m) idx ⟨"[B", "clone", "()Ljava/lang/Object;"⟩ ∈ mm_tbl) (hsum : mm_sum rest ≤ 8) (hsz : ls.size = mm_maxL m) (hfr : 1 ≤ R.frames) (hlo : 60 ≤ R.locals) (hcells : cells + 1 ≤ R.cells) (hslots : slots + n ≤ R.slots) (hdg : decode (mm_by m) pc = .ok (.invokevirtual idx, 3))
    (kk : ∀ (H1 : Heap), mm_rel E D dA (mm_new h n (.inl (0, n, .inl f))) H1 → va_S (mm_A E) s.heap H1 locs → W p l e R s mth args below meth c H1 locs (cells + 1) (slots + n) Q (F0 mth (pc + 3) ls (.ref h.1 :: rest))) : W p l e R s mth args below meth c H locs cells slots Q (F0 mth pc ls (.ref a :: rest)) := by
  obtain ⟨hx, hb, -, hml, hown, hts, -, -, hK, hE⟩ := cx
  have hok := (hr.2.2 a _ ha).2.2
  have hca := mr_tcase hr ha
  have hsize : (vp_cell (dA 0) (n, .inl f)).slots.size = n := arrV_size _ _ _
  obtain ⟨c0, t0', f1, f2, f3⟩ := Cond.castable_spec (va_Nw.use (A := args) rfl (hE.2.2.2.2.2.1 _ _ mm_w_c5))
  have hnm : s.vm.findClass "[B" = some (dA 0) := (hK.2 0 _ rfl).2
  cases hnm.symm.trans f1
  intro T hT X
  obtain ⟨-, kA, hkA, comp, hkind⟩ := State.isArrayOf_alike X.warmed.alike ((hK.2 0 _ rfl).1 0 (fun _ => .null))
  obtain ⟨-, kS, hkS, compS, hkindS⟩ := (hK.2 0 _ rfl).1 0 (fun _ => .null)
  obtain ⟨vm', X', st⟩ := X.cloneArray hx hown (hts _ hl) (hts _ mm_w_c1) (hts _ mm_w_c2) (hts _ mm_w_c3) (hts _ mm_w_c4) (a := a) (cell := vp_cell (dA 0) (n, .inl f)) (by rw [hT]; exact hca) (fun k h => by cases h) (fun h => by cases h) hnm f2 f3
    (fun i v hv => by
      have hk' : T.vm.classes[dA 0]? = some kA := hkA
      have hfit : fits .byte v = true := va_fit (cA := dA 0) (n := n) (F := fun j => .int (f j)) (fun j _ => by rw [← hok.2 rfl j]; exact pk_fb _) i v hv
      simpa [State.fitsSlot, State.slotType?, hk', hkind, vp_cell, arrV, mm_aty] using hfit)
    (g := F0 mth pc ls (.ref a :: rest)) rfl (by rw [hml]; exact hsz) rfl (by rw [hb]; exact hdg) hfr (by show 2 * 0 + mm_sum rest + 14 ≤ _; omega) hcells (by rw [hsize]; exact hslots) (hloader := Vm.clonesLoader_of_array hkS hkindS)
  rw [hsize] at X'
  have z1 : (H.push (vp_cell (dA 0) (n, .inl f))).size = H.size + 1 := Array.size_push _
  have o1 : ∀ q : Nat, q < H.size → (H.push (vp_cell (dA 0) (n, .inl f)))[q]? = H[q]? := fun q hq => by rw [Array.getElem?_push, if_neg (Nat.ne_of_lt hq)]
  obtain ⟨t2, b1, b2⟩ := kk (H.push (vp_cell (dA 0) (n, .inl f))) (hr.new hok z1 o1 (show (H.push _)[h.1]? = some _ by rw [← hr.1, Array.getElem?_push_size])) (mr_S1 hS z1 o1) ((T.setVm vm').pushCell (vp_cell (dA 0) (n, .inl f))) (by rw [← hT]; rfl) X'
  refine ⟨t2, st t2 ?_, b2⟩
  rw [hT, hr.1]
  exact b1
theorem mm_w_g1 : Cond.selects "[Ljava/lang/Object;" ⟨"java/lang/Object", "getClass", "()Ljava/lang/Class;"⟩ ⟨"java/lang/Object", "getClass", "()Ljava/lang/Class;"⟩ ∈ mm_tbl := by decide +kernel
theorem mm_w_g2 : Cond.instanceMethod ⟨"java/lang/Object", "getClass", "()Ljava/lang/Class;"⟩ ∈ mm_tbl := by decide +kernel
theorem mm_w_g3 : Cond.native ⟨"java/lang/Object", "getClass", "()Ljava/lang/Class;"⟩ ∈ mm_tbl := by decide +kernel
theorem mr_getC (cx : mm_cx E D dA p s mth args meth c m) (hr : mm_rel E D dA h H) {a idx : Nat} {x : vp_A} (ha : h.2.2 a = some (.inl (3, x))) (hl : Cond.methodLink (mm_own m) idx ⟨"java/lang/Object", "getClass", "()Ljava/lang/Class;"⟩ ∈ mm_tbl) (hsum : mm_sum rest ≤ 8) (hsz : ls.size = mm_maxL m) (hfr : 1 ≤ R.frames) (hlo : 60 ≤ R.locals) (hdg : decode (mm_by m) pc = .ok (.invokevirtual idx, 3))
    (kk : W p l e R s mth args below meth c H locs cells slots Q (F0 mth (pc + 3) ls (E.2.1 3 :: rest))) : W p l e R s mth args below meth c H locs cells slots Q (F0 mth pc ls (.ref a :: rest)) := by
  obtain ⟨hx, hb, -, hml, hown, hts, -, -, hK, hE⟩ := cx
  obtain ⟨mi, e1, hM⟩ := hE.2.1
  rw [e1] at kk
  have hvm0 : (vp_cell (dA 3) x).vm = .none := by
    obtain ⟨n, f | f | f | f | f⟩ := x <;> rfl
  have hcl0 : (vp_cell (dA 3) x).cls = dA 3 := by
    obtain ⟨n, f | f | f | f | f⟩ := x <;> rfl
  refine va_getC hx hb (by rw [hml]; exact hsz.symm) hown (hts _ hl) (va_Dc.use hE.2.2.2.2.2.2.1) (hts _ mm_w_g1) (hts _ mm_w_g2) (hts _ mm_w_g3) hM ⟨_, mr_tcase hr ha, by rw [hvm0]; rfl, by rw [hcl0]; exact va_nmO (hK.2 3 _ rfl).2 rfl⟩ hfr (by show mm_sum rest + 14 ≤ _; omega) hdg kk
theorem mm_w_i1 : Cond.instanceMethod objectInit ∈ mm_tbl := by decide +kernel
theorem mm_w_i2 : Cond.code objectInit ⟨#[0xb1]⟩ 1 none ∈ mm_tbl := mm_win (List.mem_of_getElem? (i := 111) rfl) rfl
theorem mr_oinit (cx : mm_cx E D dA p s mth args meth c m) {a idx : Nat} (hl : Cond.methodLink (mm_own m) idx Lib.objectInit ∈ mm_tbl) (hsum : mm_sum rest ≤ 8) (hsz : ls.size = mm_maxL m) (hfr : 1 ≤ R.frames) (hlo : 60 ≤ R.locals) (hdg : decode (mm_by m) pc = .ok (.invokespecial idx, 3))
    (kk : W p l e R s mth args below meth c H locs cells slots Q (F0 mth (pc + 3) ls rest)) : W p l e R s mth args below meth c H locs cells slots Q (F0 mth pc ls (.ref a :: rest)) := by
  obtain ⟨hx, hb, -, hml, hown, hts, -, -, hK, hE⟩ := cx
  exact W.objInit hx hb hown (hts _ hl) (hts _ mm_w_i1) (hts _ mm_w_i2) rfl (by rw [hml]; exact hsz) rfl hdg hfr (by show 2 * 0 + mm_sum rest + 12 ≤ _; omega) kk
def mm_Pc (E : mmE) (D : va_G) (dA : Nat → ClassId) (h : mmH) (as : List Value) : Array Value → State → Prop := fun v U => v = as.toArray ∧ mm_rel E D dA h U.heap ∧ va_K D mm_cls (mm_tys dA) U ∧ mm_env E U U.heap
def mm_Qc (E : mmE) (D : va_G) (dA : Nat → ClassId) (r : Option Value) (h' : mmH) : Array Value → State → Outcome → State → Prop := fun _ st o t => o = .returned r ∧ mm_rel E D dA h' t.heap ∧ st.heap.size ≤ t.heap.size ∧ ∀ q : Nat, q < st.heap.size → ¬ mm_A E q → t.heap[q]? = st.heap[q]?
def mm_ws (m : Nat) : List Cond := Cond.code (mm_y m) (mm_by m) (mm_maxL m) (mm_re m) :: mm_tbl
def mm_rm (d mc ms : Nat) : Room := { frames := d + 1, cells := mc, slots := ms, locals := 60 * d + 60 }
theorem mm_wsGood {m : Nat} (hm : m < 173) : GoodIn mm_tbl (mm_ws m) := fun w hw => by
  rcases List.mem_cons.mp hw with rfl | hw
  · exact ⟨mm_code_in hm, good_of_word rfl⟩
  · exact mm_goodIn w hw
theorem mm_blind {as : List Value} : FrameBlind (mm_Pc E D dA h as) := fun _ U _ _ q => ⟨q.1, q.2.1, va_K.moved (Vm.Alike.refl U.vm) q.2.2.1, mm_env.moved (State.WarmedH.refl U) (fun _ _ _ => rfl) q.2.2.2⟩
theorem mr_pre (cx : mm_cx E D dA p s mth args meth c m) (hr : mm_rel E D dA h H) (hS : va_S (mm_A E) s.heap H locs) {as : List Value} : ∀ U : State, U.heap = H → s.WarmedH U.vm → mm_Pc E D dA h as as.toArray U := by
  obtain ⟨-, -, -, -, -, -, -, -, hK, hE⟩ := cx
  intro U hU hW
  exact ⟨rfl, by rw [hU]; exact hr, va_K.moved hW.alike hK, mm_env.moved hW (fun a h1 h2 => by rw [hU]; exact hS.2.1 a h1 h2) hE⟩
theorem mr_after {mc ms : Nat} {st0 : List Value} {r : Option Value} {h' : mmH} {a : Array Value} (hrun : va_Run p l e R s mth args below meth c H locs cells slots mc ms (F0 mth pc ls st0) rest (mm_Qc E D dA r h' a) (mm_A E)) (hS : va_S (mm_A E) s.heap H locs)
    (kk : ∀ (H1 : Heap) (locs1 : List Loc), mm_rel E D dA h' H1 → va_S (mm_A E) s.heap H1 locs1 → W p l e R s mth args below meth c H1 locs1 (cells + mc) (slots + ms) Q (F0 mth (pc + 3) ls (r.toList ++ rest))) : W p l e R s mth args below meth c H locs cells slots Q (F0 mth pc ls st0) := by
  intro T hT X
  obtain ⟨v, st₀, t, T', L, h0, X', hL, e1, e2, ⟨hv, hrel, hz, hk⟩, st⟩ := hrun T hT X
  cases hv
  rw [h0] at hz hk
  obtain ⟨t2, a1, b1⟩ := kk T'.heap (locs ++ L) (by rw [e1]; exact hrel) ⟨by rw [e1]; exact Nat.le_trans hS.1 hz, fun q h1 h2 => by rw [e1, hk q (Nat.lt_of_lt_of_le h1 hS.1) h2]; exact hS.2.1 q h1 h2, fun q hq => by
      rcases List.mem_append.mp hq with h | h
      · exact hS.2.2 q h
      · exact hL q h⟩ T' rfl X'
  exact ⟨t2, st t2 a1, b1⟩
end MR
end
section
theorem mm_wide_cat (v : Value) : mm_wide v = true ↔ v.category = 2 := by cases v <;> simp [mm_wide, Value.category]
theorem mm_lay_len (as : List Value) : (lg_sl as).length = (mm_lay as).length := by
  induction as with
  | nil => rfl
  | cons v vs ih =>
    have e : lg_sl (v :: vs) = (if v.category = 2 then [Slot.val v, .second] else [.val v]) ++ lg_sl vs := by simp [lg_sl]
    have e2 : mm_lay (v :: vs) = if mm_wide v then v :: mm_un :: mm_lay vs else v :: mm_lay vs := rfl
    rw [e, List.length_append, ih, e2]
    by_cases hw : mm_wide v = true
    · rw [if_pos hw, if_pos ((mm_wide_cat v).mp hw)]
      simp only [List.length_cons, List.length_nil]
      omega
    · rw [if_neg hw, if_neg (fun q => hw ((mm_wide_cat v).mpr q))]
      simp only [List.length_cons, List.length_nil]
      omega
theorem mm_lay_mem (as : List Value) : ∀ (k i : Nat) (v : Value), (mm_lay as)[i]? = some v → v ≠ mm_un → (k + i, v) ∈ lv_args k as := by
  induction as with
  | nil => intro k i v h; simp [mm_lay] at h
  | cons w ws ih =>
    intro k i v h hv
    unfold mm_lay at h
    unfold lv_args
    by_cases hw : mm_wide w = true
    · rw [if_pos hw] at h
      rw [if_pos ((mm_wide_cat w).mp hw)]
      match i, h with
      | 0, h =>
        simp only [List.getElem?_cons_zero, Option.some.injEq] at h
        rw [← h]
        exact List.mem_cons_self
      | 1, h =>
        simp only [List.getElem?_cons_succ, List.getElem?_cons_zero, Option.some.injEq] at h
        exact absurd h.symm hv
      | j + 2, h =>
        simp only [List.getElem?_cons_succ] at h
        have h2 := ih (k + 2) j v h hv
        rw [show k + (j + 2) = k + 2 + j by omega]
        exact List.mem_cons_of_mem _ h2
    · rw [if_neg hw] at h
      rw [if_neg (fun q => hw ((mm_wide_cat w).mpr q))]
      match i, h with
      | 0, h =>
        simp only [List.getElem?_cons_zero, Option.some.injEq] at h
        rw [← h]
        exact List.mem_cons_self
      | j + 1, h =>
        simp only [List.getElem?_cons_succ] at h
        have h2 := ih (k + 1) j v h hv
        rw [show k + (j + 1) = k + 1 + j by omega]
        exact List.mem_cons_of_mem _ h2
theorem mm_ent_len {n : Nat} {as : List Value} (h : (mm_lay as).length ≤ n) : (mm_ent n as).length = n := by
  unfold mm_ent
  rw [List.length_append, List.length_replicate]
  omega
theorem mm_ent_loc {n : Nat} {as : List Value} (h : (mm_lay as).length ≤ n) : mm_loc (mm_ent n as) ((lg_sl as ++ List.replicate (n - (lg_sl as).length) Slot.unset).toArray) := by
  have h0 : (lg_sl as).length ≤ n := by rw [mm_lay_len]; exact h
  obtain ⟨h1, h2, h3⟩ := lv_entry as h0
  refine ⟨h1.trans (mm_ent_len h).symm, h2, fun i v hi hv => ?_⟩
  unfold mm_ent at hi
  by_cases hl : i < (mm_lay as).length
  · rw [List.getElem?_append_left hl] at hi
    have h4 := mm_lay_mem as 0 i v hi hv
    rw [Nat.zero_add] at h4
    exact h3 (i, v) h4
  · rw [List.getElem?_append_right (by omega)] at hi
    have := List.getElem?_replicate (a := mm_un) (n := n - (mm_lay as).length) (i := i - (mm_lay as).length)
    rw [this] at hi
    split at hi
    · cases hi; exact absurd rfl hv
    · cases hi
def mm_prs (L : List Value) : List (Nat × Value) := (List.range L.length).filterMap (fun i => match L[i]? with
  | some v => if v = mm_un then none else some (i, v)
  | none => none)
theorem mm_prs_mem {L : List Value} {i : Nat} {v : Value} : (i, v) ∈ mm_prs L ↔ L[i]? = some v ∧ v ≠ mm_un := by
  unfold mm_prs
  rw [List.mem_filterMap]
  constructor
  · rintro ⟨j, -, hj⟩
    split at hj
    · rename_i w hw
      split at hj
      · cases hj
      · rename_i hne
        cases hj
        exact ⟨hw, hne⟩
    · cases hj
  · rintro ⟨h1, h2⟩
    refine ⟨i, List.mem_range.mpr (List.getElem?_eq_some_iff.mp h1).1, ?_⟩
    rw [h1]
    dsimp only
    rw [if_neg h2]
theorem mm_loc.has {L : List Value} {ls : Array Slot} (h : mm_loc L ls) : lv_has ls L.length (mm_prs L) := ⟨h.1, h.2.1, fun q hq => by
  obtain ⟨i, v⟩ := q
  obtain ⟨h1, h2⟩ := mm_prs_mem.mp hq
  exact h.2.2 i v h1 h2⟩
theorem mm_clr_len (L : List Value) (i : Nat) : (mm_clr L i).length = L.length := by
  unfold mm_clr
  split
  · rfl
  · split
    · split <;> simp
    · rfl
theorem mm_clr_get {L : List Value} {i j : Nat} {w : Value} (h : (mm_clr L i)[j]? = some w) (hw : w ≠ mm_un) : L[j]? = some w ∧ (j + 1 = i → w.category ≠ 2) := by
  unfold mm_clr at h
  split at h
  · exact ⟨h, fun q => by omega⟩
  · rename_i k
    split at h
    · rename_i v hv
      split at h
      · rename_i hwd
        by_cases hjk : j = k
        · subst hjk
          rw [List.getElem?_set_self (List.getElem?_eq_some_iff.mp hv).1] at h
          cases h
          exact absurd rfl hw
        · rw [List.getElem?_set_ne (fun q => hjk q.symm)] at h
          exact ⟨h, fun q => by omega⟩
      · rename_i hwd
        refine ⟨h, fun q => ?_⟩
        obtain rfl : j = k := by omega
        cases h.symm.trans hv
        exact fun q2 => hwd ((mm_wide_cat w).mpr q2)
    · rename_i hv
      refine ⟨h, fun q => ?_⟩
      obtain rfl : j = k := by omega
      cases h.symm.trans hv
theorem mm_st1_loc {L : List Value} {ls' : Array Slot} {i : Nat} {v : Value} (h : lv_has ls' L.length ((i, v) :: (mm_prs L).filter (fun q => !(q.1 == i) && !(q.1 + 1 == i && q.2.category == 2)))) : mm_loc (mm_st1 L i v) ls' := by
  obtain ⟨h1, h2, h3⟩ := h
  refine ⟨by rw [h1]; unfold mm_st1; rw [List.length_set, mm_clr_len], h2, fun j w hj hw => ?_⟩
  unfold mm_st1 at hj
  by_cases hji : j = i
  · subst hji
    have hlt : j < (mm_clr L j).length := by
      have := (List.getElem?_eq_some_iff.mp hj).1
      rwa [List.length_set] at this
    rw [List.getElem?_set_self hlt] at hj
    cases hj
    exact h3 (j, _) List.mem_cons_self
  · rw [List.getElem?_set_ne (fun q => hji q.symm)] at hj
    obtain ⟨g1, g2⟩ := mm_clr_get hj hw
    refine h3 (j, w) (List.mem_cons_of_mem _ (List.mem_filter.mpr ⟨mm_prs_mem.mpr ⟨g1, hw⟩, ?_⟩))
    by_cases hn : j + 1 = i
    · have := g2 hn
      simp [hji, this]
    · simp [hji, hn]
theorem mm_st2_loc {L : List Value} {ls' : Array Slot} {i : Nat} {v : Value} (h : lv_has ls' L.length ((i, v) :: (mm_prs L).filter (fun q => !(q.1 == i) && (!(q.1 == i + 1) && !(q.1 + 1 == i && q.2.category == 2))))) : mm_loc (mm_st2 L i v) ls' := by
  obtain ⟨h1, h2, h3⟩ := h
  refine ⟨by rw [h1]; unfold mm_st2; rw [List.length_set, List.length_set, mm_clr_len], h2, fun j w hj hw => ?_⟩
  unfold mm_st2 at hj
  by_cases hj1 : j = i + 1
  · subst hj1
    have hlt : i + 1 < ((mm_clr L i).set i v).length := by
      have := (List.getElem?_eq_some_iff.mp hj).1
      rwa [List.length_set] at this
    rw [List.getElem?_set_self hlt] at hj
    cases hj
    exact absurd rfl hw
  · rw [List.getElem?_set_ne (fun q => hj1 q.symm)] at hj
    by_cases hji : j = i
    · subst hji
      have hlt : j < (mm_clr L j).length := by
        have := (List.getElem?_eq_some_iff.mp hj).1
        rwa [List.length_set] at this
      rw [List.getElem?_set_self hlt] at hj
      cases hj
      exact h3 (j, _) List.mem_cons_self
    · rw [List.getElem?_set_ne (fun q => hji q.symm)] at hj
      obtain ⟨g1, g2⟩ := mm_clr_get hj hw
      refine h3 (j, w) (List.mem_cons_of_mem _ (List.mem_filter.mpr ⟨mm_prs_mem.mpr ⟨g1, hw⟩, ?_⟩))
      by_cases hn : j + 1 = i
      · have := g2 hn
        simp [hji, this, hj1]
      · simp [hji, hn, hj1]
end
section
theorem mm_mxl : ∀ m, m < 173 → mm_maxL m ≤ 40 := by decide +kernel
section MR
variable {p : Program} {l : Launch} {e : Env} {R : Room} {s : State} {mth : MethodId} {args : Array Value} {below : List Frame} {meth : Method} {c : Code} {H : Heap} {locs : List Loc} {cells slots : Nat} {Q : State → Prop} {E : mmE} {D : va_G} {dA : Nat → ClassId} {m pc : Nat} {ls : Array Slot} {rest : List Value} {h : mmH} {cal idx n d mc ms : Nat} {as : List Value} {r : Option Value} {h' : mmH}
theorem mr_d3 {cal n : Nat} (hnar : mm_nar1 cal n = true) : (mm_y cal).cls ≠ "java/lang/invoke/MethodHandle" ∧ (mm_y cal).cls ≠ "java/lang/invoke/VarHandle" ∧ (parseMethodDescriptor (mm_y cal).desc).map (fun d => d.parameters.length) = some n := by
  unfold mm_nar1 at hnar
  simp only [Bool.and_eq_true, decide_eq_true_eq] at hnar
  exact ⟨hnar.1.1, hnar.1.2, hnar.2⟩
theorem mr_R {R : Room} {d mc ms cal : Nat} (hcal : cal < 173) (hR : d + 2 ≤ R.frames ∧ 60 * (d + 1) + 60 ≤ R.locals) : (mm_rm d mc ms).frames + 1 ≤ R.frames ∧ 8 + (mm_maxL cal + 11) + (mm_rm d mc ms).locals ≤ R.locals := by
  have := mm_mxl cal hcal
  refine ⟨hR.1, ?_⟩
  show 8 + (mm_maxL cal + 11) + (60 * d + 60) ≤ R.locals
  omega
theorem mr_callS (cx : mm_cx E D dA p s mth args meth c m) (hr : mm_rel E D dA h H) (hS : va_S (mm_A E) s.heap H locs) (hM : Met l (mm_y cal) (mm_ws cal) (mm_rm d mc ms) (mm_Pc E D dA h as) (mm_Qc E D dA r h') mc ms (mm_A E)) (hcal : cal < 173) (hlk : Cond.methodLink (mm_own m) idx (mm_y cal) ∈ mm_tbl) (hst : Cond.static (mm_y cal) ∈ mm_tbl) (hini : Cond.initialized (mm_y cal).cls ∈ mm_tbl) (hnar : mm_nar1 cal n = true) (hn : as.length = n) (hR : d + 2 ≤ R.frames ∧ 60 * (d + 1) + 60 ≤ R.locals) (hsz : ls.size = mm_maxL m) (hsum : mm_sum rest ≤ 8) (hf : cells + mc ≤ R.cells ∧ slots + ms ≤ R.slots) (hdg : decode (mm_by m) pc = .ok (.invokestatic idx, 3))
    (kk : ∀ (H1 : Heap) (locs1 : List Loc), mm_rel E D dA h' H1 → va_S (mm_A E) s.heap H1 locs1 → W p l e R s mth args below meth c H1 locs1 (cells + mc) (slots + ms) Q (F0 mth (pc + 3) ls (r.toList ++ rest))) : W p l e R s mth args below meth c H locs cells slots Q (F0 mth pc ls (as.reverse ++ rest)) := by
  have cx0 := cx
  obtain ⟨hx, hb, -, hml, hown, hts, -, -, hK, hE⟩ := cx
  have hG : GoodIn mm_tbl (va_wsS (mm_own m) idx (mm_y cal) (mm_ws cal)) := fun w hw => by
    simp only [va_wsS, List.mem_append, List.mem_cons, List.not_mem_nil, or_false] at hw
    rcases hw with (rfl | rfl | rfl) | hw
    · exact mm_goodIn _ hlk
    · exact mm_goodIn _ hst
    · exact mm_goodIn _ hini
    · exact mm_wsGood hcal w hw
  exact mr_after (va_runS (n := n) (As := as) ⟨hx, hb, hml, hown, hts⟩ hM (va_cwS n hts hG rfl rfl rfl (mr_d3 hnar) (mr_R hcal hR)) ⟨mm_blind, mr_pre cx0 hr hS⟩ rfl hn hsz rfl (by show 2 * 0 + mm_sum rest ≤ 8; omega) hdg hf) hS kk
theorem mr_callSN (cx : mm_cx E D dA p s mth args meth c m) (hr : mm_rel E D dA h H) (hS : va_S (mm_A E) s.heap H locs) (hM : Met l (mm_y cal) (mm_ws cal) (mm_rm d mc ms) (mm_Pc E D dA h as) (mm_Qc E D dA r h') mc ms (mm_A E)) (hcal : cal < 173) (hlk : va_Nw (.methodLinkNest (mm_own m) idx (mm_y cal) "BoundsPlanner") s) (hst : Cond.static (mm_y cal) ∈ mm_tbl) (hini : Cond.initialized (mm_y cal).cls ∈ mm_tbl) (hnar : mm_nar1 cal n = true) (hn : as.length = n) (hR : d + 2 ≤ R.frames ∧ 60 * (d + 1) + 60 ≤ R.locals) (hsz : ls.size = mm_maxL m) (hsum : mm_sum rest ≤ 8) (hf : cells + mc ≤ R.cells ∧ slots + ms ≤ R.slots) (hdg : decode (mm_by m) pc = .ok (.invokestatic idx, 3))
    (kk : ∀ (H1 : Heap) (locs1 : List Loc), mm_rel E D dA h' H1 → va_S (mm_A E) s.heap H1 locs1 → W p l e R s mth args below meth c H1 locs1 (cells + mc) (slots + ms) Q (F0 mth (pc + 3) ls (r.toList ++ rest))) : W p l e R s mth args below meth c H locs cells slots Q (F0 mth pc ls (as.reverse ++ rest)) := by
  have cx0 := cx
  obtain ⟨hx, hb, -, hml, hown, hts, -, -, hK, hE⟩ := cx
  exact mr_after (va_runSN (n := n) (As := as) ⟨hx, hb, hml, hown, hts⟩ hM ⟨va_cnB n hts (mm_wsGood hcal) rfl rfl rfl hlk (hts _ hini) (mr_d3 hnar) (mr_R hcal hR), hts _ hst, trivial⟩ ⟨mm_blind, mr_pre cx0 hr hS⟩ rfl hn hsz rfl (by show 2 * 0 + mm_sum rest ≤ 8; omega) hdg hf) hS kk
theorem mr_callI {b : Nat} (cx : mm_cx E D dA p s mth args meth c m) (hr : mm_rel E D dA h H) (hS : va_S (mm_A E) s.heap H locs) (hM : Met l (mm_y cal) (mm_ws cal) (mm_rm d mc ms) (mm_Pc E D dA h (.ref b :: as)) (mm_Qc E D dA r h') mc ms (mm_A E)) (hcal : cal < 173) (hlk : Cond.methodLink (mm_own m) idx (mm_y cal) ∈ mm_tbl) (hit : Cond.instanceMethod (mm_y cal) ∈ mm_tbl) (hre : mm_re cal = none) (hnm : (mm_y cal).name = "<init>") (hini : Cond.initialized (mm_y cal).cls ∈ mm_tbl) (hnar : mm_nar1 cal n = true) (hn : as.length = n) (hR : d + 2 ≤ R.frames ∧ 60 * (d + 1) + 60 ≤ R.locals) (hsz : ls.size = mm_maxL m) (hsum : mm_sum rest ≤ 8) (hf : cells + mc ≤ R.cells ∧ slots + ms ≤ R.slots) (hdg : decode (mm_by m) pc = .ok (.invokespecial idx, 3))
    (kk : ∀ (H1 : Heap) (locs1 : List Loc), mm_rel E D dA h' H1 → va_S (mm_A E) s.heap H1 locs1 → W p l e R s mth args below meth c H1 locs1 (cells + mc) (slots + ms) Q (F0 mth (pc + 3) ls (r.toList ++ rest))) : W p l e R s mth args below meth c H locs cells slots Q (F0 mth pc ls (as.reverse ++ .ref b :: rest)) := by
  have cx0 := cx
  obtain ⟨hx, hb, -, hml, hown, hts, -, -, hK, hE⟩ := cx
  have hw : mm_ws cal = Cond.code (mm_y cal) (mm_by cal) (mm_maxL cal) none :: mm_tbl := by unfold mm_ws; rw [hre]
  exact mr_after (va_runI (n := n) (As := as) ⟨hx, hb, hml, hown, hts⟩ hM (cwI n hts (mm_wsGood hcal) hw rfl rfl (hts _ hini) (hts _ hlk) (hts _ hit) hnm (mr_d3 hnar) (mr_R hcal hR)) ⟨mm_blind, mr_pre cx0 hr hS⟩ rfl hn hsz rfl (by show 2 * 0 + mm_sum rest ≤ 8; omega) hdg hf) hS kk
theorem mr_callIN {b : Nat} (cx : mm_cx E D dA p s mth args meth c m) (hr : mm_rel E D dA h H) (hS : va_S (mm_A E) s.heap H locs) (hM : Met l (mm_y cal) (mm_ws cal) (mm_rm d mc ms) (mm_Pc E D dA h (.ref b :: as)) (mm_Qc E D dA r h') mc ms (mm_A E)) (hcal : cal < 173) (hlk : va_Nw (.methodLinkNest (mm_own m) idx (mm_y cal) "BoundsPlanner") s) (hit : Cond.instanceMethod (mm_y cal) ∈ mm_tbl) (hre : mm_re cal = none) (hnm : (mm_y cal).name = "<init>") (hini : Cond.initialized (mm_y cal).cls ∈ mm_tbl) (hnar : mm_nar1 cal n = true) (hn : as.length = n) (hR : d + 2 ≤ R.frames ∧ 60 * (d + 1) + 60 ≤ R.locals) (hsz : ls.size = mm_maxL m) (hsum : mm_sum rest ≤ 8) (hf : cells + mc ≤ R.cells ∧ slots + ms ≤ R.slots) (hdg : decode (mm_by m) pc = .ok (.invokespecial idx, 3))
    (kk : ∀ (H1 : Heap) (locs1 : List Loc), mm_rel E D dA h' H1 → va_S (mm_A E) s.heap H1 locs1 → W p l e R s mth args below meth c H1 locs1 (cells + mc) (slots + ms) Q (F0 mth (pc + 3) ls (r.toList ++ rest))) : W p l e R s mth args below meth c H locs cells slots Q (F0 mth pc ls (as.reverse ++ .ref b :: rest)) := by
  have cx0 := cx
  obtain ⟨hx, hb, -, hml, hown, hts, -, -, hK, hE⟩ := cx
  have hw : mm_ws cal = Cond.code (mm_y cal) (mm_by cal) (mm_maxL cal) none :: mm_tbl := by unfold mm_ws; rw [hre]
  exact mr_after (va_runIN (n := n) (As := as) ⟨hx, hb, hml, hown, hts⟩ hM ⟨va_cnB n hts (mm_wsGood hcal) hw rfl rfl hlk (hts _ hini) (mr_d3 hnar) (mr_R hcal hR), hnm, hts _ hit⟩ ⟨mm_blind, mr_pre cx0 hr hS⟩ rfl hn hsz rfl (by show 2 * 0 + mm_sum rest ≤ 8; omega) hdg hf) hS kk
theorem mr_rcv (cx : mm_cx E D dA p s mth args meth c m) (hr : mm_rel E D dA h H) (hS : va_S (mm_A E) s.heap H locs) {rk b : Nat} (h0 : 0 < rk) (hv : mm_rcv E h rk (some (.ref b)) = true) : ∃ cellB : Cell, H[b]? = some cellB ∧ cellB.vm.isStatics = false ∧ s.vm.findClass (mm_cnm rk) = some cellB.cls := by
  obtain ⟨hx, hb, -, hml, hown, hts, -, -, hK, hE⟩ := cx
  unfold mm_rcv at hv
  dsimp only at hv
  by_cases h100 : rk = 100
  · rw [if_pos h100] at hv
    subst h100
    cases hz : E.2.2 1 b with
    | none => rw [hz] at hv; cases hv
    | some z =>
      rw [hz] at hv
      match z, hz, hv with
      | .inl x, hz, hv => cases hv
      | .inr fs, hz, hv =>
        obtain ⟨cell, g1, g2, g3, g4⟩ := (hE.2.2.2.1 1 b _ hz).2.1
        exact ⟨cell, by rw [hS.2.1 b (Array.getElem?_eq_some_iff.mp g1).1 g4]; exact g1, g2, g3⟩
  · rw [if_neg h100] at hv
    cases hc : h.2.2 b with
    | none => rw [hc] at hv; cases hv
    | some z =>
      rw [hc] at hv
      match z, hc, hv with
      | .inl x, hc, hv => cases hv
      | .inr (ci, fs), hc, hv =>
        have hci : ci + 1 = rk := by simpa using hv
        obtain ⟨C, T, N, cell, h1, g1, g2, g3⟩ := mr_obj hK hr hc
        refine ⟨cell, g1, g2, ?_⟩
        have hnm : mm_cnm rk = C := by
          unfold mm_cnm
          rw [if_neg h100, ← hci, Nat.add_sub_cancel, h1]
          rfl
        rw [hnm]
        exact g3
theorem mr_callV {b rk : Nat} (cx : mm_cx E D dA p s mth args meth c m) (hr : mm_rel E D dA h H) (hS : va_S (mm_A E) s.heap H locs) (hM : Met l (mm_y cal) (mm_ws cal) (mm_rm d mc ms) (mm_Pc E D dA h (.ref b :: as)) (mm_Qc E D dA r h') mc ms (mm_A E)) (hcal : cal < 173) (hlk : Cond.methodLink (mm_own m) idx (mm_y cal) ∈ mm_tbl) (hit : Cond.instanceMethod (mm_y cal) ∈ mm_tbl) (hse : Cond.selects (mm_y cal).cls (mm_y cal) (mm_y cal) ∈ mm_tbl) (hini : Cond.initialized (mm_y cal).cls ∈ mm_tbl) (hnar : mm_nar1 cal n = true) (hn : as.length = n) (h0 : 0 < rk) (hcn : (mm_y cal).cls = mm_cnm rk) (hv : mm_rcv E h rk (some (.ref b)) = true) (hR : d + 2 ≤ R.frames ∧ 60 * (d + 1) + 60 ≤ R.locals) (hsz : ls.size = mm_maxL m) (hsum : mm_sum rest ≤ 8) (hf : cells + mc ≤ R.cells ∧ slots + ms ≤ R.slots) (hdg : decode (mm_by m) pc = .ok (.invokevirtual idx, 3))
    (kk : ∀ (H1 : Heap) (locs1 : List Loc), mm_rel E D dA h' H1 → va_S (mm_A E) s.heap H1 locs1 → W p l e R s mth args below meth c H1 locs1 (cells + mc) (slots + ms) Q (F0 mth (pc + 3) ls (r.toList ++ rest))) : W p l e R s mth args below meth c H locs cells slots Q (F0 mth pc ls (as.reverse ++ .ref b :: rest)) := by
  have cx0 := cx
  obtain ⟨hx, hb, -, hml, hown, hts, -, -, hK, hE⟩ := cx
  have hG : GoodIn mm_tbl (wsV (mm_own m) idx (mm_y cal).cls (mm_y cal) (mm_ws cal)) := fun w hw => by
    simp only [wsV, List.mem_append, List.mem_cons, List.not_mem_nil, or_false] at hw
    rcases hw with (rfl | rfl | rfl | rfl) | hw
    · exact mm_goodIn _ hlk
    · exact mm_goodIn _ hit
    · exact mm_goodIn _ hse
    · exact mm_goodIn _ hini
    · exact mm_wsGood hcal w hw
  exact mr_after (va_runV (n := n) (As := as) ⟨hx, hb, hml, hown, hts⟩ hM (cwV n hts hG rfl rfl rfl ⟨rfl, mr_d3 hnar⟩ (mr_R hcal hR)) ⟨mm_blind, by rw [hcn]; exact mr_rcv cx0 hr hS h0 hv, mr_pre cx0 hr hS⟩ rfl hn hsz rfl (by show 2 * 0 + mm_sum rest ≤ 8; omega) hdg hf) hS kk
theorem mr_callVN {b rk : Nat} (cx : mm_cx E D dA p s mth args meth c m) (hr : mm_rel E D dA h H) (hS : va_S (mm_A E) s.heap H locs) (hM : Met l (mm_y cal) (mm_ws cal) (mm_rm d mc ms) (mm_Pc E D dA h (.ref b :: as)) (mm_Qc E D dA r h') mc ms (mm_A E)) (hcal : cal < 173) (hlk : va_Nw (.methodLinkNest (mm_own m) idx (mm_y cal) "BoundsPlanner") s) (hit : Cond.instanceMethod (mm_y cal) ∈ mm_tbl) (hse : Cond.selects (mm_y cal).cls (mm_y cal) (mm_y cal) ∈ mm_tbl) (hini : Cond.initialized (mm_y cal).cls ∈ mm_tbl) (hnar : mm_nar1 cal n = true) (hn : as.length = n) (h0 : 0 < rk) (hcn : (mm_y cal).cls = mm_cnm rk) (hv : mm_rcv E h rk (some (.ref b)) = true) (hR : d + 2 ≤ R.frames ∧ 60 * (d + 1) + 60 ≤ R.locals) (hsz : ls.size = mm_maxL m) (hsum : mm_sum rest ≤ 8) (hf : cells + mc ≤ R.cells ∧ slots + ms ≤ R.slots) (hdg : decode (mm_by m) pc = .ok (.invokevirtual idx, 3))
    (kk : ∀ (H1 : Heap) (locs1 : List Loc), mm_rel E D dA h' H1 → va_S (mm_A E) s.heap H1 locs1 → W p l e R s mth args below meth c H1 locs1 (cells + mc) (slots + ms) Q (F0 mth (pc + 3) ls (r.toList ++ rest))) : W p l e R s mth args below meth c H locs cells slots Q (F0 mth pc ls (as.reverse ++ .ref b :: rest)) := by
  have cx0 := cx
  obtain ⟨hx, hb, -, hml, hown, hts, -, -, hK, hE⟩ := cx
  exact mr_after (va_runVN (n := n) (As := as) ⟨hx, hb, hml, hown, hts⟩ hM ⟨va_cnB n hts (mm_wsGood hcal) rfl rfl rfl hlk (hts _ hini) (mr_d3 hnar) (mr_R hcal hR), hts _ hit, hts _ hse⟩ ⟨mm_blind, by rw [hcn]; exact mr_rcv cx0 hr hS h0 hv, mr_pre cx0 hr hS⟩ rfl hn hsz rfl (by show 2 * 0 + mm_sum rest ≤ 8; omega) hdg hf) hS kk
end MR
end
section
def mm_pcH (is : List mmI) : Nat := (is.head?.map (fun i => i.1)).getD 0
/-- a return instruction for that answer -/
def mm_rd (m pc : Nat) (r : Option Value) : Prop := match r with
  | none => decode (mm_by m) pc = .ok (.return_, 1) ∧ mm_re m = none
  | some (.int v) => decode (mm_by m) pc = .ok (.ireturn, 1) ∧ ∃ ty, mm_re m = some ty ∧ narrow ty (.int v) = .int v
  | some (.long _) => decode (mm_by m) pc = .ok (.lreturn, 1) ∧ mm_re m = some .long
  | some v => decode (mm_by m) pc = .ok (.areturn, 1) ∧ (∃ rt, mm_re m = some rt ∧ ((∃ n, rt = .object n) ∨ ∃ t, rt = .array t)) ∧ (v = .null ∨ ∃ a, v = .ref a)
def mm_gen (i : Instr) : Bool := match i with
  | .athrow => false
  | .nop => false
  | .tableswitch _ _ _ _ => false
  | _ => true
theorem mm_ddS {bs : ByteArray} {pc n : Nat} {ins : Instr} (h : mm_dd bs pc ins n = true) : decode bs pc = .ok (ins, n) := by
  unfold mm_dd at h
  split at h
  · rename_i j k hj
    simp only [Bool.and_eq_true, decide_eq_true_eq] at h
    rw [hj, h.1, h.2]
  · cases h
def mm_nk (nx : Option Nat) (k0 : Nat) : Bool := match nx with
  | some k => decide (k = k0)
  | none => true
theorem mm_dkS {bs : ByteArray} {pc : Nat} {ins : Instr} {ex : List Nat} {nx : Option Nat} (hg : mm_gen ins = true) (h : mm_dk bs (pc, ins, ex) nx = true) : decode bs pc = .ok (ins, mm_ln ins) ∧ ∀ k, nx = some k → k = pc + mm_ln ins := by
  have h2 : (mm_dd bs pc ins (mm_ln ins) && mm_nk nx (pc + mm_ln ins)) = true := by
    cases ins <;> first | exact h | cases hg
  rw [Bool.and_eq_true] at h2
  refine ⟨mm_ddS h2.1, fun k hk => ?_⟩
  rw [hk] at h2
  exact of_decide_eq_true h2.2
theorem mm_dtS {bs : ByteArray} {pc : Nat} {df lo hi : Int} {offs : Array Int} {ex : List Nat} {nx : Option Nat} (h : mm_dk bs (pc, .tableswitch df lo hi offs, ex) nx = true) : ∃ n, decode bs pc = .ok (.tableswitch df lo hi offs, n) := by
  have h2 : mm_dt bs pc (.tableswitch df lo hi offs) = true := h
  unfold mm_dt at h2
  split at h2
  · rename_i j k hj
    exact ⟨k, by rw [hj, of_decide_eq_true h2]⟩
  · cases h2
theorem mm_toS {m pc b : Nat} {o : Int} (h : mm_to m pc o b = true) : ∃ t, mm_hd m b = some t ∧ (pc : Int) + o = (t : Int) := by
  unfold mm_to at h
  split at h
  · rename_i t ht
    exact ⟨t, ht, of_decide_eq_true h⟩
  · cases h
section INV
variable {S : List Value} {nx : List Value → List Value → mmH → Option (Option Value × mmH)} {br : Bool → Nat → List Value → Option (Option Value × mmH)} {jp : Nat → List Value → Option (Option Value × mmH)} {rt : Option Value → Option (Option Value × mmH)} {cl : Nat → List Value → List Value → Option (Option Value × mmH)} {v : Option Value × mmH}
theorem inv_ii {f : Int32 → Int32 → List Value → mmO} (h : mm_then (mm_ii S f) none nx br jp rt cl = some v) : ∃ x y r, S = .int y :: .int x :: r ∧ mm_then (f x y r) none nx br jp rt cl = some v := by
  unfold mm_ii at h
  split at h
  · exact ⟨_, _, _, rfl, h⟩
  · cases h
theorem inv_ll {f : Int64 → Int64 → List Value → mmO} (h : mm_then (mm_ll S f) none nx br jp rt cl = some v) : ∃ x y r, S = .long y :: .long x :: r ∧ mm_then (f x y r) none nx br jp rt cl = some v := by
  unfold mm_ll at h
  split at h
  · exact ⟨_, _, _, rfl, h⟩
  · cases h
theorem inv_li {f : Int64 → Int32 → List Value → mmO} (h : mm_then (mm_li S f) none nx br jp rt cl = some v) : ∃ x y r, S = .int y :: .long x :: r ∧ mm_then (f x y r) none nx br jp rt cl = some v := by
  unfold mm_li at h
  split at h
  · exact ⟨_, _, _, rfl, h⟩
  · cases h
theorem inv_i {f : Int32 → List Value → mmO} (h : mm_then (mm_i S f) none nx br jp rt cl = some v) : ∃ x r, S = .int x :: r ∧ mm_then (f x r) none nx br jp rt cl = some v := by
  unfold mm_i at h
  split at h
  · exact ⟨_, _, rfl, h⟩
  · cases h
theorem inv_l {f : Int64 → List Value → mmO} (h : mm_then (mm_l S f) none nx br jp rt cl = some v) : ∃ x r, S = .long x :: r ∧ mm_then (f x r) none nx br jp rt cl = some v := by
  unfold mm_l at h
  split at h
  · exact ⟨_, _, rfl, h⟩
  · cases h
theorem inv_a {f : Nat → List Value → mmO} (h : mm_then (mm_a S f) none nx br jp rt cl = some v) : ∃ x r, S = .ref x :: r ∧ mm_then (f x r) none nx br jp rt cl = some v := by
  unfold mm_a at h
  split at h
  · exact ⟨_, _, rfl, h⟩
  · cases h
theorem inv_ia {f : Int32 → Nat → List Value → mmO} (h : mm_then (mm_ia S f) none nx br jp rt cl = some v) : ∃ i a r, S = .int i :: .ref a :: r ∧ mm_then (f i a r) none nx br jp rt cl = some v := by
  unfold mm_ia at h
  split at h
  · exact ⟨_, _, _, rfl, h⟩
  · cases h
theorem inv_if {c : Prop} [Decidable c] {o : mmO} (h : mm_then (if c then o else mm_bad) none nx br jp rt cl = some v) : c ∧ mm_then o none nx br jp rt cl = some v := by
  by_cases hc : c
  · rw [if_pos hc] at h
    exact ⟨hc, h⟩
  · rw [if_neg hc] at h
    cases h
theorem inv_fi {c : Prop} [Decidable c] {o : mmO} (h : mm_then (if c then mm_bad else o) none nx br jp rt cl = some v) : ¬ c ∧ mm_then o none nx br jp rt cl = some v := by
  by_cases hc : c
  · rw [if_pos hc] at h
    cases h
  · rw [if_neg hc] at h
    exact ⟨hc, h⟩
theorem inv_ld {L : List Value} {h0 : mmH} {i t : Nat} (h : mm_then (mm_ld L S h0 i t) none nx br jp rt cl = some v) : ∃ w, L[i]? = some w ∧ w ≠ mm_un ∧ nx L (w :: S) h0 = some v ∧ ((t = 0 ∧ ∃ x, w = .int x) ∨ (t = 2 ∧ ∃ x, w = .long x) ∨ (t = 3 ∧ (w = .null ∨ ∃ a, w = .ref a))) := by
  unfold mm_ld at h
  split at h
  · obtain ⟨ht, h⟩ := inv_if h
    exact ⟨_, by assumption, (fun q => by cases q), h, Or.inl ⟨ht, _, rfl⟩⟩
  · obtain ⟨ht, h⟩ := inv_if h
    exact ⟨_, by assumption, (fun q => by cases q), h, Or.inr (Or.inl ⟨ht, _, rfl⟩)⟩
  · obtain ⟨ht, h⟩ := inv_if h
    exact ⟨_, by assumption, (fun q => by cases q), h, Or.inr (Or.inr ⟨ht, Or.inl rfl⟩)⟩
  · obtain ⟨ht, h⟩ := inv_if h
    exact ⟨_, by assumption, (fun q => by cases q), h, Or.inr (Or.inr ⟨ht, Or.inr ⟨_, rfl⟩⟩)⟩
  · cases h
theorem inv_sto {L : List Value} {h0 : mmH} {i t : Nat} (h : mm_then (mm_sto L S h0 i t) none nx br jp rt cl = some v) : ∃ w r, S = w :: r ∧ ((t = 0 ∧ i < L.length ∧ (∃ x, w = .int x) ∧ nx (mm_st1 L i w) r h0 = some v) ∨ (t = 2 ∧ i + 1 < L.length ∧ (∃ x, w = .long x) ∧ nx (mm_st2 L i w) r h0 = some v) ∨ (t = 3 ∧ i < L.length ∧ (w = .null ∨ ∃ a, w = .ref a) ∧ nx (mm_st1 L i w) r h0 = some v)) := by
  unfold mm_sto at h
  split at h
  · obtain ⟨ht, h⟩ := inv_if h
    exact ⟨_, _, rfl, Or.inl ⟨ht.1, ht.2, ⟨_, rfl⟩, h⟩⟩
  · obtain ⟨ht, h⟩ := inv_if h
    exact ⟨_, _, rfl, Or.inr (Or.inl ⟨ht.1, ht.2, ⟨_, rfl⟩, h⟩)⟩
  · obtain ⟨ht, h⟩ := inv_if h
    exact ⟨_, _, rfl, Or.inr (Or.inr ⟨ht.1, ht.2, Or.inl rfl, h⟩)⟩
  · obtain ⟨ht, h⟩ := inv_if h
    exact ⟨_, _, rfl, Or.inr (Or.inr ⟨ht.1, ht.2, Or.inr ⟨_, rfl⟩, h⟩)⟩
  · cases h
end INV
/-- an outcome makes the heap no smaller -/
def mm_om (h : mmH) (o : mmO) : Prop := match o with
  | .inr (.inl (_, _, h')) => h.1 ≤ h'.1 ∧ h.2.1 ≤ h'.2.1
  | _ => True
theorem mm_om_step (E : mmE) (L S : List Value) (h : mmH) (ins : Instr) (ex : List Nat) : mm_om h (mm_step E L S h ins ex) := by
  unfold mm_step
  split
  all_goals repeat' (first | (exact trivial) | (exact ⟨Nat.le_refl _, Nat.le_refl _⟩) | (exact ⟨Nat.le_succ _, Nat.le_add_right _ _⟩) | (unfold mm_ii) | (unfold mm_ll) | (unfold mm_li) | (unfold mm_ia) | (unfold mm_i) | (unfold mm_l) | (unfold mm_a) | (unfold mm_ld) | (unfold mm_sto) | (unfold mm_copy) | (unfold mm_call) | split | (dsimp only))
theorem mm_mono {E : mmE} : ∀ (f d m : Nat) (is : List mmI) (L S : List Value) (h : mmH) (r : Option Value) (hF : mmH), mm_run E f d m is L S h = some (r, hF) → h.1 ≤ hF.1 ∧ h.2.1 ≤ hF.2.1 := by
  intro f
  induction f with
  | zero => intro d m is L S h r hF hrun; cases hrun
  | succ f ih =>
    intro d m is L S h r hF hrun
    cases is with
    | nil => cases hrun
    | cons i is =>
      have hom := mm_om_step E L S h i.2.1 i.2.2
      rw [mm_run] at hrun
      generalize mm_step E L S h i.2.1 i.2.2 = o at hrun hom
      match o, hrun, hom with
      | .inl _, hrun, _ => cases hrun
      | .inr (.inl (L', S', h')), hrun, hom =>
        have h2 := ih _ _ _ _ _ _ _ _ hrun
        exact ⟨Nat.le_trans hom.1 h2.1, Nat.le_trans hom.2 h2.2⟩
      | .inr (.inr (.inl (cnd, b, S'))), hrun, _ =>
        have hrun : (if cnd then mm_run E f d m (mm_blk m b) L S' h else mm_run E f d m is L S' h) = some (r, hF) := hrun
        cases cnd with
        | true => exact ih _ _ _ _ _ _ _ _ hrun
        | false => exact ih _ _ _ _ _ _ _ _ hrun
      | .inr (.inr (.inr (.inl (b, S')))), hrun, _ => exact ih _ _ _ _ _ _ _ _ hrun
      | .inr (.inr (.inr (.inr (.inl w)))), hrun, _ =>
        have hrun : some (w, h) = some (r, hF) := hrun
        cases hrun
        exact ⟨Nat.le_refl _, Nat.le_refl _⟩
      | .inr (.inr (.inr (.inr (.inr (k, as, r'))))), hrun, _ =>
        cases d with
        | zero => cases hrun
        | succ d' =>
          have hrun : (if (mm_lay as).length ≤ mm_maxL k ∧ (mm_iss.getD k true || mm_hr as) = true then (match mm_run E f d' k (mm_blk k 0) (mm_ent (mm_maxL k) as) [] h with
            | some (v, h') => mm_run E f (d' + 1) m is L (v.toList ++ r') h'
            | none => none) else none) = some (r, hF) := hrun
          split at hrun
          · split at hrun
            · rename_i w h' hw
              have h1 := ih _ _ _ _ _ _ _ _ hw
              have h2 := ih _ _ _ _ _ _ _ _ hrun
              exact ⟨Nat.le_trans h1.1 h2.1, Nat.le_trans h1.2 h2.2⟩
            · cases hrun
          · cases hrun
end
section
def mm_Wst (l : Launch) (f : Nat) : Prop := ∀ (p : Program) (e : Env) (R : Room) (s : State) (mth : MethodId) (args : Array Value) (below : List Frame) (meth : Method) (c : Code) (Q : State → Prop) (E : mmE) (D : va_G) (dA : Nat → ClassId) (m d : Nat) (is : List mmI) (L S : List Value) (h : mmH) (r : Option Value) (hF : mmH) (H : Heap) (ls : Array Slot) (locs : List Loc) (z0 z1 : Nat),
  mm_cx E D dA p s mth args meth c m → mm_okL m is = true → mm_run E f d m is L S h = some (r, hF) → d + 1 ≤ R.frames → 60 * d + 60 ≤ R.locals → hF.1 ≤ z0 + R.cells → hF.2.1 ≤ z1 + R.slots → z0 ≤ h.1 → z1 ≤ h.2.1 → mm_rel E D dA h H → va_S (mm_A E) s.heap H locs → mm_loc L ls → L.length = mm_maxL m →
  (∀ (H1 : Heap) (locs1 : List Loc) (pc : Nat) (ls1 : Array Slot), mm_rel E D dA hF H1 → va_S (mm_A E) s.heap H1 locs1 → mm_rd m pc r → W p l e R s mth args below meth c H1 locs1 (hF.1 - z0) (hF.2.1 - z1) Q (F0 mth pc ls1 r.toList)) →
  W p l e R s mth args below meth c H locs (h.1 - z0) (h.2.1 - z1) Q (F0 mth (mm_pcH is) ls S)
/-- the contract of a method out of a run of it -/
theorem mm_met {l : Launch} {f : Nat} (ih : mm_Wst l f) {E : mmE} {D : va_G} {dA : Nat → ClassId} {d k : Nat} {as : List Value} {h h' : mmH} {r : Option Value} (hk : k < 173) (hle : (mm_lay as).length ≤ mm_maxL k) (hrun : mm_run E f d k (mm_blk k 0) (mm_ent (mm_maxL k) as) [] h = some (r, h')) :
    Met l (mm_y k) (mm_ws k) (mm_rm d (h'.1 - h.1) (h'.2.1 - h.2.1)) (mm_Pc E D dA h as) (mm_Qc E D dA r h') (h'.1 - h.1) (h'.2.1 - h.2.1) (mm_A E) := by
  have hmono := mm_mono _ _ _ _ _ _ _ _ _ hrun
  refine va_MetF (cc := mm_by k) (maxL := mm_maxL k) (ret := mm_re k) (mm_plain k hk) rfl ?_
  intro p e s mth args below meth c s₁ B hml hv
  obtain ⟨rfl, hrel, hK, hE⟩ := hv
  have hts0 := atoms_spec (ws := mm_ws k) B.pre
  have cx : mm_cx E D dA p s mth as.toArray meth c k := ⟨B.exec, B.bytes, B.returns, hml, findClass_of_methodNamed B.named, fun w hw => hts0 w (List.mem_cons_of_mem _ hw), B.notSynchronized, fun hn => (name_of_methodNamed B.named B.method).1.trans hn, hK, hE⟩
  have hpc : mm_pcH (mm_blk k 0) = 0 := by
    have h0 : ∀ k, k < 173 → mm_pcH (mm_blk k 0) = 0 := by decide +kernel
    exact h0 k hk
  rw [lg_entry_eq]
  have hW := ih p e (mm_rm d (h'.1 - h.1) (h'.2.1 - h.2.1)) s mth as.toArray below meth c (MQ below (mm_Qc E D dA r h') as.toArray s (h'.1 - h.1) (h'.2.1 - h.2.1) (mm_A E)) E D dA k d (mm_blk k 0) (mm_ent (mm_maxL k) as) [] h r h' s.heap _ [] h.1 h.2.1 cx (mm_okB k 0) hrun (Nat.le_refl _) (Nat.le_refl _) (by show h'.1 ≤ h.1 + (h'.1 - h.1); omega) (by show h'.2.1 ≤ h.2.1 + (h'.2.1 - h.2.1); omega) (Nat.le_refl _) (Nat.le_refl _) hrel va_S.rf (mm_ent_loc hle) (mm_ent_len hle) ?_
  · rw [Nat.sub_self, Nat.sub_self, hpc] at hW
    exact hW
  · intro H1 locs1 pc ls1 hr1 hS1 hrd
    have hq : ∀ t : State, t.heap = H1 → s.WarmedH t.vm → mm_Qc E D dA r h' as.toArray s (.returned r) t := fun t ht _ => ⟨rfl, by rw [ht]; exact hr1, by rw [ht]; exact hS1.1, fun q g1 g2 => by rw [ht]; exact hS1.2.1 q g1 g2⟩
    match r, hq, hrd with
    | none, hq, hrd => exact W.vret B.exec B.bytes (B.returns.trans hrd.2) hq hS1.2.2 hrd.1
    | some (.int v), hq, hrd =>
      obtain ⟨hd, ty, hty, hn⟩ := hrd
      exact W.zret B.exec B.bytes (B.returns.trans hty) hn hq hS1.2.2 hd
    | some (.long v), hq, hrd => exact W.lret B.exec B.bytes (B.returns.trans hrd.2) hq hS1.2.2 hrd.1
    | some .null, hq, hrd =>
      obtain ⟨hd, ⟨rt, hrt, hk2⟩, hv⟩ := hrd
      exact W.aret B.exec B.bytes (B.returns.trans hrt) hk2 hv hq hS1.2.2 hd
    | some (.ref a), hq, hrd =>
      obtain ⟨hd, ⟨rt, hrt, hk2⟩, hv⟩ := hrd
      exact W.aret B.exec B.bytes (B.returns.trans hrt) hk2 hv hq hS1.2.2 hd
    | some (.float b), _, hrd => obtain ⟨-, -, h1 | ⟨a, h1⟩⟩ := hrd <;> cases h1
    | some (.double b), _, hrd => obtain ⟨-, -, h1 | ⟨a, h1⟩⟩ := hrd <;> cases h1
    | some (.retAddr b), _, hrd => obtain ⟨-, -, h1 | ⟨a, h1⟩⟩ := hrd <;> cases h1
theorem mm_cat1 {v : Value} (h : ¬ mm_wide v = true) : v.category = 1 := by
  rcases lv_cat v with q | q
  · exact q
  · exact absurd ((mm_wide_cat v).mpr q) h
theorem mm_orefS {v : Value} {x : Option Nat} (h : mm_oref v = some x) : v = va_rf x := by
  cases v <;> first | (cases h; rfl) | cases h
theorem mm_callS {E : mmE} {f d m pc : Nat} {ins : Instr} {is : List mmI} {L S : List Value} {h : mmH} {ex : List Nat} {r : Option Value} {hF : mmH} (hs : mm_step E L S h ins ex = mm_call E L S h ex) (hrun : mm_run E (f + 1) d m ((pc, ins, ex) :: is) L S h = some (r, hF)) :
    mm_k1 ex ≤ S.length ∧ mm_sum (S.drop (mm_k1 ex)) ≤ 8 ∧ (mm_k2 ex = 0 ∨ mm_rcv E h (mm_k2 ex) (S[mm_k1 ex - 1]?) = true) ∧ ∃ d', d = d' + 1 ∧ (mm_lay (S.take (mm_k1 ex)).reverse).length ≤ mm_maxL (mm_k0 ex) ∧ (mm_iss.getD (mm_k0 ex) true || mm_hr (S.take (mm_k1 ex)).reverse) = true ∧ ∃ w h', mm_run E f d' (mm_k0 ex) (mm_blk (mm_k0 ex) 0) (mm_ent (mm_maxL (mm_k0 ex)) (S.take (mm_k1 ex)).reverse) [] h = some (w, h') ∧ mm_run E f d m is L (w.toList ++ S.drop (mm_k1 ex)) h' = some (r, hF) := by
  rw [mm_run] at hrun
  dsimp only at hrun
  rw [hs] at hrun
  unfold mm_call at hrun
  obtain ⟨⟨c1, c2, c3⟩, hrun⟩ := inv_if hrun
  refine ⟨c1, c2, c3, ?_⟩
  cases d with
  | zero => cases hrun
  | succ d' =>
    have hrun : (if (mm_lay (S.take (mm_k1 ex)).reverse).length ≤ mm_maxL (mm_k0 ex) ∧ (mm_iss.getD (mm_k0 ex) true || mm_hr (S.take (mm_k1 ex)).reverse) = true then (match mm_run E f d' (mm_k0 ex) (mm_blk (mm_k0 ex) 0) (mm_ent (mm_maxL (mm_k0 ex)) (S.take (mm_k1 ex)).reverse) [] h with
      | some (v, h') => mm_run E f (d' + 1) m is L (v.toList ++ S.drop (mm_k1 ex)) h'
      | none => none) else none) = some (r, hF) := hrun
    split at hrun
    · rename_i hc
      split at hrun
      · rename_i w h' hw
        exact ⟨d', rfl, hc.1, hc.2, w, h', hw, hrun⟩
      · cases hrun
    · cases hrun
def mm_isN (w : Cond) : Bool := match w with
  | .methodLinkNest _ _ _ _ => true
  | _ => false
theorem mm_nestAll : lw_tbl.all (fun w => !mm_isN w || decide (w ∈ mm_nest)) = true := by decide +kernel
theorem mm_cwS {own : String} {idx : Nat} {ex : List Nat} (h : mm_cw own idx ex = true) : mm_k0 ex < 173 ∧ (Cond.methodLink own idx (mm_y (mm_k0 ex)) ∈ lw_tbl ∨ Cond.methodLinkNest own idx (mm_y (mm_k0 ex)) "BoundsPlanner" ∈ mm_nest) ∧ Cond.initialized (mm_y (mm_k0 ex)).cls ∈ lw_tbl := by
  unfold mm_cw at h
  simp only [Bool.and_eq_true, decide_eq_true_eq] at h
  obtain ⟨⟨h1, h2⟩, h3⟩ := h
  refine ⟨h1, ?_, mm_wdm h3⟩
  by_cases h4 : ex.getD 4 0 = 1
  · rw [if_pos h4] at h2
    right
    have := List.all_eq_true.mp mm_nestAll _ (mm_wdm h2)
    simpa [mm_isN] using this
  · rw [if_neg h4] at h2
    exact Or.inl (mm_wdm h2)
theorem mm_cwS0 {own : String} {idx : Nat} {ex : List Nat} (h : mm_cw own idx ex = true) (h4 : ex.getD 4 0 = 0) : Cond.methodLink own idx (mm_y (mm_k0 ex)) ∈ lw_tbl := by
  unfold mm_cw at h
  simp only [Bool.and_eq_true, decide_eq_true_eq] at h
  obtain ⟨⟨h1, h2⟩, h3⟩ := h
  rw [if_neg (by omega)] at h2
  exact mm_wdm h2
theorem mm_rcvS {E : mmE} {h : mmH} {rk : Nat} {v : Option Value} (hv : mm_rcv E h rk v = true) : ∃ b, v = some (.ref b) := by
  cases v with
  | none => cases hv
  | some w => cases w <;> first | exact ⟨_, rfl⟩ | cases hv
theorem mm_spl {S : List Value} {k b : Nat} (h0 : 0 < k) (h1 : k ≤ S.length) (h2 : S[k - 1]? = some (.ref b)) : ∃ as, (S.take k).reverse = .ref b :: as ∧ as.length = k - 1 ∧ S = as.reverse ++ .ref b :: S.drop k := by
  obtain ⟨j, rfl⟩ : ∃ j, k = j + 1 := ⟨k - 1, by omega⟩
  rw [Nat.add_sub_cancel] at h2 ⊢
  have e1 : S.take (j + 1) = S.take j ++ [.ref b] := by
    rw [List.take_succ, h2]
    rfl
  refine ⟨(S.take j).reverse, by rw [e1, List.reverse_append]; rfl, by rw [List.length_reverse, List.length_take]; omega, ?_⟩
  rw [List.reverse_reverse]
  have e2 := List.take_append_drop (j + 1) S
  rw [e1, List.append_assoc] at e2
  exact e2.symm
theorem mm_issI : ∀ k, k < 173 → (mm_y k).name = "<init>" → mm_iss.getD k true = false := by decide +kernel
theorem mm_hrS {as : List Value} (h : mm_hr as = true) : ∃ b bs, as = .ref b :: bs := by
  cases as with
  | nil => cases h
  | cons w ws => cases w <;> first | exact ⟨_, _, rfl⟩ | cases h
theorem mm_hrT {S : List Value} {k b : Nat} {bs : List Value} (h0 : 0 < k) (h1 : k ≤ S.length) (h2 : (S.take k).reverse = .ref b :: bs) : S[k - 1]? = some (.ref b) := by
  obtain ⟨j, rfl⟩ : ∃ j, k = j + 1 := ⟨k - 1, by omega⟩
  rw [Nat.add_sub_cancel]
  have hj : j < S.length := by omega
  rw [List.take_succ, List.getElem?_eq_getElem hj] at h2
  rw [List.getElem?_eq_getElem hj]
  simp only [Option.toList_some, List.reverse_append, List.reverse_cons, List.reverse_nil, List.nil_append, List.singleton_append, List.cons.injEq] at h2
  rw [h2.1]
end
section
def mm_kbr (E : mmE) (f d m : Nat) (is : List mmI) (L : List Value) (h : mmH) : Bool → Nat → List Value → Option (Option Value × mmH) := fun c b S => if c then mm_run E f d m (mm_blk m b) L S h else mm_run E f d m is L S h
def mm_kcl (E : mmE) (f d m : Nat) (is : List mmI) (L : List Value) (h : mmH) : Nat → List Value → List Value → Option (Option Value × mmH) := fun c as r => match d with
  | 0 => none
  | d' + 1 => if (mm_lay as).length ≤ mm_maxL c ∧ (mm_iss.getD c true || mm_hr as) = true then (match mm_run E f d' c (mm_blk c 0) (mm_ent (mm_maxL c) as) [] h with
    | some (v, h') => mm_run E f d m is L (v.toList ++ r) h'
    | none => none) else none
theorem mm_run_cons (E : mmE) (f d m : Nat) (i : mmI) (is : List mmI) (L S : List Value) (h : mmH) : mm_run E (f + 1) d m (i :: is) L S h = mm_then (mm_step E L S h i.2.1 i.2.2) none (fun L S h => mm_run E f d m is L S h) (mm_kbr E f d m is L h) (fun b S => mm_run E f d m (mm_blk m b) L S h) (fun v => some (v, h)) (mm_kcl E f d m is L h) := by
  rw [mm_run]
  rfl
set_option maxHeartbeats 8000000 in
set_option maxRecDepth 100000 in
/-- WHAT THE SMALL MACHINE DOES, THE JVM DOES -/
theorem mm_W (l : Launch) : ∀ f, mm_Wst l f := by
  intro f
  induction f with
  | zero => intro p e R s mth args below meth c Q E D dA m d is L S h r hF H ls locs z0 z1 _ _ hrun; cases hrun
  | succ f ih =>
    intro p e R s mth args below meth c Q E D dA m d is L S h r hF H ls locs z0 z1 cx hok hrun hfr hlo hcR hsR hz0 hz1 hr hS hloc hLn hfin
    cases is with
    | nil => cases hrun
    | cons i is =>
      obtain ⟨pc, ins, ex⟩ := i
      simp only [mm_okL, Bool.and_eq_true] at hok
      obtain ⟨⟨⟨hdk, htk⟩, hlk⟩, hok'⟩ := hok
      have hsz : ls.size = mm_maxL m := hloc.1.trans hLn
      have hx := cx.1
      have hb := cx.2.1
      have hown := cx.2.2.2.2.1
      have hts := cx.2.2.2.2.2.1
      have hrun0 := hrun
      rw [mm_run_cons] at hrun
      have hfr1 : 1 ≤ R.frames := by omega
      have hlo60 : 60 ≤ R.locals := by omega
      have hmono : h.1 ≤ hF.1 ∧ h.2.1 ≤ hF.2.1 := mm_mono (f + 1) d m ((pc, ins, ex) :: is) L S h r hF hrun0
      have hhas := hloc.has
      have K : mm_gen ins = true → ∀ (L' S' : List Value) (h' : mmH) (H' : Heap) (ls' : Array Slot) (locs' : List Loc), mm_run E f d m is L' S' h' = some (r, hF) → z0 ≤ h'.1 → z1 ≤ h'.2.1 → mm_rel E D dA h' H' → va_S (mm_A E) s.heap H' locs' → mm_loc L' ls' → L'.length = mm_maxL m → W p l e R s mth args below meth c H' locs' (h'.1 - z0) (h'.2.1 - z1) Q (F0 mth (pc + mm_ln ins) ls' S') := by
        intro hg L' S' h' H' ls' locs' hrun' a1 a2 a3 a4 a5 a6
        have hp : mm_pcH is = pc + mm_ln ins := by
          cases is with
          | nil => cases f <;> cases hrun'
          | cons j js => exact (mm_dkS hg hdk).2 _ rfl
        rw [← hp]
        exact ih p e R s mth args below meth c Q E D dA m d is L' S' h' r hF H' ls' locs' z0 z1 cx hok' hrun' hfr hlo hcR hsR a1 a2 a3 a4 a5 a6 hfin
      have K1 : mm_gen ins = true → ∀ (S' : List Value), mm_run E f d m is L S' h = some (r, hF) → W p l e R s mth args below meth c H locs (h.1 - z0) (h.2.1 - z1) Q (F0 mth (pc + mm_ln ins) ls S') := fun hg S' hrun' => K hg L S' h H ls locs hrun' hz0 hz1 hr hS hloc hLn
      have KL : mm_gen ins = true → ∀ (L' S' : List Value) (ls' : Array Slot), mm_run E f d m is L' S' h = some (r, hF) → mm_loc L' ls' → L'.length = L.length → W p l e R s mth args below meth c H locs (h.1 - z0) (h.2.1 - z1) Q (F0 mth (pc + mm_ln ins) ls' S') := fun hg L' S' ls' hrun' g1 g2 => K hg L' S' h H ls' locs hrun' hz0 hz1 hr hS g1 (g2.trans hLn)
      have KH : mm_gen ins = true → ∀ (S' : List Value) (a : Nat) (cc : mmC), mm_run E f d m is L S' (mm_set h a cc) = some (r, hF) → ∀ (H1 : Heap) (locs1 : List Loc), mm_rel E D dA (mm_set h a cc) H1 → va_S (mm_A E) s.heap H1 locs1 → W p l e R s mth args below meth c H1 locs1 (h.1 - z0) (h.2.1 - z1) Q (F0 mth (pc + mm_ln ins) ls S') := fun hg S' a cc hrun' H1 locs1 g1 g2 => K hg L S' (mm_set h a cc) H1 ls locs1 hrun' hz0 hz1 g1 g2 hloc hLn
      have KN : mm_gen ins = true → ∀ (S' : List Value) (n : Nat) (cc : mmC), mm_run E f d m is L S' (mm_new h n cc) = some (r, hF) → (h.1 - z0 + 1 ≤ R.cells ∧ h.2.1 - z1 + n ≤ R.slots) ∧ ∀ (H1 : Heap), mm_rel E D dA (mm_new h n cc) H1 → va_S (mm_A E) s.heap H1 locs → W p l e R s mth args below meth c H1 locs (h.1 - z0 + 1) (h.2.1 - z1 + n) Q (F0 mth (pc + mm_ln ins) ls S') := by
        intro hg S' n cc hrun'
        have hm := mm_mono _ _ _ _ _ _ _ _ _ hrun'
        have e1 : (mm_new h n cc).1 = h.1 + 1 := rfl
        have e2 : (mm_new h n cc).2.1 = h.2.1 + n := rfl
        rw [e1, e2] at hm
        refine ⟨⟨by omega, by omega⟩, fun H1 g1 g2 => ?_⟩
        have hW := K hg L S' (mm_new h n cc) H1 ls locs hrun' (by rw [e1]; omega) (by rw [e2]; omega) g1 g2 hloc hLn
        rw [e1, e2, show h.1 + 1 - z0 = h.1 - z0 + 1 by omega, show h.2.1 + n - z1 = h.2.1 - z1 + n by omega] at hW
        exact hW
      have KB : ∀ (b t : Nat) (S' : List Value), mm_hd m b = some t → mm_run E f d m (mm_blk m b) L S' h = some (r, hF) → W p l e R s mth args below meth c H locs (h.1 - z0) (h.2.1 - z1) Q (F0 mth t ls S') := by
        intro b t S' ht hrun'
        have hp : mm_pcH (mm_blk m b) = t := by
          unfold mm_pcH
          unfold mm_hd at ht
          rw [ht]
          rfl
        rw [← hp]
        exact ih p e R s mth args below meth c Q E D dA m d (mm_blk m b) L S' h r hF H ls locs z0 z1 cx (mm_okB m b) hrun' hfr hlo hcR hsR hz0 hz1 hr hS hloc hLn hfin
      have hd : mm_gen ins = true → decode (mm_by m) pc = .ok (ins, mm_ln ins) := fun hg => (mm_dkS hg hdk).1
      show W p l e R s mth args below meth c H locs (h.1 - z0) (h.2.1 - z1) Q (F0 mth pc ls S)
      unfold mm_step at hrun
      cases ins with
      | nop =>
        exact KB _ _ _ (of_decide_eq_true htk) hrun
      | aconst_null =>
        exact lv_null hx hb (hd rfl) (K1 rfl _ hrun)
      | iconst n =>
        exact lv_iconst hx hb (hd rfl) rfl (K1 rfl _ hrun)
      | lconst n =>
        exact lv_lconst hx hb (hd rfl) rfl (K1 rfl _ hrun)
      | bipush n =>
        exact lv_bipush hx hb (hd rfl) rfl (K1 rfl _ hrun)
      | sipush n =>
        exact lv_sipush hx hb (hd rfl) rfl (K1 rfl _ hrun)
      | ldc idx =>
        unfold mm_lk at hlk
        dsimp only at hlk hrun
        by_cases h0 : mm_k0 ex = 0
        · rw [if_pos h0] at hlk hrun
          exact lv_ldc hx hb hown (hts _ (mm_win (mm_wdm (of_decide_eq_true hlk)) rfl)) (hd rfl) (K1 rfl _ hrun)
        · rw [if_neg h0] at hlk hrun
          by_cases h3 : mm_k1 ex = 3
          · rw [if_pos h3] at hlk
            rw [h3] at hrun
            obtain ⟨mi, e1, hM⟩ := cx.2.2.2.2.2.2.2.2.2.2.1
            rw [e1] at hrun
            exact va_ldcM hx hb hown (hts _ (mm_win (mm_wdm (of_decide_eq_true hlk)) rfl)) hM (hd rfl) (K1 rfl _ hrun)
          · rw [if_neg h3] at hlk
            rw [Bool.and_eq_true] at hlk
            obtain ⟨h10, hlk⟩ := hlk
            have h10 : 10 ≤ mm_k1 ex := of_decide_eq_true h10
            split at hlk
            · rename_i o x t ht
              simp only [Bool.and_eq_true, decide_eq_true_eq] at hlk
              obtain ⟨rfl, rfl⟩ := hlk
              obtain ⟨a, e1, hR⟩ := cx.2.2.2.2.2.2.2.2.2.2.2.1 _ _ _ _ ht
              rw [show 10 + (mm_k1 ex - 10) = mm_k1 ex by omega] at e1
              rw [e1] at hrun
              exact va_ldcS hx hb hown hR (hd rfl) (K1 rfl _ hrun)
            · cases hlk
      | ldc2_w idx =>
        exact lv_ldc2 hx hb hown (hts _ (mm_win (mm_wdm (of_decide_eq_true hlk)) rfl)) (hd rfl) (K1 rfl _ hrun)
      | getstatic idx =>
        have hlk2 := (Bool.and_eq_true _ _).mp hlk
        exact mr_gets cx hS (of_decide_eq_true hlk2.1) (mm_win (mm_wdm (of_decide_eq_true hlk2.2)) rfl) (hd rfl) (K1 rfl _ hrun)
      | iload i =>
        obtain ⟨w, hw, hun, hrun, hc⟩ := inv_ld hrun
        rcases hc with ⟨h2, q⟩ | ⟨h2, q⟩ | ⟨h2, q⟩
        · first | (cases h2; done) | (obtain ⟨x, rfl⟩ := q; exact lv_iload hx hb (hd rfl) (hloc.2.2 _ _ hw hun) (K1 rfl _ hrun))
        · first | (cases h2; done) | (obtain ⟨x, rfl⟩ := q; exact lv_iload hx hb (hd rfl) (hloc.2.2 _ _ hw hun) (K1 rfl _ hrun))
        · cases h2
      | iload_n i =>
        obtain ⟨w, hw, hun, hrun, hc⟩ := inv_ld hrun
        rcases hc with ⟨h2, q⟩ | ⟨h2, q⟩ | ⟨h2, q⟩
        · first | (cases h2; done) | (obtain ⟨x, rfl⟩ := q; exact lv_iload_n hx hb (hd rfl) rfl (hloc.2.2 _ _ hw hun) (K1 rfl _ hrun))
        · first | (cases h2; done) | (obtain ⟨x, rfl⟩ := q; exact lv_iload_n hx hb (hd rfl) rfl (hloc.2.2 _ _ hw hun) (K1 rfl _ hrun))
        · cases h2
      | lload i =>
        obtain ⟨w, hw, hun, hrun, hc⟩ := inv_ld hrun
        rcases hc with ⟨h2, q⟩ | ⟨h2, q⟩ | ⟨h2, q⟩
        · first | (cases h2; done) | (obtain ⟨x, rfl⟩ := q; exact lv_lload hx hb (hd rfl) (hloc.2.2 _ _ hw hun) (K1 rfl _ hrun))
        · first | (cases h2; done) | (obtain ⟨x, rfl⟩ := q; exact lv_lload hx hb (hd rfl) (hloc.2.2 _ _ hw hun) (K1 rfl _ hrun))
        · cases h2
      | lload_n i =>
        obtain ⟨w, hw, hun, hrun, hc⟩ := inv_ld hrun
        rcases hc with ⟨h2, q⟩ | ⟨h2, q⟩ | ⟨h2, q⟩
        · first | (cases h2; done) | (obtain ⟨x, rfl⟩ := q; exact lv_lload_n hx hb (hd rfl) rfl (hloc.2.2 _ _ hw hun) (K1 rfl _ hrun))
        · first | (cases h2; done) | (obtain ⟨x, rfl⟩ := q; exact lv_lload_n hx hb (hd rfl) rfl (hloc.2.2 _ _ hw hun) (K1 rfl _ hrun))
        · cases h2
      | aload i =>
        obtain ⟨w, hw, hun, hrun, hc⟩ := inv_ld hrun
        rcases hc with ⟨h2, q⟩ | ⟨h2, q⟩ | ⟨h2, q⟩
        · cases h2
        · cases h2
        · rcases q with rfl | ⟨a, rfl⟩
          · exact lv_aloadN hx hb (hd rfl) (hloc.2.2 _ _ hw hun) (K1 rfl _ hrun)
          · exact lv_aload hx hb (hd rfl) (hloc.2.2 _ _ hw hun) (K1 rfl _ hrun)
      | aload_n i =>
        obtain ⟨w, hw, hun, hrun, hc⟩ := inv_ld hrun
        rcases hc with ⟨h2, q⟩ | ⟨h2, q⟩ | ⟨h2, q⟩
        · cases h2
        · cases h2
        · rcases q with rfl | ⟨a, rfl⟩
          · exact lv_aload_nN hx hb (hd rfl) rfl (hloc.2.2 _ _ hw hun) (K1 rfl _ hrun)
          · exact lv_aload_n hx hb (hd rfl) rfl (hloc.2.2 _ _ hw hun) (K1 rfl _ hrun)
      | istore i =>
        obtain ⟨w, rest, rfl, hc⟩ := inv_sto hrun
        rcases hc with ⟨h2, hi, q, hrun⟩ | ⟨h2, hi, q, hrun⟩ | ⟨h2, hi, q, hrun⟩
        · obtain ⟨x, rfl⟩ := q
          exact lv_istore hx hb (hd rfl) hhas hi rfl (fun ls' h' => KL rfl _ _ ls' hrun (mm_st1_loc h') (by unfold mm_st1; rw [List.length_set, mm_clr_len]))
        · cases h2
        · cases h2
      | lstore i =>
        obtain ⟨w, rest, rfl, hc⟩ := inv_sto hrun
        rcases hc with ⟨h2, hi, q, hrun⟩ | ⟨h2, hi, q, hrun⟩ | ⟨h2, hi, q, hrun⟩
        · cases h2
        · obtain ⟨x, rfl⟩ := q
          exact lv_lstore hx hb (hd rfl) hhas hi rfl (fun ls' h' => KL rfl _ _ ls' hrun (mm_st2_loc h') (by unfold mm_st2; rw [List.length_set, List.length_set, mm_clr_len]))
        · cases h2
      | astore i =>
        obtain ⟨w, rest, rfl, hc⟩ := inv_sto hrun
        rcases hc with ⟨h2, hi, q, hrun⟩ | ⟨h2, hi, q, hrun⟩ | ⟨h2, hi, q, hrun⟩
        · cases h2
        · cases h2
        · rcases q with rfl | ⟨a, rfl⟩
          · exact lv_astoreN hx hb (hd rfl) hhas hi rfl (fun ls' h' => KL rfl _ _ ls' hrun (mm_st1_loc h') (by unfold mm_st1; rw [List.length_set, mm_clr_len]))
          · exact lv_astore hx hb (hd rfl) hhas hi rfl (fun ls' h' => KL rfl _ _ ls' hrun (mm_st1_loc h') (by unfold mm_st1; rw [List.length_set, mm_clr_len]))
      | istore_n i =>
        obtain ⟨w, rest, rfl, hc⟩ := inv_sto hrun
        rcases hc with ⟨h2, hi, q, hrun⟩ | ⟨h2, hi, q, hrun⟩ | ⟨h2, hi, q, hrun⟩
        · obtain ⟨x, rfl⟩ := q
          exact lv_istore_n hx hb (hd rfl) rfl hhas hi rfl (fun ls' h' => KL rfl _ _ ls' hrun (mm_st1_loc h') (by unfold mm_st1; rw [List.length_set, mm_clr_len]))
        · cases h2
        · cases h2
      | lstore_n i =>
        obtain ⟨w, rest, rfl, hc⟩ := inv_sto hrun
        rcases hc with ⟨h2, hi, q, hrun⟩ | ⟨h2, hi, q, hrun⟩ | ⟨h2, hi, q, hrun⟩
        · cases h2
        · obtain ⟨x, rfl⟩ := q
          exact lv_lstore_n hx hb (hd rfl) rfl hhas hi rfl (fun ls' h' => KL rfl _ _ ls' hrun (mm_st2_loc h') (by unfold mm_st2; rw [List.length_set, List.length_set, mm_clr_len]))
        · cases h2
      | astore_n i =>
        obtain ⟨w, rest, rfl, hc⟩ := inv_sto hrun
        rcases hc with ⟨h2, hi, q, hrun⟩ | ⟨h2, hi, q, hrun⟩ | ⟨h2, hi, q, hrun⟩
        · cases h2
        · cases h2
        · rcases q with rfl | ⟨a, rfl⟩
          · exact lv_astore_nN hx hb (hd rfl) rfl hhas hi rfl (fun ls' h' => KL rfl _ _ ls' hrun (mm_st1_loc h') (by unfold mm_st1; rw [List.length_set, mm_clr_len]))
          · exact lv_astore_n hx hb (hd rfl) rfl hhas hi rfl (fun ls' h' => KL rfl _ _ ls' hrun (mm_st1_loc h') (by unfold mm_st1; rw [List.length_set, mm_clr_len]))
      | iinc i n =>
        dsimp only at hrun
        split at hrun
        · rename_i x hxl
          obtain ⟨k, hk⟩ := List.mem_iff_getElem?.mp (mm_prs_mem.mpr ⟨hxl, fun q => by cases q⟩)
          exact lv_iinc hx hb (hd rfl) hhas hk rfl (List.getElem?_eq_some_iff.mp hxl).1 rfl (fun ls' h' => KL rfl _ _ ls' hrun (mm_st1_loc h') (by unfold mm_st1; rw [List.length_set, mm_clr_len]))
        · cases hrun
      | pop =>
        dsimp only at hrun
        split at hrun
        · rename_i v rest
          obtain ⟨hw, hrun⟩ := inv_fi hrun
          exact lv_pop hx hb (hd rfl) (mm_cat1 hw) (K1 rfl _ hrun)
        · cases hrun
      | dup =>
        dsimp only at hrun
        split at hrun
        · rename_i v rest
          obtain ⟨hw, hrun⟩ := inv_fi hrun
          exact lv_dup hx hb (hd rfl) (mm_cat1 hw) (K1 rfl _ hrun)
        · cases hrun
      | dup_x1 =>
        dsimp only at hrun
        split at hrun
        · rename_i v w rest
          obtain ⟨hw, hrun⟩ := inv_fi hrun
          rw [Bool.or_eq_true, not_or] at hw
          exact lv_dup_x1 hx hb (hd rfl) (mm_cat1 hw.1) (mm_cat1 hw.2) (K1 rfl _ hrun)
        · cases hrun
      | dup2 =>
        dsimp only at hrun
        split at hrun
        · rename_i v w rest
          obtain ⟨hw, hrun⟩ := inv_fi hrun
          rw [Bool.or_eq_true, not_or] at hw
          exact lv_dup2_11 hx hb (hd rfl) (mm_cat1 hw.1) (mm_cat1 hw.2) (K1 rfl _ hrun)
        · cases hrun
      | iadd =>
        obtain ⟨x, y, rest, hSS, hrun1⟩ := inv_ii hrun
        clear hrun
        subst hSS
        have hrun := hrun1
        clear hrun1
        try dsimp only at hrun
        exact lv_iadd hx hb (hd rfl) (K1 rfl _ hrun)
      | isub =>
        obtain ⟨x, y, rest, hSS, hrun1⟩ := inv_ii hrun
        clear hrun
        subst hSS
        have hrun := hrun1
        clear hrun1
        try dsimp only at hrun
        exact lv_isub hx hb (hd rfl) (K1 rfl _ hrun)
      | imul =>
        obtain ⟨x, y, rest, hSS, hrun1⟩ := inv_ii hrun
        clear hrun
        subst hSS
        have hrun := hrun1
        clear hrun1
        try dsimp only at hrun
        exact lv_imul hx hb (hd rfl) (K1 rfl _ hrun)
      | iand =>
        obtain ⟨x, y, rest, hSS, hrun1⟩ := inv_ii hrun
        clear hrun
        subst hSS
        have hrun := hrun1
        clear hrun1
        try dsimp only at hrun
        exact lv_iand hx hb (hd rfl) (K1 rfl _ hrun)
      | ior =>
        obtain ⟨x, y, rest, hSS, hrun1⟩ := inv_ii hrun
        clear hrun
        subst hSS
        have hrun := hrun1
        clear hrun1
        try dsimp only at hrun
        exact lv_ior hx hb (hd rfl) (K1 rfl _ hrun)
      | ishl =>
        obtain ⟨x, y, rest, hSS, hrun1⟩ := inv_ii hrun
        clear hrun
        subst hSS
        have hrun := hrun1
        clear hrun1
        try dsimp only at hrun
        exact lv_ishl hx hb (hd rfl) (K1 rfl _ hrun)
      | ishr =>
        obtain ⟨x, y, rest, hSS, hrun1⟩ := inv_ii hrun
        clear hrun
        subst hSS
        have hrun := hrun1
        clear hrun1
        try dsimp only at hrun
        exact lv_ishr hx hb (hd rfl) (K1 rfl _ hrun)
      | idiv =>
        obtain ⟨x, y, rest, hSS, hrun1⟩ := inv_ii hrun
        clear hrun
        subst hSS
        have hrun := hrun1
        clear hrun1
        try dsimp only at hrun
        obtain ⟨hne, hrun⟩ := inv_fi hrun
        exact lv_idiv hx hb (hd rfl) hne (K1 rfl _ hrun)
      | irem =>
        obtain ⟨x, y, rest, hSS, hrun1⟩ := inv_ii hrun
        clear hrun
        subst hSS
        have hrun := hrun1
        clear hrun1
        try dsimp only at hrun
        obtain ⟨hne, hrun⟩ := inv_fi hrun
        exact lv_irem hx hb (hd rfl) hne (K1 rfl _ hrun)
      | iushr =>
        obtain ⟨x, y, rest, hSS, hrun1⟩ := inv_ii hrun
        clear hrun
        subst hSS
        have hrun := hrun1
        clear hrun1
        try dsimp only at hrun
        exact lv_iushr hx hb (hd rfl) rfl (K1 rfl _ hrun)
      | ladd =>
        obtain ⟨x, y, rest, hSS, hrun1⟩ := inv_ll hrun
        clear hrun
        subst hSS
        have hrun := hrun1
        clear hrun1
        try dsimp only at hrun
        exact lv_ladd hx hb (hd rfl) (K1 rfl _ hrun)
      | lmul =>
        obtain ⟨x, y, rest, hSS, hrun1⟩ := inv_ll hrun
        clear hrun
        subst hSS
        have hrun := hrun1
        clear hrun1
        try dsimp only at hrun
        exact lv_lmul hx hb (hd rfl) (K1 rfl _ hrun)
      | land =>
        obtain ⟨x, y, rest, hSS, hrun1⟩ := inv_ll hrun
        clear hrun
        subst hSS
        have hrun := hrun1
        clear hrun1
        try dsimp only at hrun
        exact lv_land hx hb (hd rfl) (K1 rfl _ hrun)
      | lor =>
        obtain ⟨x, y, rest, hSS, hrun1⟩ := inv_ll hrun
        clear hrun
        subst hSS
        have hrun := hrun1
        clear hrun1
        try dsimp only at hrun
        exact lv_lor hx hb (hd rfl) (K1 rfl _ hrun)
      | lcmp =>
        obtain ⟨x, y, rest, hSS, hrun1⟩ := inv_ll hrun
        clear hrun
        subst hSS
        have hrun := hrun1
        clear hrun1
        try dsimp only at hrun
        exact W.lcmp hx hb (hd rfl) (K1 rfl _ hrun)
      | lshl =>
        obtain ⟨x, y, rest, hSS, hrun1⟩ := inv_li hrun
        clear hrun
        subst hSS
        have hrun := hrun1
        clear hrun1
        try dsimp only at hrun
        exact lv_lshl hx hb (hd rfl) rfl (K1 rfl _ hrun)
      | lshr =>
        obtain ⟨x, y, rest, hSS, hrun1⟩ := inv_li hrun
        clear hrun
        subst hSS
        have hrun := hrun1
        clear hrun1
        try dsimp only at hrun
        exact lv_lshr hx hb (hd rfl) rfl (K1 rfl _ hrun)
      | i2l =>
        obtain ⟨x, rest, hSS, hrun1⟩ := inv_i hrun
        clear hrun
        subst hSS
        have hrun := hrun1
        clear hrun1
        try dsimp only at hrun
        exact lv_i2l hx hb (hd rfl) rfl (K1 rfl _ hrun)
      | i2b =>
        obtain ⟨x, rest, hSS, hrun1⟩ := inv_i hrun
        clear hrun
        subst hSS
        have hrun := hrun1
        clear hrun1
        try dsimp only at hrun
        exact lv_i2b hx hb (hd rfl) rfl (K1 rfl _ hrun)
      | i2c =>
        obtain ⟨x, rest, hSS, hrun1⟩ := inv_i hrun
        clear hrun
        subst hSS
        have hrun := hrun1
        clear hrun1
        try dsimp only at hrun
        exact lv_i2c hx hb (hd rfl) rfl (K1 rfl _ hrun)
      | l2i =>
        obtain ⟨x, rest, hSS, hrun1⟩ := inv_l hrun
        clear hrun
        subst hSS
        have hrun := hrun1
        clear hrun1
        try dsimp only at hrun
        exact lv_l2i hx hb (hd rfl) rfl (K1 rfl _ hrun)
      | goto o =>
        obtain ⟨t, ht, hto⟩ := mm_toS htk
        exact lv_goto hx hb (hd rfl) hto (KB _ _ _ ht hrun)
      | ifCond cn o =>
        obtain ⟨x, rest, hSS, hrun1⟩ := inv_i hrun
        clear hrun
        subst hSS
        have hrun := hrun1
        clear hrun1
        try dsimp only at hrun
        obtain ⟨t, ht, hto⟩ := mm_toS htk
        have hrun : (if mm_con cn x 0 = true then mm_run E f d m (mm_blk m (mm_k0 ex)) L rest h else mm_run E f d m is L rest h) = some (r, hF) := hrun
        cases cn with
        | eq => exact lv_if_eq hx hb (hd rfl) hto (fun q => KB _ _ _ ht ((if_pos (decide_eq_true q)).symm.trans hrun)) (fun q => K1 rfl _ ((if_neg (fun z => q (of_decide_eq_true z))).symm.trans hrun))
        | ne => exact lv_if_ne hx hb (hd rfl) hto (fun q => KB _ _ _ ht ((if_pos (decide_eq_true q)).symm.trans hrun)) (fun q => K1 rfl _ ((if_neg (fun z => absurd q (of_decide_eq_true z))).symm.trans hrun))
        | lt => exact lv_if_lt hx hb (hd rfl) hto (fun q => KB _ _ _ ht ((if_pos (decide_eq_true q)).symm.trans hrun)) (fun q => K1 rfl _ ((if_neg (fun z => q (of_decide_eq_true z))).symm.trans hrun))
        | ge => exact lv_if_ge hx hb (hd rfl) hto (fun q => KB _ _ _ ht ((if_pos (decide_eq_true q)).symm.trans hrun)) (fun q => K1 rfl _ ((if_neg (fun z => q (of_decide_eq_true z))).symm.trans hrun))
        | gt => exact lv_if_gt hx hb (hd rfl) hto (fun q => KB _ _ _ ht ((if_pos (decide_eq_true q)).symm.trans hrun)) (fun q => K1 rfl _ ((if_neg (fun z => q (of_decide_eq_true z))).symm.trans hrun))
        | le => exact lv_if_le hx hb (hd rfl) hto (fun q => KB _ _ _ ht ((if_pos (decide_eq_true q)).symm.trans hrun)) (fun q => K1 rfl _ ((if_neg (fun z => q (of_decide_eq_true z))).symm.trans hrun))
      | if_icmp cn o =>
        obtain ⟨x, y, rest, hSS, hrun1⟩ := inv_ii hrun
        clear hrun
        subst hSS
        have hrun := hrun1
        clear hrun1
        try dsimp only at hrun
        obtain ⟨t, ht, hto⟩ := mm_toS htk
        have hrun : (if mm_con cn x y = true then mm_run E f d m (mm_blk m (mm_k0 ex)) L rest h else mm_run E f d m is L rest h) = some (r, hF) := hrun
        cases cn with
        | eq => exact lv_icmp_eq hx hb (hd rfl) hto (fun q => KB _ _ _ ht ((if_pos (decide_eq_true q)).symm.trans hrun)) (fun q => K1 rfl _ ((if_neg (fun z => q (of_decide_eq_true z))).symm.trans hrun))
        | ne => exact lv_icmp_ne hx hb (hd rfl) hto (fun q => KB _ _ _ ht ((if_pos (decide_eq_true q)).symm.trans hrun)) (fun q => K1 rfl _ ((if_neg (fun z => absurd q (of_decide_eq_true z))).symm.trans hrun))
        | lt => exact lv_icmp_lt hx hb (hd rfl) hto (fun q => KB _ _ _ ht ((if_pos (decide_eq_true q)).symm.trans hrun)) (fun q => K1 rfl _ ((if_neg (fun z => q (of_decide_eq_true z))).symm.trans hrun))
        | ge => exact lv_icmp_ge hx hb (hd rfl) hto (fun q => KB _ _ _ ht ((if_pos (decide_eq_true q)).symm.trans hrun)) (fun q => K1 rfl _ ((if_neg (fun z => q (of_decide_eq_true z))).symm.trans hrun))
        | gt => exact lv_icmp_gt hx hb (hd rfl) hto (fun q => KB _ _ _ ht ((if_pos (decide_eq_true q)).symm.trans hrun)) (fun q => K1 rfl _ ((if_neg (fun z => q (of_decide_eq_true z))).symm.trans hrun))
        | le => exact lv_icmp_le hx hb (hd rfl) hto (fun q => KB _ _ _ ht ((if_pos (decide_eq_true q)).symm.trans hrun)) (fun q => K1 rfl _ ((if_neg (fun z => q (of_decide_eq_true z))).symm.trans hrun))
      | if_acmp cn o =>
        dsimp only at hrun
        split at hrun
        · rename_i w v rest
          split at hrun
          · rename_i x y hvx hwy
            obtain ⟨t, ht, hto⟩ := mm_toS htk
            have hrun : (if mm_acm cn x y = true then mm_run E f d m (mm_blk m (mm_k0 ex)) L rest h else mm_run E f d m is L rest h) = some (r, hF) := hrun
            rw [mm_orefS hvx, mm_orefS hwy]
            cases cn with
            | eq => exact lv_acmp_eq hx hb (hd rfl) hto (fun q => KB _ _ _ ht ((if_pos (decide_eq_true q)).symm.trans hrun)) (fun q => K1 rfl _ ((if_neg (fun z => q (of_decide_eq_true z))).symm.trans hrun))
            | ne => exact lv_acmp_ne hx hb (hd rfl) hto (fun q => KB _ _ _ ht ((if_pos (decide_eq_true q)).symm.trans hrun)) (fun q => K1 rfl _ ((if_neg (fun z => absurd q (of_decide_eq_true z))).symm.trans hrun))
          · cases hrun
        · cases hrun
      | ifnull o =>
        dsimp only at hrun
        obtain ⟨t, ht, hto⟩ := mm_toS htk
        split at hrun
        · exact lv_ifnullN hx hb (hd rfl) hto (KB _ _ _ ht hrun)
        · exact lv_ifnull hx hb (hd rfl) (K1 rfl _ hrun)
        · cases hrun
      | ifnonnull o =>
        dsimp only at hrun
        obtain ⟨t, ht, hto⟩ := mm_toS htk
        split at hrun
        · exact lv_ifnonnullN hx hb (hd rfl) (K1 rfl _ hrun)
        · exact lv_ifnonnull hx hb (hd rfl) hto (KB _ _ _ ht hrun)
        · cases hrun
      | tableswitch df lo hi offs =>
        obtain ⟨x, rest, hSS, hrun1⟩ := inv_i hrun
        clear hrun
        subst hSS
        have hrun := hrun1
        clear hrun1
        try dsimp only at hrun
        have hdec : ∃ n, decode (mm_by m) pc = .ok (.tableswitch df lo hi offs, n) := mm_dtS hdk
        obtain ⟨n, hdec⟩ := hdec
        have hrun : mm_run E f d m (mm_blk m (mm_sw (mm_k0 ex) lo ex.tail x)) L rest h = some (r, hF) := hrun
        have htk2 : (mm_to m pc df (mm_k0 ex) && decide (ex.tail.length = offs.size) && decide (hi - lo + 1 = (offs.size : Int)) && (List.range offs.size).all (fun j => mm_to m pc (offs.getD j 0) (ex.tail.getD j 0))) = true := htk
        simp only [Bool.and_eq_true, decide_eq_true_eq] at htk2
        obtain ⟨⟨⟨t1, t2⟩, t3⟩, t4⟩ := htk2
        obtain ⟨td, htd, hdo⟩ := mm_toS t1
        unfold mm_sw at hrun
        by_cases hlo2 : x.toInt < lo
        · rw [if_pos hlo2] at hrun
          exact lv_tableOut hx hb hdec (Or.inl hlo2) hdo (KB _ _ _ htd hrun)
        · rw [if_neg hlo2] at hrun
          by_cases hhi2 : hi < x.toInt
          · have e1 : ex.tail.getD (x.toInt - lo).toNat (mm_k0 ex) = mm_k0 ex := by
              rw [List.getD_eq_getElem?_getD, List.getElem?_eq_none (by omega)]
              rfl
            rw [e1] at hrun
            exact lv_tableOut hx hb hdec (Or.inr hhi2) hdo (KB _ _ _ htd hrun)
          · have hj : (x.toInt - lo).toNat < offs.size := by omega
            have t5 := List.all_eq_true.mp t4 _ (List.mem_range.mpr hj)
            obtain ⟨tt, htt, hto⟩ := mm_toS t5
            have e1 : ex.tail.getD (x.toInt - lo).toNat (mm_k0 ex) = ex.tail.getD (x.toInt - lo).toNat 0 := by
              rw [List.getD_eq_getElem?_getD, List.getD_eq_getElem?_getD, List.getElem?_eq_getElem (by omega)]
              rfl
            rw [e1] at hrun
            refine lv_tableIn hx hb hdec hlo2 hhi2 ?_ hto (KB _ _ _ htt hrun)
            rw [Array.getD_eq_getD_getElem?, Array.getElem?_eq_getElem hj]
            rfl
      | arraylength =>
        obtain ⟨a, rest, hSS, hrun1⟩ := inv_a hrun
        clear hrun
        subst hSS
        have hrun := hrun1
        clear hrun1
        try dsimp only at hrun
        split at hrun
        · rename_i n hn
          exact mr_alen cx hr hS hn (hd rfl) (K1 rfl _ hrun)
        · cases hrun
      | iaload =>
        obtain ⟨j, a, rest, hSS, hrun1⟩ := inv_ia hrun
        clear hrun
        subst hSS
        have hrun := hrun1
        clear hrun1
        try dsimp only at hrun
        split at hrun
        · rename_i t n g hn
          obtain ⟨hC, hrun1⟩ := inv_if hrun
          clear hrun
          have hrun := hrun1
          clear hrun1
          obtain ⟨rfl, hin⟩ := hC
          exact mr_iald cx hr hS hn hin (hd rfl) (K1 rfl _ hrun)
        · cases hrun
      | baload =>
        obtain ⟨j, a, rest, hSS, hrun1⟩ := inv_ia hrun
        clear hrun
        subst hSS
        have hrun := hrun1
        clear hrun1
        try dsimp only at hrun
        split at hrun
        · rename_i t n g hn
          obtain ⟨hC, hrun1⟩ := inv_if hrun
          clear hrun
          have hrun := hrun1
          clear hrun1
          obtain ⟨ht, hin⟩ := hC
          exact mr_bald cx hr hS hn ht hin (hd rfl) (K1 rfl _ hrun)
        · cases hrun
      | aaload =>
        obtain ⟨j, a, rest, hSS, hrun1⟩ := inv_ia hrun
        clear hrun
        subst hSS
        have hrun := hrun1
        clear hrun1
        try dsimp only at hrun
        split at hrun
        · rename_i t n g hn
          obtain ⟨hC, hrun1⟩ := inv_if hrun
          clear hrun
          have hrun := hrun1
          clear hrun1
          have hin := hC
          exact mr_aald cx hr hn hin (hd rfl) (K1 rfl _ hrun)
        · cases hrun
      | iastore =>
        obtain ⟨x, S1, hSS, hrun1⟩ := inv_i hrun
        clear hrun
        subst hSS
        have hrun := hrun1
        clear hrun1
        try dsimp only at hrun
        obtain ⟨j, a, rest, hSS, hrun1⟩ := inv_ia hrun
        clear hrun
        subst hSS
        have hrun := hrun1
        clear hrun1
        try dsimp only at hrun
        split at hrun
        · rename_i t n g hn
          obtain ⟨hC, hrun1⟩ := inv_if hrun
          clear hrun
          have hrun := hrun1
          clear hrun1
          obtain ⟨rfl, hin⟩ := hC
          exact mr_iast cx hr hS hn hin (hd rfl) (KH rfl _ _ _ hrun)
        · cases hrun
      | bastore =>
        obtain ⟨x, S1, hSS, hrun1⟩ := inv_i hrun
        clear hrun
        subst hSS
        have hrun := hrun1
        clear hrun1
        try dsimp only at hrun
        obtain ⟨j, a, rest, hSS, hrun1⟩ := inv_ia hrun
        clear hrun
        subst hSS
        have hrun := hrun1
        clear hrun1
        try dsimp only at hrun
        split at hrun
        · rename_i t n g hn
          obtain ⟨hC, hrun1⟩ := inv_if hrun
          clear hrun
          have hrun := hrun1
          clear hrun1
          obtain ⟨ht, hin⟩ := hC
          exact mr_bast cx hr hS hn ht hin (hd rfl) (KH rfl _ _ _ hrun)
        · cases hrun
      | aastore =>
        dsimp only at hrun
        split at hrun
        · rename_i v S1
          obtain ⟨j, a, rest, hSS, hrun1⟩ := inv_ia hrun
          clear hrun
          subst hSS
          have hrun := hrun1
          clear hrun1
          try dsimp only at hrun
          split at hrun
          · rename_i t n g hn
            split at hrun
            · obtain ⟨hin, hrun⟩ := inv_if hrun
              exact mr_aastN cx hr hS hn hin (hd rfl) (KH rfl _ _ _ hrun)
            · obtain ⟨⟨hin, hm⟩, hrun⟩ := inv_if hrun
              exact mr_aast cx hr hS hn hm hin (hd rfl) (KH rfl _ _ _ hrun)
            · cases hrun
          · cases hrun
        · cases hrun
      | getfield idx =>
        obtain ⟨a, rest, hSS, hrun1⟩ := inv_a hrun
        clear hrun
        subst hSS
        have hrun := hrun1
        clear hrun1
        try dsimp only at hrun
        unfold mm_lk at hlk
        dsimp only at hlk
        by_cases h99 : mm_k0 ex = 99
        · rw [if_pos h99] at hlk hrun
          split at hrun
          · rename_i fs hfs
            obtain ⟨hC, hrun1⟩ := inv_if hrun
            clear hrun
            have hrun := hrun1
            clear hrun1
            skip
            rw [Bool.and_eq_true] at hlk
            exact mr_gstr cx hS hfs (of_decide_eq_true hlk.1) (mm_win (mm_wdm (of_decide_eq_true hlk.2)) rfl) (hd rfl) (K1 rfl _ hrun)
          · cases hrun
        · rw [if_neg h99] at hlk hrun
          split at hrun
          · rename_i ci fs hfs
            obtain ⟨hC, hrun1⟩ := inv_if hrun
            clear hrun
            have hrun := hrun1
            clear hrun1
            subst hC
            split at hrun
            · rename_i v hv
              exact mr_get cx hr hfs hlk hv (hd rfl) (K1 rfl _ hrun)
            · cases hrun
          · cases hrun
      | putfield idx =>
        dsimp only at hrun
        split at hrun
        · rename_i v S1
          obtain ⟨a, rest, hSS, hrun1⟩ := inv_a hrun
          clear hrun
          subst hSS
          have hrun := hrun1
          clear hrun1
          try dsimp only at hrun
          split at hrun
          · rename_i ci fs hfs
            obtain ⟨hC, hrun1⟩ := inv_if hrun
            clear hrun
            have hrun := hrun1
            clear hrun1
            obtain ⟨rfl, hkl, hft⟩ := hC
            have hlk2 := (Bool.and_eq_true _ _).mp hlk
            exact mr_put cx hr hS hfs hlk2.1 hlk2.2 hkl hft (hd rfl) (KH rfl _ _ _ hrun)
          · cases hrun
        · cases hrun
      | new idx =>
        unfold mm_lk at hlk
        dsimp only at hlk
        split at hlk
        · rename_i C T N hc
          simp only [Bool.and_eq_true, decide_eq_true_eq] at hlk
          obtain ⟨⟨⟨l1, l2⟩, l3⟩, l4⟩ := hlk
          have hrun : mm_run E f d m is L (.ref h.1 :: S) (mm_new h (mm_defs (mm_k0 ex)).length (.inr (mm_k0 ex, mm_defs (mm_k0 ex)))) = some (r, hF) := hrun
          rw [l4] at hrun
          obtain ⟨g1, g2⟩ := KN rfl _ _ _ hrun
          exact mr_new cx hr hS hc (mm_win (mm_wdm l1) rfl) (mm_win (mm_wdm l2) rfl) (mm_win (mm_wdm l3) rfl) g1.1 g1.2 (hd rfl) g2
        · cases hlk
      | newarray at_ =>
        obtain ⟨n, rest, hSS, hrun1⟩ := inv_i hrun
        clear hrun
        subst hSS
        have hrun := hrun1
        clear hrun1
        try dsimp only at hrun
        obtain ⟨hn, hrun⟩ := inv_fi hrun
        have hlk2 := (Bool.and_eq_true _ _).mp hlk
        obtain ⟨g1, g2⟩ := KN rfl _ _ _ hrun
        exact mr_newa cx hr hS (of_decide_eq_true hlk2.1) (of_decide_eq_true hlk2.2) hn g1.1 g1.2 (hd rfl) g2
      | anewarray idx =>
        obtain ⟨n, rest, hSS, hrun1⟩ := inv_i hrun
        clear hrun
        subst hSS
        have hrun := hrun1
        clear hrun1
        try dsimp only at hrun
        obtain ⟨hn, hrun⟩ := inv_fi hrun
        unfold mm_lk at hlk
        simp only [Bool.and_eq_true, Bool.or_eq_true, decide_eq_true_eq] at hlk
        obtain ⟨g1, g2⟩ := KN rfl _ _ _ hrun
        exact mr_anew cx hr hS hlk.1 (mm_win (mm_wdm hlk.2) rfl) hn g1.1 g1.2 (hd rfl) g2
      | checkcast idx =>
        dsimp only at hrun
        split at hrun
        · exact lv_castN hx hb (hd rfl) (K1 rfl _ hrun)
        · rename_i a rest
          unfold mm_lk at hlk
          dsimp only at hlk
          split at hrun
          · rename_i ci fs hfs
            obtain ⟨hC, hrun1⟩ := inv_if hrun
            clear hrun
            have hrun := hrun1
            clear hrun1
            obtain ⟨h0, rfl⟩ := hC
            rw [if_pos h0] at hlk
            rw [Bool.and_eq_true] at hlk
            exact mr_castO cx hr hfs (mm_win (mm_wdm (of_decide_eq_true hlk.2)) rfl) (hd rfl) (K1 rfl _ hrun)
          · rename_i t x hfs
            obtain ⟨hC, hrun1⟩ := inv_if hrun
            clear hrun
            have hrun := hrun1
            clear hrun1
            obtain ⟨h0, rfl⟩ := hC
            rw [if_neg (by omega)] at hlk
            simp only [Bool.and_eq_true, Bool.or_eq_true, decide_eq_true_eq] at hlk
            exact mr_castA cx hr hfs hlk.1 (mm_win (mm_wdm hlk.2) rfl) (hd rfl) (K1 rfl _ hrun)
          · cases hrun
        · cases hrun
      | ireturn =>
        dsimp only at hrun
        split at hrun
        · rename_i x
          obtain ⟨hC, hrun1⟩ := inv_if hrun
          clear hrun
          have hrun := hrun1
          clear hrun1
          have hft := hC
          cases hrun
          unfold mm_lk at hlk
          dsimp only at hlk
          split at hlk
          · rename_i ty hty
            simp only [Bool.and_eq_true, decide_eq_true_eq] at hlk
            exact hfin H locs pc ls hr hS ⟨hd rfl, ty, hty, (mm_fit_ok hft hlk.1.1).1⟩
          · cases hlk
        · cases hrun
      | lreturn =>
        dsimp only at hrun
        split at hrun
        · rename_i x
          cases hrun
          exact hfin H locs pc ls hr hS ⟨hd rfl, of_decide_eq_true hlk⟩
        · cases hrun
      | areturn =>
        have hrt : ∃ rt, mm_re m = some rt ∧ ((∃ n, rt = .object n) ∨ ∃ t, rt = .array t) := by
          unfold mm_lk at hlk
          dsimp only at hlk
          split at hlk
          · rename_i ty hty
            have h3 : mm_tg ty = 3 := of_decide_eq_true hlk
            refine ⟨ty, hty, ?_⟩
            cases ty <;> first | exact Or.inl ⟨_, rfl⟩ | exact Or.inr ⟨_, rfl⟩ | cases h3
          · cases hlk
        dsimp only at hrun
        split at hrun
        · cases hrun
          exact hfin H locs pc ls hr hS ⟨hd rfl, hrt, Or.inl rfl⟩
        · cases hrun
          exact hfin H locs pc ls hr hS ⟨hd rfl, hrt, Or.inr ⟨_, rfl⟩⟩
        · cases hrun
      | return_ =>
        dsimp only at hrun
        split at hrun
        · cases hrun
          exact hfin H locs pc ls hr hS ⟨hd rfl, of_decide_eq_true hlk⟩
        · cases hrun
      | invokestatic idx =>
        unfold mm_lk at hlk
        dsimp only at hlk hrun
        by_cases h1000 : mm_k0 ex = 1000
        · rw [if_pos h1000] at hlk hrun
          have hl := mm_win (mm_wdm (of_decide_eq_true hlk)) rfl
          unfold mm_copy at hrun
          split at hrun
          · split at hrun
            · rename_i hb0 ha0
              obtain ⟨hC, hrun1⟩ := inv_if hrun
              clear hrun
              have hrun := hrun1
              clear hrun1
              obtain ⟨q1, q2, q3, rfl, q5, q6, q7, q8⟩ := hC
              exact mr_copyI cx hr hS hb0 ha0 q5 q1 q2 q3 q6 q7 q8 hl hsz hfr1 hlo60 (hd rfl) (KH rfl _ _ _ hrun)
            · rename_i hb0 ha0
              obtain ⟨hC, hrun1⟩ := inv_if hrun
              clear hrun
              have hrun := hrun1
              clear hrun1
              obtain ⟨q1, q2, q3, rfl, rfl, q6, q7, q8⟩ := hC
              exact mr_copyR cx hr hS hb0 ha0 q1 q2 q3 q6 q7 q8 hl hsz hfr1 hlo60 (hd rfl) (KH rfl _ _ _ hrun)
            · cases hrun
          · cases hrun
        · rw [if_neg h1000] at hlk hrun
          have hcm := mm_callS (ins := .invokestatic idx) (if_neg h1000) hrun0
          simp only [Bool.and_eq_true, decide_eq_true_eq] at hlk
          obtain ⟨⟨⟨hcw, hk2⟩, hst⟩, hnar⟩ := hlk
          obtain ⟨hcal, hlink, hini⟩ := mm_cwS hcw
          obtain ⟨c1, c2, c3, d', rfl, c4, c5, w, h', hw, hgo⟩ := hcm
          have hm1 := mm_mono _ _ _ _ _ _ _ _ _ hw
          have hm2 := mm_mono _ _ _ _ _ _ _ _ _ hgo
          have hf : h.1 - z0 + (h'.1 - h.1) ≤ R.cells ∧ h.2.1 - z1 + (h'.2.1 - h.2.1) ≤ R.slots := ⟨by omega, by omega⟩
          have kk : ∀ (H1 : Heap) (locs1 : List Loc), mm_rel E D dA h' H1 → va_S (mm_A E) s.heap H1 locs1 → W p l e R s mth args below meth c H1 locs1 (h.1 - z0 + (h'.1 - h.1)) (h.2.1 - z1 + (h'.2.1 - h.2.1)) Q (F0 mth (pc + 3) ls (w.toList ++ S.drop (mm_k1 ex))) := by
            intro H1 locs1 g1 g2
            have hW := K rfl _ _ h' H1 ls locs1 hgo (by omega) (by omega) g1 g2 hloc hLn
            rw [show h'.1 - z0 = h.1 - z0 + (h'.1 - h.1) by omega, show h'.2.1 - z1 = h.2.1 - z1 + (h'.2.1 - h.2.1) by omega] at hW
            exact hW
          have hspl : S = (S.take (mm_k1 ex)).reverse.reverse ++ S.drop (mm_k1 ex) := by rw [List.reverse_reverse, List.take_append_drop]
          rw [hspl]
          rcases hlink with hlink | hlink
          · exact mr_callS cx hr hS (mm_met ih hcal c4 hw) hcal (mm_win hlink rfl) (mm_win (mm_wdm hst) rfl) (mm_win hini rfl) hnar (by rw [List.length_reverse, List.length_take]; omega) ⟨hfr, hlo⟩ hsz c2 hf (hd rfl) kk
          · exact mr_callSN cx hr hS (mm_met ih hcal c4 hw) hcal (cx.2.2.2.2.2.2.2.2.2.2.2.2.2.1 _ hlink) (mm_win (mm_wdm hst) rfl) (mm_win hini rfl) hnar (by rw [List.length_reverse, List.length_take]; omega) ⟨hfr, hlo⟩ hsz c2 hf (hd rfl) kk
      | invokevirtual idx =>
        unfold mm_lk at hlk
        dsimp only at hlk hrun
        by_cases h1001 : mm_k0 ex = 1001
        · rw [if_pos h1001] at hlk hrun
          have hl := mm_win (mm_wdm (of_decide_eq_true hlk)) rfl
          obtain ⟨a, rest, hSS, hrun1⟩ := inv_a hrun
          clear hrun
          subst hSS
          have hrun := hrun1
          clear hrun1
          try dsimp only at hrun
          split at hrun
          · rename_i t n g hn
            obtain ⟨hC, hrun1⟩ := inv_if hrun
            clear hrun
            have hrun := hrun1
            clear hrun1
            obtain ⟨rfl, hsum⟩ := hC
            obtain ⟨g1, g2⟩ := KN rfl _ _ _ hrun
            exact mr_clone cx hr hS hn hl hsum hsz hfr1 hlo60 g1.1 g1.2 (hd rfl) g2
          · cases hrun
        · rw [if_neg h1001] at hlk hrun
          by_cases h1002 : mm_k0 ex = 1002
          · rw [if_pos h1002] at hlk hrun
            simp only [Bool.and_eq_true, decide_eq_true_eq] at hlk
            obtain ⟨a, rest, hSS, hrun1⟩ := inv_a hrun
            clear hrun
            subst hSS
            have hrun := hrun1
            clear hrun1
            try dsimp only at hrun
            split at hrun
            · rename_i t x hn
              obtain ⟨hC, hrun1⟩ := inv_if hrun
              clear hrun
              have hrun := hrun1
              clear hrun1
              obtain ⟨rfl, hsum⟩ := hC
              rw [hlk.1] at hrun
              exact mr_getC cx hr hn (mm_win (mm_wdm hlk.2) rfl) hsum hsz hfr1 hlo60 (hd rfl) (K1 rfl _ hrun)
            · cases hrun
          · rw [if_neg h1002] at hlk hrun
            have hcm := mm_callS (ins := .invokevirtual idx) ((if_neg h1001).trans (if_neg h1002)) hrun0
            simp only [Bool.and_eq_true, decide_eq_true_eq] at hlk
            obtain ⟨⟨⟨⟨⟨⟨hcw, hk1⟩, hk2⟩, hcn⟩, hit⟩, hse⟩, hnar⟩ := hlk
            obtain ⟨hcal, hlink, hini⟩ := mm_cwS hcw
            obtain ⟨c1, c2, c3, d', rfl, c4, c5, w, h', hw, hgo⟩ := hcm
            have hm1 := mm_mono _ _ _ _ _ _ _ _ _ hw
            have hm2 := mm_mono _ _ _ _ _ _ _ _ _ hgo
            have hf : h.1 - z0 + (h'.1 - h.1) ≤ R.cells ∧ h.2.1 - z1 + (h'.2.1 - h.2.1) ≤ R.slots := ⟨by omega, by omega⟩
            have kk : ∀ (H1 : Heap) (locs1 : List Loc), mm_rel E D dA h' H1 → va_S (mm_A E) s.heap H1 locs1 → W p l e R s mth args below meth c H1 locs1 (h.1 - z0 + (h'.1 - h.1)) (h.2.1 - z1 + (h'.2.1 - h.2.1)) Q (F0 mth (pc + 3) ls (w.toList ++ S.drop (mm_k1 ex))) := by
              intro H1 locs1 g1 g2
              have hW := K rfl _ _ h' H1 ls locs1 hgo (by omega) (by omega) g1 g2 hloc hLn
              rw [show h'.1 - z0 = h.1 - z0 + (h'.1 - h.1) by omega, show h'.2.1 - z1 = h.2.1 - z1 + (h'.2.1 - h.2.1) by omega] at hW
              exact hW
            have hrc : mm_rcv E h (mm_k2 ex) (S[mm_k1 ex - 1]?) = true := by
              rcases c3 with c3 | c3
              · omega
              · exact c3
            obtain ⟨b, hbS⟩ := mm_rcvS hrc
            rw [hbS] at hrc
            obtain ⟨as, e1, e2, e3⟩ := mm_spl hk1 c1 hbS
            rw [e1] at hw c4
            rw [e3]
            rcases hlink with hlink | hlink
            · exact mr_callV cx hr hS (mm_met ih hcal c4 hw) hcal (mm_win hlink rfl) (mm_win (mm_wdm hit) rfl) (mm_win (mm_wdm hse) rfl) (mm_win hini rfl) hnar e2 hk2 hcn hrc ⟨hfr, hlo⟩ hsz c2 hf (hd rfl) kk
            · exact mr_callVN cx hr hS (mm_met ih hcal c4 hw) hcal (cx.2.2.2.2.2.2.2.2.2.2.2.2.2.1 _ hlink) (mm_win (mm_wdm hit) rfl) (mm_win (mm_wdm hse) rfl) (mm_win hini rfl) hnar e2 hk2 hcn hrc ⟨hfr, hlo⟩ hsz c2 hf (hd rfl) kk
      | invokespecial idx =>
        unfold mm_lk at hlk
        dsimp only at hlk hrun
        by_cases h1003 : mm_k0 ex = 1003
        · rw [if_pos h1003] at hlk hrun
          obtain ⟨a, rest, hSS, hrun1⟩ := inv_a hrun
          clear hrun
          subst hSS
          have hrun := hrun1
          clear hrun1
          try dsimp only at hrun
          obtain ⟨hC, hrun1⟩ := inv_if hrun
          clear hrun
          have hrun := hrun1
          clear hrun1
          have hsum := hC
          exact mr_oinit cx (mm_win (mm_wdm (of_decide_eq_true hlk)) rfl) hsum hsz hfr1 hlo60 (hd rfl) (K1 rfl _ hrun)
        · rw [if_neg h1003] at hlk hrun
          have hcm := mm_callS (ins := .invokespecial idx) (if_neg h1003) hrun0
          simp only [Bool.and_eq_true, decide_eq_true_eq] at hlk
          obtain ⟨⟨⟨⟨⟨⟨hcw, hk1⟩, hk2⟩, hnm⟩, hre⟩, hit⟩, hnar⟩ := hlk
          obtain ⟨hcal, hlink, hini⟩ := mm_cwS hcw
          obtain ⟨c1, c2, c3, d', rfl, c4, c5, w, h', hw, hgo⟩ := hcm
          have hm1 := mm_mono _ _ _ _ _ _ _ _ _ hw
          have hm2 := mm_mono _ _ _ _ _ _ _ _ _ hgo
          have hf : h.1 - z0 + (h'.1 - h.1) ≤ R.cells ∧ h.2.1 - z1 + (h'.2.1 - h.2.1) ≤ R.slots := ⟨by omega, by omega⟩
          have kk : ∀ (H1 : Heap) (locs1 : List Loc), mm_rel E D dA h' H1 → va_S (mm_A E) s.heap H1 locs1 → W p l e R s mth args below meth c H1 locs1 (h.1 - z0 + (h'.1 - h.1)) (h.2.1 - z1 + (h'.2.1 - h.2.1)) Q (F0 mth (pc + 3) ls (w.toList ++ S.drop (mm_k1 ex))) := by
            intro H1 locs1 g1 g2
            have hW := K rfl _ _ h' H1 ls locs1 hgo (by omega) (by omega) g1 g2 hloc hLn
            rw [show h'.1 - z0 = h.1 - z0 + (h'.1 - h.1) by omega, show h'.2.1 - z1 = h.2.1 - z1 + (h'.2.1 - h.2.1) by omega] at hW
            exact hW
          have hc6 := mm_issI _ hcal hnm
          rw [hc6, Bool.false_or] at c5
          obtain ⟨b, bs, hbs⟩ := mm_hrS c5
          obtain ⟨as, e1, e2, e3⟩ := mm_spl hk1 c1 (mm_hrT hk1 c1 hbs)
          rw [e1] at hw c4
          rw [e3]
          rcases hlink with hlink | hlink
          · exact mr_callI cx hr hS (mm_met ih hcal c4 hw) hcal (mm_win hlink rfl) (mm_win (mm_wdm hit) rfl) hre hnm (mm_win hini rfl) hnar e2 ⟨hfr, hlo⟩ hsz c2 hf (hd rfl) kk
          · exact mr_callIN cx hr hS (mm_met ih hcal c4 hw) hcal (cx.2.2.2.2.2.2.2.2.2.2.2.2.2.1 _ hlink) (mm_win (mm_wdm hit) rfl) hre hnm (mm_win hini rfl) hnar e2 ⟨hfr, hlo⟩ hsz c2 hf (hd rfl) kk
      | _ =>
        cases hrun
end
section
/-! REASONING ABOUT THE SMALL MACHINE: mm_Go, an instruction at a time, goal first -/
theorem mm_fuel {E : mmE} : ∀ (f d m : Nat) (is : List mmI) (L S : List Value) (h : mmH) (r : Option Value × mmH), mm_run E f d m is L S h = some r → mm_run E (f + 1) d m is L S h = some r := by
  intro f
  induction f with
  | zero => intro d m is L S h r hr; cases hr
  | succ f ih =>
    intro d m is L S h r hr
    cases is with
    | nil => cases hr
    | cons i is =>
      rw [mm_run_cons] at hr ⊢
      generalize mm_step E L S h i.2.1 i.2.2 = o at hr ⊢
      match o, hr with
      | .inl _, hr => cases hr
      | .inr (.inl (L', S', h')), hr => exact ih _ _ _ _ _ _ _ hr
      | .inr (.inr (.inl (true, b, S'))), hr => exact ih _ _ _ _ _ _ _ hr
      | .inr (.inr (.inl (false, b, S'))), hr => exact ih _ _ _ _ _ _ _ hr
      | .inr (.inr (.inr (.inl (b, S')))), hr => exact ih _ _ _ _ _ _ _ hr
      | .inr (.inr (.inr (.inr (.inl w)))), hr => exact hr
      | .inr (.inr (.inr (.inr (.inr (k, as, r'))))), hr =>
        cases d with
        | zero => cases hr
        | succ d' =>
          have hr : (if (mm_lay as).length ≤ mm_maxL k ∧ (mm_iss.getD k true || mm_hr as) = true then (match mm_run E f d' k (mm_blk k 0) (mm_ent (mm_maxL k) as) [] h with
            | some (v, h') => mm_run E f (d' + 1) m is L (v.toList ++ r') h'
            | none => none) else none) = some r := hr
          show (if (mm_lay as).length ≤ mm_maxL k ∧ (mm_iss.getD k true || mm_hr as) = true then (match mm_run E (f + 1) d' k (mm_blk k 0) (mm_ent (mm_maxL k) as) [] h with
            | some (v, h') => mm_run E (f + 1) (d' + 1) m is L (v.toList ++ r') h'
            | none => none) else none) = some r
          split at hr
          · rename_i hc
            rw [if_pos hc]
            split at hr
            · rename_i v h' hw
              rw [ih _ _ _ _ _ _ _ hw]
              exact ih _ _ _ _ _ _ _ hr
            · cases hr
          · cases hr
theorem mm_fuel_le {E : mmE} {d m : Nat} {is : List mmI} {L S : List Value} {h : mmH} {r : Option Value × mmH} {f g : Nat} (hfg : f ≤ g) (hr : mm_run E f d m is L S h = some r) : mm_run E g d m is L S h = some r := by
  obtain ⟨k, rfl⟩ := Nat.exists_eq_add_of_le hfg
  clear hfg
  induction k with
  | zero => exact hr
  | succ k ih => exact mm_fuel _ _ _ _ _ _ _ _ ih
/-- what is to be shown of an outcome -/
def mm_goO (E : mmE) (d m : Nat) (is : List mmI) (L : List Value) (h : mmH) (Q : Option Value → mmH → Prop) (o : mmO) : Prop := match o with
  | .inl _ => False
  | .inr (.inl (L', S', h')) => mm_Go E d m is L' S' h' Q
  | .inr (.inr (.inl (c, b, S'))) => (c = true → mm_Go E d m (mm_blk m b) L S' h Q) ∧ (c = false → mm_Go E d m is L S' h Q)
  | .inr (.inr (.inr (.inl (b, S')))) => True → mm_Go E d m (mm_blk m b) L S' h Q
  | .inr (.inr (.inr (.inr (.inl v)))) => True → Q v h
  | .inr (.inr (.inr (.inr (.inr (k, as, r'))))) => ∃ d', d = d' + 1 ∧ ((mm_lay as).length ≤ mm_maxL k ∧ (mm_iss.getD k true || mm_hr as) = true) ∧ mm_Go E d' k (mm_blk k 0) (mm_ent (mm_maxL k) as) [] h (fun v h' => mm_Go E d m is L (v.toList ++ r') h' Q)
theorem go_step {E : mmE} {d m : Nat} {i : mmI} {is : List mmI} {L S : List Value} {h : mmH} {Q : Option Value → mmH → Prop} (hg : mm_goO E d m is L h Q (mm_step E L S h i.2.1 i.2.2)) : mm_Go E d m (i :: is) L S h Q := by
  generalize ho : mm_step E L S h i.2.1 i.2.2 = o at hg
  match o, ho, hg with
  | .inl _, ho, hg => exact hg.elim
  | .inr (.inl (L', S', h')), ho, hg =>
    obtain ⟨f, r, h2, e, q⟩ := hg
    exact ⟨f + 1, r, h2, by rw [mm_run_cons, ho]; exact e, q⟩
  | .inr (.inr (.inl (true, b, S'))), ho, hg =>
    obtain ⟨f, r, h2, e, q⟩ := hg.1 rfl
    exact ⟨f + 1, r, h2, by rw [mm_run_cons, ho]; exact e, q⟩
  | .inr (.inr (.inl (false, b, S'))), ho, hg =>
    obtain ⟨f, r, h2, e, q⟩ := hg.2 rfl
    exact ⟨f + 1, r, h2, by rw [mm_run_cons, ho]; exact e, q⟩
  | .inr (.inr (.inr (.inl (b, S')))), ho, hg =>
    obtain ⟨f, r, h2, e, q⟩ := hg trivial
    exact ⟨f + 1, r, h2, by rw [mm_run_cons, ho]; exact e, q⟩
  | .inr (.inr (.inr (.inr (.inl w)))), ho, hg => exact ⟨1, w, h, by rw [mm_run_cons, ho]; rfl, hg trivial⟩
  | .inr (.inr (.inr (.inr (.inr (k, as, r'))))), ho, hg =>
    obtain ⟨d', rfl, hc, f1, v, h1, e1, f2, r, h2, e2, q⟩ := hg
    refine ⟨max f1 f2 + 1, r, h2, ?_, q⟩
    rw [mm_run_cons, ho]
    show (if (mm_lay as).length ≤ mm_maxL k ∧ (mm_iss.getD k true || mm_hr as) = true then (match mm_run E (max f1 f2) d' k (mm_blk k 0) (mm_ent (mm_maxL k) as) [] h with
      | some (v, h') => mm_run E (max f1 f2) (d' + 1) m is L (v.toList ++ r') h'
      | none => none) else none) = some (r, h2)
    rw [if_pos hc, mm_fuel_le (Nat.le_max_left f1 f2) e1]
    exact mm_fuel_le (Nat.le_max_right f1 f2) e2
theorem go_mono {E : mmE} {d m : Nat} {is : List mmI} {L S : List Value} {h : mmH} {Q Q' : Option Value → mmH → Prop} (hg : mm_Go E d m is L S h Q) (hq : ∀ r h', Q r h' → Q' r h') : mm_Go E d m is L S h Q' := by
  obtain ⟨f, r, h', e, q⟩ := hg
  exact ⟨f, r, h', e, hq r h' q⟩
/-- a branch -/
theorem gif {P : Prop} [Decidable P] {A B : Prop} (ht : P → A) (hf : ¬ P → B) : (decide P = true → A) ∧ (decide P = false → B) := ⟨fun q => ht (of_decide_eq_true q), fun q => hf (of_decide_eq_false q)⟩
theorem gjp {A : Prop} (h : A) : True → A := fun _ => h
section GO
variable {E : mmE} {d m idx : Nat} {is : List mmI} {L r : List Value} {h : mmH} {Q : Option Value → mmH → Prop} {ex : List Nat}
theorem g_getf {a : Nat} {fs : List Value} (v : Value) (ha : h.2.2 a = some (.inr (mm_k0 ex, fs))) (h99 : mm_k0 ex ≠ 99) (hv : fs[mm_k1 ex]? = some v) (hg : mm_Go E d m is L (v :: r) h Q) : mm_goO E d m is L h Q (mm_step E L (.ref a :: r) h (.getfield idx) ex) := by
  have e : mm_step E L (.ref a :: r) h (.getfield idx) ex = mm_nx L (v :: r) h := by
    show (if mm_k0 ex = 99 then _ else _) = _
    rw [if_neg h99, ha]
    show (if mm_k0 ex = mm_k0 ex then _ else _) = _
    rw [if_pos rfl, hv]
  rw [e]
  exact hg
theorem g_bald {a t n : Nat} {f : Nat → Int32} {i : Int32} (ha : mm_aI E h a = some (t, n, f)) (ht : t = 0 ∨ t = 2) (hi : mm_in i n = true) (hg : mm_Go E d m is L (.int (f i.toNatClampNeg) :: r) h Q) : mm_goO E d m is L h Q (mm_step E L (.int i :: .ref a :: r) h .baload ex) := by
  have e : mm_step E L (.int i :: .ref a :: r) h .baload ex = mm_nx L (.int (f i.toNatClampNeg) :: r) h := by
    show (match mm_aI E h a with
      | some (t, n, f) => if (t = 0 ∨ t = 2) ∧ mm_in i n = true then mm_nx L (.int (f i.toNatClampNeg) :: r) h else mm_bad
      | none => mm_bad) = _
    rw [ha]
    exact if_pos ⟨ht, hi⟩
  rw [e]
  exact hg
theorem g_alen {a n : Nat} (ha : mm_len E h a = some n) (hg : mm_Go E d m is L (.int (Int32.ofNat n) :: r) h Q) : mm_goO E d m is L h Q (mm_step E L (.ref a :: r) h .arraylength ex) := by
  have e : mm_step E L (.ref a :: r) h .arraylength ex = mm_nx L (.int (Int32.ofNat n) :: r) h := by
    show (match mm_len E h a with
      | some n => mm_nx L (.int (Int32.ofNat n) :: r) h
      | none => mm_bad) = _
    rw [ha]
  rw [e]
  exact hg
end GO
end
section
section GO
variable {E : mmE} {d m idx : Nat} {is : List mmI} {L S r : List Value} {h : mmH} {Q : Option Value → mmH → Prop} {ex : List Nat} {ins : Instr}
theorem g_call {k : Nat} {as rr : List Value} (hs : mm_step E L S h ins ex = mm_cl k as rr) (hd : 1 ≤ d) (hl : (mm_lay as).length ≤ mm_maxL k) (hi : (mm_iss.getD k true || mm_hr as) = true) (hg : mm_Go E (d - 1) k (mm_blk k 0) (mm_ent (mm_maxL k) as) [] h (fun v h' => mm_Go E d m is L (v.toList ++ rr) h' Q)) : mm_goO E d m is L h Q (mm_step E L S h ins ex) := by
  rw [hs]
  exact ⟨d - 1, by omega, ⟨hl, hi⟩, hg⟩
end GO
def bt_at (n : Nat) (f : Nat → Int32) (i : Int32) : Int32 := if i < 0 ∨ Int32.ofNat n ≤ i then 0 else f i.toNatClampNeg &&& 255
theorem sp_at {E : mmE} {d a n : Nat} {h : mmH} {Q : Option Value → mmH → Prop} {f : Nat → Int32} {i : Int32} (ha : h.2.2 a = some (.inl (0, n, .inl f))) (hn : n < 2 ^ 31) (hq : Q (some (.int (bt_at n f i))) h) : mm_Go E d 11 (mm_blk 11 0) [.ref a, .int i] [] h Q := by
  have hal : mm_len E h a = some n := by unfold mm_len; rw [ha]
  have haI : mm_aI E h a = some (0, n, f) := by unfold mm_aI; rw [ha]
  have h1 : (i < 0 ∨ Int32.ofNat n ≤ i) → mm_Go E d 11 (mm_blk 11 1) [.ref a, .int i] [] h Q := by
    intro hc
    repeat refine go_step ?_
    refine gjp ?_
    repeat refine go_step ?_
    refine gjp ?_
    rw [bt_at, if_pos hc] at hq
    exact hq
  repeat refine go_step ?_
  refine gif (fun c1 => h1 (Or.inl c1)) (fun c1 => ?_)
  repeat refine go_step ?_
  refine g_alen hal ?_
  repeat refine go_step ?_
  refine gif (fun c2 => h1 (Or.inr c2)) (fun c2 => ?_)
  repeat refine go_step ?_
  obtain ⟨j, hj, rfl⟩ := (pk_ix i hn).resolve_left c1 |>.resolve_left c2
  refine g_bald haI (Or.inl rfl) (decide_eq_true (vp_in_nI hj hn)) ?_
  repeat refine go_step ?_
  refine gjp ?_
  repeat refine go_step ?_
  refine gjp ?_
  rw [bt_at, if_neg (fun q => q.elim c1 c2)] at hq
  exact hq
/-- a row of n bytes at a, B its bytes without sign, 0 beyond -/
def bRow (h : mmH) (a n : Nat) (B : Nat → Nat) : Prop := n ≤ 2000 ∧ (∃ f, h.2.2 a = some (.inl (0, n, .inl f)) ∧ ∀ j, j < n → f j &&& 255 = nI (B j)) ∧ (∀ j, B j < 256) ∧ ∀ j, n ≤ j → B j = 0
theorem sp_atN {E : mmE} {d a n p : Nat} {h : mmH} {Q : Option Value → mmH → Prop} {B : Nat → Nat} (hb : bRow h a n B) (hp : p < 2 ^ 31) (hq : Q (some (.int (nI (B p)))) h) : mm_Go E d 11 (mm_blk 11 0) [.ref a, .int (nI p)] [] h Q := by
  obtain ⟨hn, ⟨f, ha, hf⟩, h1, h2⟩ := hb
  refine sp_at ha (by omega) ?_
  unfold bt_at
  by_cases hlt : p < n
  · rw [if_neg (fun q => q.elim (nI_pos hp) (nI_ge hlt (by omega))), nI_clamp hp, hf p hlt]
    exact hq
  · rw [if_pos (Or.inr (show Int32.ofNat n ≤ nI p from nI_le (by omega) hp))]
    rw [h2 p (by omega)] at hq
    exact hq
theorem sp_min {E : mmE} {d : Nat} {h : mmH} {Q : Option Value → mmH → Prop} {x y : Nat} (hx : x < 2 ^ 31) (hy : y < 2 ^ 31) (hq : Q (some (.int (nI (min x y)))) h) : mm_Go E d 7 (mm_blk 7 0) [.int (nI x), .int (nI y)] [] h Q := by
  repeat refine go_step ?_
  refine gif (fun c => ?_) (fun c => ?_)
  · repeat refine go_step ?_
    refine gjp ?_
    repeat refine go_step ?_
    refine gjp ?_
    have := (nI_ltI hy hx).mp c
    rw [Nat.min_eq_right (by omega)] at hq
    exact hq
  · repeat refine go_step ?_
    refine gjp ?_
    repeat refine go_step ?_
    refine gjp ?_
    have : ¬ y < x := fun q => c ((nI_ltI hy hx).mpr q)
    rw [Nat.min_eq_left (by omega)] at hq
    exact hq
/-- -1, 0, 1 -/
def q_c3 (x y : Nat) : Int32 := if x < y then -1 else if x = y then 0 else 1
theorem sp_icmp {E : mmE} {d : Nat} {h : mmH} {Q : Option Value → mmH → Prop} {x y : Nat} (hx : x < 2 ^ 31) (hy : y < 2 ^ 31) (hq : Q (some (.int (q_c3 x y))) h) : mm_Go E d 15 (mm_blk 15 0) [.int (nI x), .int (nI y)] [] h Q := by
  unfold q_c3 at hq
  repeat refine go_step ?_
  refine gif (fun c => ?_) (fun c => ?_)
  · have c1 := (nI_leI hy hx).mp c
    rw [if_neg (by omega)] at hq
    repeat refine go_step ?_
    refine gif (fun c2 => ?_) (fun c2 => ?_)
    · rw [if_neg (fun q => c2 (by rw [q]))] at hq
      repeat refine go_step ?_
      refine gjp ?_
      repeat refine go_step ?_
      refine gjp ?_
      exact hq
    · have c3 : nI x = nI y := Classical.not_not.mp c2
      rw [if_pos ((nI_eq hx hy).mp c3)] at hq
      repeat refine go_step ?_
      refine gjp ?_
      repeat refine go_step ?_
      refine gjp ?_
      exact hq
  · rw [if_pos (by
      have : ¬ y ≤ x := fun q => c ((nI_leI hy hx).mpr q)
      omega)] at hq
    repeat refine go_step ?_
    refine gjp ?_
    repeat refine go_step ?_
    refine gjp ?_
    exact hq
/-- bytes by bytes without sign; what ends first is less -/
def q_by (A B : Nat → Nat) (n m : Nat) : Nat → Nat → Int32
  | 0, _ => q_c3 n m
  | k + 1, i => if A i = B i then q_by A B n m k (i + 1) else q_c3 (A i) (B i)
def q_bytes (A : Nat → Nat) (n : Nat) (B : Nat → Nat) (m : Nat) : Int32 := q_by A B n m (min n m) 0
theorem q_c3_0 {x y : Nat} : q_c3 x y = 0 ↔ x = y := by
  unfold q_c3
  constructor
  · intro h
    split at h
    · exact absurd h (by decide)
    · split at h
      · assumption
      · exact absurd h (by decide)
  · intro h
    rw [if_neg (by omega), if_pos h]
theorem sp_compare {E : mmE} {d a b n m aF aT bF bT : Nat} {h : mmH} {Q : Option Value → mmH → Prop} {A B : Nat → Nat} (hd : 1 ≤ d) (ha : bRow h a n A) (hb : bRow h b m B) (h1 : aF ≤ aT) (h2 : aT ≤ 2000) (h3 : bF ≤ bT) (h4 : bT ≤ 2000) (hq : Q (some (.int (q_bytes (fun i => A (aF + i)) (aT - aF) (fun i => B (bF + i)) (bT - bF)))) h) :
    mm_Go E d 14 (mm_blk 14 0) [.ref a, .int (nI aF), .int (nI aT), .ref b, .int (nI bF), .int (nI bT), mm_un, mm_un, mm_un] [] h Q := by
  have hA := ha.2.2.1
  have hB := hb.2.2.1
  have loop : ∀ (k i : Nat) (v8 : Value), mm_wide v8 = false → k + i = min (aT - aF) (bT - bF) → Q (some (.int (q_by (fun i => A (aF + i)) (fun i => B (bF + i)) (aT - aF) (bT - bF) k i))) h → mm_Go E d 14 (mm_blk 14 1) [.ref a, .int (nI aF), .int (nI aT), .ref b, .int (nI bF), .int (nI bT), .int (nI (min (aT - aF) (bT - bF))), .int (nI i), v8] [] h Q := by
    intro k
    induction k with
    | zero =>
      intro i v8 hv hk hq
      repeat refine go_step ?_
      refine gif (fun c => ?_) (fun c => absurd (nI_le (by omega) (by omega)) c)
      repeat refine go_step ?_
      refine g_call (k := 15) rfl hd (Nat.le_of_ble_eq_true rfl) rfl ?_
      rw [pk_sub h1, pk_sub h3]
      refine sp_icmp (by omega) (by omega) ?_
      repeat refine go_step ?_
      exact gjp hq
    | succ k ih =>
      intro i v8 hv hk hq
      repeat refine go_step ?_
      refine gif (fun c => absurd c (nI_ge (by omega) (by omega))) (fun c => ?_)
      repeat refine go_step ?_
      refine g_call (k := 11) rfl hd (Nat.le_of_ble_eq_true rfl) rfl ?_
      rw [nI_add]
      refine sp_atN ha (by omega) ?_
      repeat refine go_step ?_
      refine g_call (k := 11) rfl hd (Nat.le_of_ble_eq_true rfl) rfl ?_
      rw [nI_add]
      refine sp_atN hb (by omega) ?_
      repeat refine go_step ?_
      refine g_call (k := 15) rfl hd (Nat.le_of_ble_eq_true rfl) rfl ?_
      have e1 := hA (aF + i)
      have e2 := hB (bF + i)
      refine sp_icmp (by omega) (by omega) ?_
      unfold q_by at hq
      repeat refine go_step ?_
      refine gif (fun c2 => ?_) (fun c2 => ?_)
      · have c3 := q_c3_0.mp c2
        rw [if_pos c3] at hq
        repeat refine go_step ?_
        refine gjp ?_
        rw [show nI i + Int32.ofInt 1 = nI (i + 1) from nI_1 i]
        exact ih (i + 1) _ rfl (by omega) hq
      · rw [if_neg (fun q => c2 (q_c3_0.mpr q))] at hq
        repeat refine go_step ?_
        exact gjp hq
  repeat refine go_step ?_
  refine g_call (k := 7) rfl hd (Nat.le_of_ble_eq_true rfl) rfl ?_
  rw [pk_sub h1, pk_sub h3]
  refine sp_min (by omega) (by omega) ?_
  repeat refine go_step ?_
  refine gjp ?_
  exact loop _ 0 _ rfl (by omega) hq
end
section
/-- a branch that is known -/
theorem gff {c : Bool} {A B : Prop} (hc : c = false) (hb : B) : (c = true → A) ∧ (c = false → B) := ⟨fun q => absurd (q.symm.trans hc) (by decide), fun _ => hb⟩
theorem gtt {c : Bool} {A B : Prop} (hc : c = true) (ha : A) : (c = true → A) ∧ (c = false → B) := ⟨fun _ => ha, fun q => absurd (hc.symm.trans q) (by decide)⟩
section GO
variable {E : mmE} {d m idx : Nat} {is : List mmI} {L S r : List Value} {h : mmH} {Q : Option Value → mmH → Prop} {ex : List Nat}
theorem g_callV (h0 : mm_k0 ex ≠ 1001) (h0' : mm_k0 ex ≠ 1002) (h1 : mm_k1 ex ≤ S.length) (h2 : mm_sum (S.drop (mm_k1 ex)) ≤ 8) (hrc : mm_rcv E h (mm_k2 ex) (S[mm_k1 ex - 1]?) = true) (hd : 1 ≤ d) (hl : (mm_lay (S.take (mm_k1 ex)).reverse).length ≤ mm_maxL (mm_k0 ex)) (hi : (mm_iss.getD (mm_k0 ex) true || mm_hr (S.take (mm_k1 ex)).reverse) = true)
    (hg : mm_Go E (d - 1) (mm_k0 ex) (mm_blk (mm_k0 ex) 0) (mm_ent (mm_maxL (mm_k0 ex)) (S.take (mm_k1 ex)).reverse) [] h (fun v h' => mm_Go E d m is L (v.toList ++ S.drop (mm_k1 ex)) h' Q)) : mm_goO E d m is L h Q (mm_step E L S h (.invokevirtual idx) ex) := by
  refine g_call (k := mm_k0 ex) (as := (S.take (mm_k1 ex)).reverse) (rr := S.drop (mm_k1 ex)) ?_ hd hl hi hg
  show (if mm_k0 ex = 1001 then _ else if mm_k0 ex = 1002 then _ else mm_call E L S h ex) = _
  rw [if_neg h0, if_neg h0']
  unfold mm_call
  rw [if_pos ⟨h1, h2, Or.inr hrc⟩]
theorem g_gets {a : Nat} {f : Nat → Value} (hf : E.2.2 1 a = some (.inr f)) (ha : a < E.1) (h99 : mm_k0 ex = 99) (hg : mm_Go E d m is L (f (mm_k1 ex) :: r) h Q) : mm_goO E d m is L h Q (mm_step E L (.ref a :: r) h (.getfield idx) ex) := by
  have e : mm_step E L (.ref a :: r) h (.getfield idx) ex = mm_nx L (f (mm_k1 ex) :: r) h := by
    show (if mm_k0 ex = 99 then _ else _) = _
    rw [if_pos h99, hf]
    exact if_pos ha
  rw [e]
  exact hg
end GO
/-- nothing of the small machine stands below its beginning -/
def sOld (E : mmE) (h : mmH) : Prop := ∀ a, a < E.1 → h.2.2 a = none
/-- a String of n characters T at a -/
def strAt (E : mmE) (a n : Nat) (T : Nat → Nat) : Prop := E.2.1 1 = .int 1 ∧ (E.2.1 2 = .null ∨ ∃ z, E.2.1 2 = .ref z) ∧ a < E.1 ∧ n < 1000 ∧ ∃ f v g, E.2.2 1 a = some (.inr f) ∧ f 0 = .ref v ∧ f 1 = .int 0 ∧ v < E.1 ∧ E.2.2 0 v = some (.inl (0, n, g)) ∧ ∀ j, j < n → g j &&& 255 = nI (T j)
theorem str_rcv {E : mmE} {a n : Nat} {T : Nat → Nat} {h : mmH} (hs : strAt E a n T) : mm_rcv E h 100 (some (.ref a)) = true := by
  obtain ⟨-, -, ha, -, f, v, g, hf, -⟩ := hs
  unfold mm_rcv
  dsimp only
  rw [if_pos rfl, hf]
  exact decide_eq_true ha
theorem sp_coder {E : mmE} {d a n : Nat} {h : mmH} {T : Nat → Nat} {Q : Option Value → mmH → Prop} (hs : strAt E a n T) (hq : Q (some (.int 0)) h) : mm_Go E d 30 (mm_blk 30 0) [.ref a] [] h Q := by
  obtain ⟨hc, -, ha, -, f, v, g, hf, hf0, hf1, -⟩ := hs
  refine go_step ?_
  show mm_Go E d 30 _ [.ref a] [E.2.1 1] h Q
  rw [hc]
  repeat refine go_step ?_
  refine gff rfl ?_
  repeat refine go_step ?_
  refine g_gets hf ha rfl ?_
  show mm_Go E d 30 _ [.ref a] [f 1] h Q
  rw [hf1]
  repeat refine go_step ?_
  refine gjp ?_
  repeat refine go_step ?_
  exact gjp hq
theorem sp_latin {E : mmE} {d a n : Nat} {h : mmH} {T : Nat → Nat} {Q : Option Value → mmH → Prop} (hs : strAt E a n T) (hq : Q (some (.int 1)) h) : mm_Go E d 32 (mm_blk 32 0) [.ref a] [] h Q := by
  obtain ⟨hc, -, ha, -, f, v, g, hf, hf0, hf1, -⟩ := hs
  refine go_step ?_
  show mm_Go E d 32 _ [.ref a] [E.2.1 1] h Q
  rw [hc]
  repeat refine go_step ?_
  refine gff rfl ?_
  repeat refine go_step ?_
  refine g_gets hf ha rfl ?_
  show mm_Go E d 32 _ [.ref a] [f 1] h Q
  rw [hf1]
  repeat refine go_step ?_
  refine gff rfl ?_
  repeat refine go_step ?_
  refine gjp ?_
  repeat refine go_step ?_
  exact gjp hq
theorem sp_slen {E : mmE} {d a n : Nat} {h : mmH} {T : Nat → Nat} {Q : Option Value → mmH → Prop} (hd : 1 ≤ d) (ho : sOld E h) (hs : strAt E a n T) (hq : Q (some (.int (nI n))) h) : mm_Go E d 29 (mm_blk 29 0) [.ref a] [] h Q := by
  have hs0 := hs
  obtain ⟨hc, -, ha, hn, f, v, g, hf, hf0, hf1, hv, hg, hT⟩ := hs
  repeat refine go_step ?_
  refine g_gets hf ha rfl ?_
  show mm_Go E d 29 _ [.ref a] [f 0] h Q
  rw [hf0]
  repeat refine go_step ?_
  refine g_alen (n := n) (by unfold mm_len; rw [ho v hv, hg]) ?_
  repeat refine go_step ?_
  refine g_callV (by decide) (by decide) (Nat.le_of_ble_eq_true rfl) (Nat.le_of_ble_eq_true rfl) (str_rcv hs0) hd (Nat.le_of_ble_eq_true rfl) rfl ?_
  refine sp_coder hs0 ?_
  repeat refine go_step ?_
  refine gjp ?_
  have e : Int32.ofNat n >>> ((0 : Int32) &&& 31) = nI n := sc_shr0 (by omega)
  rw [e]
  exact hq
theorem sp_pcheck {E : mmE} {d i n : Nat} {h : mmH} {w : Value} {Q : Option Value → mmH → Prop} (hi : i < n) (hn : n < 2 ^ 31) (hq : Q (some (.int (nI i))) h) : mm_Go E d 35 (mm_blk 35 0) [.int (nI i), .int (nI n), w] [] h Q := by
  repeat refine go_step ?_
  refine gif (fun c => absurd c (nI_pos (by omega))) (fun c => ?_)
  repeat refine go_step ?_
  refine gif (fun c => ?_) (fun c => absurd (nI_lt hi hn) c)
  repeat refine go_step ?_
  exact gjp hq
theorem sp_scheck {E : mmE} {d i n : Nat} {h : mmH} {Q : Option Value → mmH → Prop} (hd : 1 ≤ d) (hE : E.2.1 2 = .null ∨ ∃ z, E.2.1 2 = .ref z) (hi : i < n) (hn : n < 2 ^ 31) (hq : Q none h) : mm_Go E d 34 (mm_blk 34 0) [.int (nI i), .int (nI n)] [] h Q := by
  refine go_step ?_
  refine go_step ?_
  refine go_step ?_
  show mm_Go E d 34 _ _ (E.2.1 2 :: _) h Q
  rcases hE with hE | ⟨z, hE⟩
  · rw [hE]
    refine go_step ?_
    refine g_call (k := 35) rfl hd (Nat.le_of_ble_eq_true rfl) rfl ?_
    refine sp_pcheck hi hn ?_
    repeat refine go_step ?_
    exact gjp hq
  · rw [hE]
    refine go_step ?_
    refine g_call (k := 35) rfl hd (Nat.le_of_ble_eq_true rfl) rfl ?_
    refine sp_pcheck hi hn ?_
    repeat refine go_step ?_
    exact gjp hq
theorem sp_charAt {E : mmE} {d a n i : Nat} {h : mmH} {T : Nat → Nat} {Q : Option Value → mmH → Prop} (hd : 3 ≤ d) (ho : sOld E h) (hs : strAt E a n T) (hi : i < n) (hq : Q (some (.int (nI (T i)))) h) : mm_Go E d 31 (mm_blk 31 0) [.ref a, .int (nI i)] [] h Q := by
  have hs0 := hs
  obtain ⟨hc, hE2, ha, hn, f, v, g, hf, hf0, hf1, hv, hg, hT⟩ := hs
  repeat refine go_step ?_
  refine g_callV (by decide) (by decide) (Nat.le_of_ble_eq_true rfl) (Nat.le_of_ble_eq_true rfl) (str_rcv hs0) (by omega) (Nat.le_of_ble_eq_true rfl) rfl ?_
  refine sp_latin hs0 ?_
  repeat refine go_step ?_
  refine gff rfl ?_
  repeat refine go_step ?_
  refine g_gets hf ha rfl ?_
  show mm_Go E d 31 _ _ [f 0] h Q
  rw [hf0]
  repeat refine go_step ?_
  refine g_call (k := 33) rfl (by omega) (Nat.le_of_ble_eq_true rfl) rfl ?_
  repeat refine go_step ?_
  refine g_alen (n := n) (by unfold mm_len; rw [ho v hv, hg]) ?_
  repeat refine go_step ?_
  refine g_call (k := 34) rfl (by omega) (Nat.le_of_ble_eq_true rfl) rfl ?_
  refine sp_scheck (by omega) hE2 hi (by omega) ?_
  repeat refine go_step ?_
  refine g_bald (t := 0) (n := n) (f := g) (by unfold mm_aI; rw [ho v hv, hg]) (Or.inl rfl) (decide_eq_true (vp_in_nI hi (by omega))) ?_
  refine go_step ?_
  refine go_step ?_
  refine go_step ?_
  have e1 : (((g (nI i).toNatClampNeg) &&& (Int16.ofInt 255).toInt32).toUInt32 % 65536).toInt32 = nI (T i) := by
    rw [nI_clamp (by omega)]
    show ((g i &&& 255).toUInt32 % 65536).toInt32 = _
    rw [sc_c2, hT i hi]
  have e2 : mm_fit 5 (.int (nI (T i))) = true := by
    show decide (((nI (T i)).toUInt32 % 65536).toInt32 = nI (T i)) = true
    rw [← hT i hi, sc_c2]
    exact decide_eq_true rfl
  show mm_Go E _ 33 _ _ [.int (((g (nI i).toNatClampNeg) &&& (Int16.ofInt 255).toInt32).toUInt32 % 65536).toInt32] h _
  rw [e1]
  refine go_step ?_
  show mm_goO _ _ _ _ _ _ _ (if mm_fit 5 (.int (nI (T i))) = true then mm_rt _ else mm_bad)
  rw [if_pos e2]
  refine gjp ?_
  refine go_step ?_
  show mm_goO _ _ _ _ _ _ _ (if mm_fit 5 (.int (nI (T i))) = true then mm_rt _ else mm_bad)
  rw [if_pos e2]
  exact gjp hq
end
section
theorem row_len {E : mmE} {h : mmH} {a n : Nat} {B : Nat → Nat} (hb : bRow h a n B) : mm_len E h a = some n := by
  obtain ⟨-, ⟨f, ha, -⟩, -⟩ := hb
  unfold mm_len
  rw [ha]
/-- a truth as an int -/
def q_t (b : Bool) : Int32 := if b then 1 else 0
theorem sp_areEqual {E : mmE} {d a b n m : Nat} {h : mmH} {Q : Option Value → mmH → Prop} {A B : Nat → Nat} (hd : 2 ≤ d) (ha : bRow h a n A) (hb : bRow h b m B) (hq : Q (some (.int (q_t (decide (q_bytes A n B m = 0))))) h) : mm_Go E d 13 (mm_blk 13 0) [.ref a, .ref b] [] h Q := by
  have hn := ha.1
  have hm := hb.1
  repeat refine go_step ?_
  refine g_alen (row_len ha) ?_
  repeat refine go_step ?_
  refine g_alen (row_len hb) ?_
  repeat refine go_step ?_
  refine g_call (k := 14) rfl (by omega) (Nat.le_of_ble_eq_true rfl) rfl ?_
  refine sp_compare (aF := 0) (aT := n) (bF := 0) (bT := m) (by omega) ha hb (by omega) hn (by omega) hm ?_
  have e : q_bytes (fun i => A (0 + i)) (n - 0) (fun i => B (0 + i)) (m - 0) = q_bytes A n B m := by simp only [Nat.zero_add, Nat.sub_zero]
  rw [e]
  repeat refine go_step ?_
  refine gif (fun c => ?_) (fun c => ?_)
  · rw [decide_eq_false c] at hq
    repeat refine go_step ?_
    refine gjp ?_
    repeat refine go_step ?_
    exact gjp hq
  · rw [decide_eq_true (Classical.not_not.mp c)] at hq
    repeat refine go_step ?_
    refine gjp ?_
    repeat refine go_step ?_
    exact gjp hq
/-- k characters from i on are T's -/
def q_eqs (A T : Nat → Nat) : Nat → Nat → Bool
  | 0, _ => true
  | k + 1, i => if A i = T i then q_eqs A T k (i + 1) else false
def q_isw (B : Nat → Nat) (fr to n : Nat) (T : Nat → Nat) : Bool := decide (to - fr = n) && q_eqs (fun i => B (fr + i)) T n 0
theorem sp_isWord {E : mmE} {d a s n len fr to : Nat} {h : mmH} {Q : Option Value → mmH → Prop} {B T : Nat → Nat} (hd : 4 ≤ d) (ho : sOld E h) (ha : bRow h a n B) (hs : strAt E s len T) (hT : ∀ j, j < len → T j < 256) (h1 : fr ≤ to) (h2 : to ≤ 2000) (hq : Q (some (.int (q_t (q_isw B fr to len T)))) h) : mm_Go E d 28 (mm_blk 28 0) [.ref a, .int (nI fr), .int (nI to), .ref s, mm_un] [] h Q := by
  have hlen : len < 1000 := hs.2.2.2.1
  have hB := ha.2.2.1
  have loop : ∀ (k i : Nat), k + i = len → to - fr = len → Q (some (.int (q_t (q_eqs (fun i => B (fr + i)) T k i)))) h → mm_Go E d 28 (mm_blk 28 2) [.ref a, .int (nI fr), .int (nI to), .ref s, .int (nI i)] [] h Q := by
    intro k
    induction k with
    | zero =>
      intro i hk hl hq
      repeat refine go_step ?_
      refine g_callV (by decide) (by decide) (Nat.le_of_ble_eq_true rfl) (Nat.le_of_ble_eq_true rfl) (str_rcv hs) (by omega) (Nat.le_of_ble_eq_true rfl) rfl ?_
      refine sp_slen (by omega) ho hs ?_
      repeat refine go_step ?_
      refine gif (fun c => ?_) (fun c => absurd (nI_le (by omega) (by omega)) c)
      repeat refine go_step ?_
      exact gjp hq
    | succ k ih =>
      intro i hk hl hq
      repeat refine go_step ?_
      refine g_callV (by decide) (by decide) (Nat.le_of_ble_eq_true rfl) (Nat.le_of_ble_eq_true rfl) (str_rcv hs) (by omega) (Nat.le_of_ble_eq_true rfl) rfl ?_
      refine sp_slen (by omega) ho hs ?_
      repeat refine go_step ?_
      refine gif (fun c => absurd c (nI_ge (by omega) (by omega))) (fun c => ?_)
      repeat refine go_step ?_
      refine g_call (k := 11) rfl (by omega) (Nat.le_of_ble_eq_true rfl) rfl ?_
      rw [nI_add]
      refine sp_atN ha (by omega) ?_
      repeat refine go_step ?_
      refine g_callV (by decide) (by decide) (Nat.le_of_ble_eq_true rfl) (Nat.le_of_ble_eq_true rfl) (str_rcv hs) (by omega) (Nat.le_of_ble_eq_true rfl) rfl ?_
      refine sp_charAt (by omega) ho hs (by omega) ?_
      have e1 := hB (fr + i)
      have e2 := hT i (by omega)
      unfold q_eqs at hq
      repeat refine go_step ?_
      refine gif (fun c2 => ?_) (fun c2 => ?_)
      · rw [if_pos ((nI_eq (by omega) (by omega)).mp c2)] at hq
        repeat refine go_step ?_
        refine gjp ?_
        rw [show nI i + Int32.ofInt 1 = nI (i + 1) from nI_1 i]
        exact ih (i + 1) (by omega) hl hq
      · rw [if_neg (fun q => c2 (by rw [q]))] at hq
        repeat refine go_step ?_
        exact gjp hq
  repeat refine go_step ?_
  refine g_callV (by decide) (by decide) (Nat.le_of_ble_eq_true rfl) (Nat.le_of_ble_eq_true rfl) (str_rcv hs) (by omega) (Nat.le_of_ble_eq_true rfl) rfl ?_
  refine sp_slen (by omega) ho hs ?_
  rw [pk_sub h1]
  unfold q_isw at hq
  repeat refine go_step ?_
  refine gif (fun c => ?_) (fun c => ?_)
  · have c1 := (nI_eq (by omega) (by omega)).mp c
    rw [decide_eq_true c1, Bool.true_and] at hq
    repeat refine go_step ?_
    refine gjp ?_
    exact loop len 0 (by omega) c1 hq
  · rw [decide_eq_false (fun q => c (by rw [q])), Bool.false_and] at hq
    repeat refine go_step ?_
    exact gjp hq
/-- the class of a kind, as the class has it: what is no kind is a number's -/
def q_cls (k : Nat) : Nat := if k = 10 then 1 else if k = 2 then 3 else if k = 3 then 4 else if k = 4 then 5 else if k = 8 then 6 else 2
theorem sp_classOf {E : mmE} {d k : Nat} {h : mmH} {Q : Option Value → mmH → Prop} (hk : k < 256) (hq : Q (some (.int (nI (q_cls k)))) h) : mm_Go E d 36 (mm_blk 36 0) [.int (nI k)] [] h Q := by
  have all : ∀ k, k < 256 → mm_sw 6 2 [2, 3, 4, 6, 6, 6, 5, 6, 1] (nI k) = (if k = 10 then 1 else if k = 2 then 2 else if k = 3 then 3 else if k = 4 then 4 else if k = 8 then 5 else 6) := by decide +kernel
  refine go_step ?_
  refine go_step ?_
  refine gjp ?_
  show mm_Go E d 36 (mm_blk 36 (mm_sw 6 2 [2, 3, 4, 6, 6, 6, 5, 6, 1] (nI k))) _ _ _ _
  rw [all k hk]
  unfold q_cls at hq
  by_cases h1 : k = 10
  · rw [if_pos h1] at hq ⊢
    repeat refine go_step ?_
    exact gjp hq
  · rw [if_neg h1] at hq ⊢
    by_cases h2 : k = 2
    · rw [if_pos h2] at hq ⊢
      repeat refine go_step ?_
      exact gjp hq
    · rw [if_neg h2] at hq ⊢
      by_cases h3 : k = 3
      · rw [if_pos h3] at hq ⊢
        repeat refine go_step ?_
        exact gjp hq
      · rw [if_neg h3] at hq ⊢
        by_cases h4 : k = 4
        · rw [if_pos h4] at hq ⊢
          repeat refine go_step ?_
          exact gjp hq
        · rw [if_neg h4] at hq ⊢
          by_cases h5 : k = 8
          · rw [if_pos h5] at hq ⊢
            repeat refine go_step ?_
            exact gjp hq
          · rw [if_neg h5] at hq ⊢
            repeat refine go_step ?_
            exact gjp hq
end
section
/-- the decimal digits of a number, from their end on -/
def q_dec (B : Nat → Nat) (fr : Nat) : Nat → Nat → Nat → Bool
  | 0, _, _ => false
  | k + 1, pl, rest => if pl ≤ fr then false else if B (pl - 1) = 48 + rest % 10 then (if 0 < rest / 10 then q_dec B fr k (pl - 1) (rest / 10) else decide (pl - 1 = fr)) else false
theorem sp_isDecimal {E : mmE} {d a n fr to num : Nat} {h : mmH} {Q : Option Value → mmH → Prop} {B : Nat → Nat} (hd : 1 ≤ d) (ha : bRow h a n B) (h0 : 1 ≤ fr) (h1 : fr ≤ to) (h2 : to ≤ 2000) (hn : num < 2 ^ 30) (hq : Q (some (.int (q_t (q_dec B fr (to + 1) to num)))) h) : mm_Go E d 52 (mm_blk 52 0) [.ref a, .int (nI fr), .int (nI to), .int (nI num), mm_un, mm_un] [] h Q := by
  have hB := ha.2.2.1
  have loop : ∀ (k pl rest : Nat), pl < k → fr ≤ pl → pl ≤ to → rest < 2 ^ 30 → Q (some (.int (q_t (q_dec B fr k pl rest)))) h → mm_Go E d 52 (mm_blk 52 1) [.ref a, .int (nI fr), .int (nI to), .int (nI num), .int (nI rest), .int (nI pl)] [] h Q := by
    intro k
    induction k with
    | zero => intro pl rest hk; omega
    | succ k ih =>
      intro pl rest hk hfp hpt hr hq
      unfold q_dec at hq
      refine go_step ?_
      show mm_Go E d 52 _ [.ref a, .int (nI fr), .int (nI to), .int (nI num), .int (nI rest), .int (nI pl + Int32.ofInt (-1))] _ h Q
      rw [show nI pl + Int32.ofInt (-1) = nI (pl - 1) from sb_m1 (by omega)]
      have hB1 := hB (pl - 1)
      repeat refine go_step ?_
      refine gif (fun c => ?_) (fun c => ?_)
      · have c1 := (nI_ltI (by omega) (by omega)).mp c
        rw [if_pos (by omega)] at hq
        repeat refine go_step ?_
        exact gjp hq
      · have c1 : ¬ pl - 1 < fr := fun q => c ((nI_ltI (by omega) (by omega)).mpr q)
        rw [if_neg (by omega)] at hq
        repeat refine go_step ?_
        refine g_call (k := 11) rfl hd (Nat.le_of_ble_eq_true rfl) rfl ?_
        refine sp_atN ha (by omega) ?_
        refine go_step ?_
        refine go_step ?_
        refine go_step ?_
        refine go_step ?_
        refine go_step ?_
        show mm_Go E d 52 _ _ (.int (nI 48 + (nI rest - nI rest / nI 10 * nI 10)) :: _) h Q
        rw [pk_rem (by omega) (by decide) (by decide), nI_add]
        repeat refine go_step ?_
        have hm : rest % 10 < 10 := Nat.mod_lt _ (by decide)
        refine gif (fun c2 => ?_) (fun c2 => ?_)
        · rw [if_pos ((nI_eq (by omega) (by omega)).mp c2)] at hq
          refine go_step ?_
          refine go_step ?_
          refine go_step ?_
          refine go_step ?_
          show mm_Go E d 52 _ [.ref a, .int (nI fr), .int (nI to), .int (nI num), .int (nI rest / nI 10), .int (nI (pl - 1))] _ h Q
          rw [pk_div (by omega) (by decide) (by decide)]
          have hdv : rest / 10 ≤ rest := Nat.div_le_self _ _
          repeat refine go_step ?_
          refine gif (fun c3 => ?_) (fun c3 => ?_)
          · have c4 : 0 < rest / 10 := (nI_ltI (a := 0) (by omega) (by omega)).mp c3
            rw [if_pos c4] at hq
            exact ih (pl - 1) (rest / 10) (by omega) (by omega) (by omega) (by omega) hq
          · have c4 : ¬ 0 < rest / 10 := fun q => c3 ((nI_ltI (a := 0) (by omega) (by omega)).mpr q)
            rw [if_neg c4] at hq
            repeat refine go_step ?_
            refine gif (fun c5 => ?_) (fun c5 => ?_)
            · rw [decide_eq_false (fun q => c5 (by rw [q]))] at hq
              repeat refine go_step ?_
              refine gjp ?_
              repeat refine go_step ?_
              exact gjp hq
            · rw [decide_eq_true ((nI_eq (by omega) (by omega)).mp (Classical.not_not.mp c5))] at hq
              repeat refine go_step ?_
              refine gjp ?_
              repeat refine go_step ?_
              exact gjp hq
        · rw [if_neg (fun q => c2 (by rw [q]))] at hq
          repeat refine go_step ?_
          refine gjp ?_
          repeat refine go_step ?_
          exact gjp hq
  repeat refine go_step ?_
  refine gjp ?_
  exact loop (to + 1) to num (by omega) h1 (by omega) hn hq
/-- the steps of a path, as the class reads them: what is left to read, whether a step begins here, how many there were -/
def q_steps (B : Nat → Nat) (dol : Bool) : Nat → Nat → Bool → Nat → Bool
  | 0, _, opens, st => !opens && decide (st ≤ 8)
  | k + 1, i, opens, st => if B i = 0 ∨ (opens = true ∧ (B i = 46 ∨ (B i = 36 ∧ dol = false))) then false else q_steps B dol k (i + 1) (decide (B i = 46)) (if opens then st + 1 else st)
theorem q_t_ne {b : Bool} : q_t b = 0 ↔ b = false := by cases b <;> decide
theorem sp_hasRightSteps {E : mmE} {d a n fr to : Nat} {dol : Bool} {h : mmH} {Q : Option Value → mmH → Prop} {B : Nat → Nat} (hd : 1 ≤ d) (ha : bRow h a n B) (h1 : fr ≤ to) (h2 : to ≤ 2000) (hq : Q (some (.int (q_t (q_steps B dol (to - fr) fr true 0)))) h) : mm_Go E d 12 (mm_blk 12 0) [.ref a, .int (nI fr), .int (nI to), .int (q_t dol), mm_un, mm_un, mm_un, mm_un] [] h Q := by
  have hB := ha.2.2.1
  have loop : ∀ (k i st : Nat) (opens : Bool) (v : Value), mm_wide v = false → k + i = to → fr ≤ i → st ≤ i → Q (some (.int (q_t (q_steps B dol k i opens st)))) h → mm_Go E d 12 (mm_blk 12 1) [.ref a, .int (nI fr), .int (nI to), .int (q_t dol), .int (nI st), .int (q_t opens), .int (nI i), v] [] h Q := by
    intro k
    induction k with
    | zero =>
      intro i st opens v hv hk hi hst hq
      unfold q_steps at hq
      repeat refine go_step ?_
      refine gif (fun c => ?_) (fun c => absurd (nI_le (by omega) (by omega)) c)
      repeat refine go_step ?_
      refine gif (fun c => ?_) (fun c => ?_)
      · have c1 : opens = true := by
          cases opens
          · exact absurd rfl c
          · rfl
        rw [c1] at hq
        repeat refine go_step ?_
        refine gjp ?_
        repeat refine go_step ?_
        exact gjp hq
      · have c1 : opens = false := q_t_ne.mp (Classical.not_not.mp c)
        rw [c1, Bool.not_false, Bool.true_and] at hq
        repeat refine go_step ?_
        refine gif (fun c2 => ?_) (fun c2 => ?_)
        · rw [decide_eq_false (by
            have := (nI_ltI (a := 8) (by omega) (by omega)).mp c2
            omega)] at hq
          repeat refine go_step ?_
          refine gjp ?_
          repeat refine go_step ?_
          exact gjp hq
        · rw [decide_eq_true (by
            have : ¬ 8 < st := fun q => c2 ((nI_ltI (a := 8) (by omega) (by omega)).mpr q)
            omega)] at hq
          repeat refine go_step ?_
          refine gjp ?_
          repeat refine go_step ?_
          exact gjp hq
    | succ k ih =>
      intro i st opens v hv hk hi hst hq
      have hBi := hB i
      unfold q_steps at hq
      repeat refine go_step ?_
      refine gif (fun c => absurd c (nI_ge (by omega) (by omega))) (fun c => ?_)
      repeat refine go_step ?_
      refine g_call (k := 11) rfl hd (Nat.le_of_ble_eq_true rfl) rfl ?_
      refine sp_atN ha (by omega) ?_
      have bad : (B i = 0 ∨ (opens = true ∧ (B i = 46 ∨ (B i = 36 ∧ dol = false)))) → mm_Go E d 12 (mm_blk 12 2) [.ref a, .int (nI fr), .int (nI to), .int (q_t dol), .int (nI st), .int (q_t opens), .int (nI i), .int (nI (B i))] [] h Q := by
        intro hc
        rw [if_pos hc] at hq
        repeat refine go_step ?_
        exact gjp hq
      have good : ¬ (B i = 0 ∨ (opens = true ∧ (B i = 46 ∨ (B i = 36 ∧ dol = false)))) → mm_Go E d 12 (mm_blk 12 3) [.ref a, .int (nI fr), .int (nI to), .int (q_t dol), .int (nI st), .int (q_t opens), .int (nI i), .int (nI (B i))] [] h Q := by
        intro hc
        rw [if_neg hc] at hq
        have tail : ∀ st' : Nat, st' ≤ i + 1 → Q (some (.int (q_t (q_steps B dol k (i + 1) (decide (B i = 46)) st')))) h → mm_Go E d 12 (mm_blk 12 4) [.ref a, .int (nI fr), .int (nI to), .int (q_t dol), .int (nI st'), .int (q_t opens), .int (nI i), .int (nI (B i))] [] h Q := by
          intro st' hst' hq
          repeat refine go_step ?_
          refine gif (fun c2 => ?_) (fun c2 => ?_)
          · have c3 : ¬ B i = 46 := fun q => c2 (by rw [q]; rfl)
            rw [decide_eq_false c3] at hq
            repeat refine go_step ?_
            refine gjp ?_
            repeat refine go_step ?_
            refine gjp ?_
            rw [show nI i + Int32.ofInt 1 = nI (i + 1) from nI_1 i]
            exact ih (i + 1) st' false _ rfl (by omega) (by omega) hst' hq
          · have c3 : B i = 46 := (nI_eq (b := 46) (by omega) (by omega)).mp (Classical.not_not.mp c2)
            rw [decide_eq_true c3] at hq
            repeat refine go_step ?_
            refine gjp ?_
            repeat refine go_step ?_
            refine gjp ?_
            rw [show nI i + Int32.ofInt 1 = nI (i + 1) from nI_1 i]
            exact ih (i + 1) st' true _ rfl (by omega) (by omega) hst' hq
        cases opens with
        | true =>
          repeat refine go_step ?_
          refine gff rfl ?_
          refine go_step ?_
          show mm_Go E d 12 _ [.ref a, .int (nI fr), .int (nI to), .int (q_t dol), .int (nI st + Int32.ofInt 1), .int (q_t true), .int (nI i), .int (nI (B i))] _ h Q
          rw [show nI st + Int32.ofInt 1 = nI (st + 1) from nI_1 st]
          repeat refine go_step ?_
          refine gjp ?_
          exact tail (st + 1) (by omega) hq
        | false =>
          repeat refine go_step ?_
          refine gtt rfl ?_
          exact tail st (by omega) hq
      repeat refine go_step ?_
      refine gif (fun c2 => bad (Or.inl ((nI_eq (b := 0) (by omega) (by omega)).mp c2))) (fun c2 => ?_)
      have c0 : ¬ B i = 0 := fun q => c2 (by rw [q]; rfl)
      repeat refine go_step ?_
      refine gif (fun c3 => good (fun q => by
        rcases q with q | q
        · exact c0 q
        · rw [q_t_ne.mp c3] at q
          cases q.1)) (fun c3 => ?_)
      have c4 : opens = true := by
        cases opens
        · exact absurd rfl c3
        · rfl
      repeat refine go_step ?_
      refine gif (fun c5 => bad (Or.inr ⟨c4, Or.inl ((nI_eq (b := 46) (by omega) (by omega)).mp c5)⟩)) (fun c5 => ?_)
      have c6 : ¬ B i = 46 := fun q => c5 (by rw [q]; rfl)
      repeat refine go_step ?_
      refine gif (fun c7 => good (fun q => by
        rcases q with q | ⟨-, q | q⟩
        · exact c0 q
        · exact c6 q
        · exact c7 (by rw [q.1]; rfl))) (fun c7 => ?_)
      have c8 : B i = 36 := (nI_eq (b := 36) (by omega) (by omega)).mp (Classical.not_not.mp c7)
      repeat refine go_step ?_
      refine gif (fun c9 => good (fun q => by
        rcases q with q | ⟨-, q | q⟩
        · exact c0 q
        · exact c6 q
        · exact c9 (by rw [q.2]; rfl))) (fun c9 => ?_)
      repeat refine go_step ?_
      refine gjp ?_
      exact bad (Or.inr ⟨c4, Or.inr ⟨c8, q_t_ne.mp (Classical.not_not.mp c9)⟩⟩)
  repeat refine go_step ?_
  refine gjp ?_
  exact loop (to - fr) fr 0 true _ rfl (by omega) (by omega) (by omega) hq
end
section
def q_ul (b : Nat) : Nat := if b < 224 then 2 else if b < 240 then 3 else 4
def q_uo (n : Nat) : Nat := if n = 2 then 192 else if n = 3 then 224 else 240
def q_ub (n : Nat) : Nat := if n = 2 then 128 else if n = 3 then 2048 else 65536
/-- the bytes behind the first one of a character -/
def q_uc (B : Nat → Nat) (p : Nat) : Nat → Nat → Nat → Option Nat
  | 0, _, v => some v
  | k + 1, i, v => if 128 ≤ B (p + i) ∧ B (p + i) < 192 then q_uc B p k (i + 1) (64 * v + (B (p + i) - 128)) else none
/-- how many bytes the character at p has, 0 when it is not right -/
def q_chr (B : Nat → Nat) (p to : Nat) : Nat := if B p < 128 then 1 else if B p < 192 ∨ 247 < B p ∨ to - p < q_ul (B p) then 0 else match q_uc B p (q_ul (B p) - 1) 1 (B p - q_uo (q_ul (B p))) with
  | none => 0
  | some v => if v < q_ub (q_ul (B p)) ∨ 1114111 < v ∨ (55296 ≤ v ∧ v ≤ 57343) then 0 else q_ul (B p)
def q_utf (B : Nat → Nat) (to : Nat) : Nat → Nat → Bool
  | 0, _ => true
  | k + 1, p => if to ≤ p then true else if q_chr B p to = 0 then false else q_utf B to k (p + q_chr B p to)
theorem q_cont : ∀ c, c < 256 → (nI c &&& 192 = 128 ↔ 128 ≤ c ∧ c < 192) := by decide +kernel
theorem q_c63 : ∀ c, c < 256 → 128 ≤ c ∧ c < 192 → nI c &&& 63 = nI (c - 128) := by decide +kernel
theorem q_u0 : ∀ b, b < 248 → 192 ≤ b → nI b &&& (127 >>> (nI (q_ul b) &&& 31)) = nI (b - q_uo (q_ul b)) := by decide +kernel
theorem nI_or6 {v x : Nat} (hv : v < 2 ^ 20) (hx : x < 64) : (nI v <<< ((6 : Int32) &&& 31)) ||| nI x = nI (64 * v + x) := by
  rw [pk_shlN ((6 : Int32) &&& 31) 6 (by decide) (by omega)]
  apply Int32.toBitVec_inj.mp
  apply BitVec.eq_of_toNat_eq
  rw [Int32.toBitVec_or, BitVec.toNat_or, pk_tn (by omega), pk_tn (by omega), pk_tn (by omega), ← Nat.shiftLeft_eq, ← Nat.shiftLeft_add_eq_or_of_lt (by omega), Nat.shiftLeft_eq]
  omega
theorem q_ul_le (b : Nat) : 2 ≤ q_ul b ∧ q_ul b ≤ 4 := by
  unfold q_ul
  split
  · omega
  · split <;> omega
theorem sp_chr {E : mmE} {d a n p to : Nat} {h : mmH} {Q : Option Value → mmH → Prop} {B : Nat → Nat} (hd : 1 ≤ d) (ha : bRow h a n B) (h1 : p ≤ to) (h2 : to ≤ 2000) (hq : Q (some (.int (nI (q_chr B p to)))) h) : mm_Go E d 10 (mm_blk 10 0) [.ref a, .int (nI p), .int (nI to), mm_un, mm_un, mm_un, mm_un, mm_un] [] h Q := by
  have hB := ha.2.2.1
  have hb := hB p
  have hul := q_ul_le (B p)
  have no : q_chr B p to = 0 → ∀ (v4 v5 v6 v7 : Value), mm_Go E d 10 (mm_blk 10 5) [.ref a, .int (nI p), .int (nI to), .int (nI (B p)), v4, v5, v6, v7] [] h Q := by
    intro h0 v4 v5 v6 v7
    rw [h0] at hq
    repeat refine go_step ?_
    exact gjp hq
  -- the end: least, surrogates
  have fin : ∀ (v : Nat) (v6 v7 : Value), mm_wide v6 = false → mm_wide v7 = false → v < 2 ^ 30 → ¬ B p < 128 → ¬ (B p < 192 ∨ 247 < B p ∨ to - p < q_ul (B p)) → q_uc B p (q_ul (B p) - 1) 1 (B p - q_uo (q_ul (B p))) = some v → mm_Go E d 10 (mm_blk 10 9) [.ref a, .int (nI p), .int (nI to), .int (nI (B p)), .int (nI (q_ul (B p))), .int (nI v), v6, v7] [] h Q := by
    intro v v6 v7 hv6 hv7 hv c1 c2 hu
    have hres : q_chr B p to = if v < q_ub (q_ul (B p)) ∨ 1114111 < v ∨ (55296 ≤ v ∧ v ≤ 57343) then 0 else q_ul (B p) := by
      unfold q_chr
      rw [if_neg c1, if_neg c2, hu]
    rw [hres] at hq
    have last : ∀ sg : Bool, (sg = true ↔ (55296 ≤ v ∧ v ≤ 57343)) → ∀ lst : Nat, lst = q_ub (q_ul (B p)) → lst < 2 ^ 30 → mm_Go E d 10 (mm_blk 10 14) [.ref a, .int (nI p), .int (nI to), .int (nI (B p)), .int (nI (q_ul (B p))), .int (nI v), .int (nI lst), v7] [.int (q_t sg)] h Q := by
      intro sg hsg lst hlst hl30
      have z0 : (v < q_ub (q_ul (B p)) ∨ 1114111 < v ∨ (55296 ≤ v ∧ v ≤ 57343)) → mm_Go E d 10 (mm_blk 10 15) [.ref a, .int (nI p), .int (nI to), .int (nI (B p)), .int (nI (q_ul (B p))), .int (nI v), .int (nI lst), .int (q_t sg)] [] h Q := by
        intro hc
        rw [if_pos hc] at hq
        repeat refine go_step ?_
        refine gjp ?_
        repeat refine go_step ?_
        exact gjp hq
      repeat refine go_step ?_
      refine gif (fun c => z0 (Or.inl (by rw [← hlst]; exact (nI_ltI (by omega) (by omega)).mp c))) (fun c => ?_)
      have c3 : ¬ v < lst := fun q => c ((nI_ltI (by omega) (by omega)).mpr q)
      repeat refine go_step ?_
      refine gif (fun c4 => z0 (Or.inr (Or.inl ((nI_ltI (a := 1114111) (by omega) (by omega)).mp c4)))) (fun c4 => ?_)
      have c5 : ¬ 1114111 < v := fun q => c4 ((nI_ltI (a := 1114111) (by omega) (by omega)).mpr q)
      repeat refine go_step ?_
      refine gif (fun c6 => ?_) (fun c6 => ?_)
      · have c7 : sg = false := q_t_ne.mp c6
        rw [if_neg (by
          rw [← hlst]
          intro q
          rcases q with q | q | q
          · exact c3 q
          · exact c5 q
          · rw [hsg.mpr q] at c7; cases c7)] at hq
        repeat refine go_step ?_
        refine gjp ?_
        repeat refine go_step ?_
        exact gjp hq
      · repeat refine go_step ?_
        refine gjp ?_
        refine z0 (Or.inr (Or.inr (hsg.mp ?_)))
        cases sg
        · exact absurd rfl c6
        · rfl
    have mid : ∀ lst : Nat, lst = q_ub (q_ul (B p)) → lst < 2 ^ 30 → mm_Go E d 10 (mm_blk 10 12) [.ref a, .int (nI p), .int (nI to), .int (nI (B p)), .int (nI (q_ul (B p))), .int (nI v), v6, v7] [.int (nI lst)] h Q := by
      intro lst hlst hl30
      refine go_step ?_
      show mm_Go E d 10 _ (mm_st1 [.ref a, .int (nI p), .int (nI to), .int (nI (B p)), .int (nI (q_ul (B p))), .int (nI v), v6, v7] 6 (.int (nI lst))) [] h Q
      rw [show mm_st1 [.ref a, .int (nI p), .int (nI to), .int (nI (B p)), .int (nI (q_ul (B p))), .int (nI v), v6, v7] 6 (.int (nI lst)) = [.ref a, .int (nI p), .int (nI to), .int (nI (B p)), .int (nI (q_ul (B p))), .int (nI v), .int (nI lst), v7] from rfl]
      have g13 : ¬ (55296 ≤ v ∧ v ≤ 57343) → mm_Go E d 10 (mm_blk 10 13) [.ref a, .int (nI p), .int (nI to), .int (nI (B p)), .int (nI (q_ul (B p))), .int (nI v), .int (nI lst), v7] [] h Q := by
        intro hc
        repeat refine go_step ?_
        refine gjp ?_
        exact last false ⟨(fun q => by cases q), fun q => absurd q hc⟩ lst hlst hl30
      repeat refine go_step ?_
      refine gif (fun c => g13 (by
        have := (nI_ltI (b := 55296) (by omega) (by omega)).mp c
        omega)) (fun c => ?_)
      have c3 : ¬ v < 55296 := fun q => c ((nI_ltI (b := 55296) (by omega) (by omega)).mpr q)
      repeat refine go_step ?_
      refine gif (fun c4 => g13 (by
        have := (nI_ltI (a := 57343) (by omega) (by omega)).mp c4
        omega)) (fun c4 => ?_)
      have c5 : ¬ 57343 < v := fun q => c4 ((nI_ltI (a := 57343) (by omega) (by omega)).mpr q)
      repeat refine go_step ?_
      refine gjp ?_
      exact last true ⟨fun _ => by omega, fun _ => rfl⟩ lst hlst hl30
    have e2 : q_ul (B p) = 2 ∨ q_ul (B p) = 3 ∨ q_ul (B p) = 4 := by omega
    repeat refine go_step ?_
    refine gif (fun c => ?_) (fun c => ?_)
    · have c3 : ¬ q_ul (B p) = 2 := fun q => c (by rw [q]; rfl)
      repeat refine go_step ?_
      refine gif (fun c4 => ?_) (fun c4 => ?_)
      · have c5 : ¬ q_ul (B p) = 3 := fun q => c4 (by rw [q]; rfl)
        repeat refine go_step ?_
        refine gjp ?_
        exact mid 65536 (by unfold q_ub; rw [if_neg c3, if_neg c5]) (by decide)
      · have c5 : q_ul (B p) = 3 := (nI_eq (b := 3) (by omega) (by omega)).mp (Classical.not_not.mp c4)
        repeat refine go_step ?_
        refine gjp ?_
        exact mid 2048 (by unfold q_ub; rw [if_neg c3, if_pos c5]) (by decide)
    · have c3 : q_ul (B p) = 2 := (nI_eq (b := 2) (by omega) (by omega)).mp (Classical.not_not.mp c)
      repeat refine go_step ?_
      refine gjp ?_
      exact mid 128 (by unfold q_ub; rw [if_pos c3]) (by decide)
  -- the bytes behind the first one
  have loop : ∀ (k i v : Nat) (v7 : Value), mm_wide v7 = false → ¬ B p < 128 → ¬ (B p < 192 ∨ 247 < B p ∨ to - p < q_ul (B p)) → k + i = q_ul (B p) → 1 ≤ i → v < 64 ^ i → q_uc B p (q_ul (B p) - 1) 1 (B p - q_uo (q_ul (B p))) = q_uc B p k i v → mm_Go E d 10 (mm_blk 10 7) [.ref a, .int (nI p), .int (nI to), .int (nI (B p)), .int (nI (q_ul (B p))), .int (nI v), .int (nI i), v7] [] h Q := by
    intro k
    induction k with
    | zero =>
      intro i v v7 hv7 c1 c2 hk hi hv hu
      have hv4 : v < 64 ^ 4 := Nat.lt_of_lt_of_le hv (Nat.pow_le_pow_right (by decide) (by omega))
      repeat refine go_step ?_
      refine gif (fun c => ?_) (fun c => absurd (nI_le (by omega) (by omega)) c)
      exact fin v _ v7 rfl hv7 (by omega) c1 c2 hu
    | succ k ih =>
      intro i v v7 hv7 c1 c2 hk hi hv hu
      have hv3 : v < 64 ^ 3 := Nat.lt_of_lt_of_le hv (Nat.pow_le_pow_right (by decide) (by omega))
      have hc := hB (p + i)
      repeat refine go_step ?_
      refine gif (fun c => absurd c (nI_ge (by omega) (by omega))) (fun c => ?_)
      repeat refine go_step ?_
      refine g_call (k := 11) rfl hd (Nat.le_of_ble_eq_true rfl) rfl ?_
      rw [nI_add]
      refine sp_atN ha (by omega) ?_
      refine go_step ?_
      show mm_Go E d 10 _ (mm_st1 [.ref a, .int (nI p), .int (nI to), .int (nI (B p)), .int (nI (q_ul (B p))), .int (nI v), .int (nI i), v7] 7 (.int (nI (B (p + i))))) [] h Q
      rw [show mm_st1 [.ref a, .int (nI p), .int (nI to), .int (nI (B p)), .int (nI (q_ul (B p))), .int (nI v), .int (nI i), v7] 7 (.int (nI (B (p + i)))) = [.ref a, .int (nI p), .int (nI to), .int (nI (B p)), .int (nI (q_ul (B p))), .int (nI v), .int (nI i), .int (nI (B (p + i)))] from rfl]
      rw [show q_uc B p (k + 1) i v = if 128 ≤ B (p + i) ∧ B (p + i) < 192 then q_uc B p k (i + 1) (64 * v + (B (p + i) - 128)) else none from rfl] at hu
      repeat refine go_step ?_
      refine gif (fun c3 => ?_) (fun c3 => ?_)
      · have c4 := (q_cont _ hc).mp c3
        rw [if_pos c4] at hu
        refine go_step ?_
        refine go_step ?_
        refine go_step ?_
        refine go_step ?_
        refine go_step ?_
        refine go_step ?_
        refine go_step ?_
        show mm_Go E d 10 _ _ [.int ((nI v <<< ((6 : Int32) &&& 31)) ||| (nI (B (p + i)) &&& 63))] h Q
        rw [q_c63 _ hc c4, nI_or6 (by omega) (by omega)]
        refine go_step ?_
        refine go_step ?_
        show mm_Go E d 10 _ [.ref a, .int (nI p), .int (nI to), .int (nI (B p)), .int (nI (q_ul (B p))), .int (nI (64 * v + (B (p + i) - 128))), .int (nI i + Int32.ofInt 1), .int (nI (B (p + i)))] [] h Q
        rw [show nI i + Int32.ofInt 1 = nI (i + 1) from nI_1 i]
        repeat refine go_step ?_
        refine gjp ?_
        refine ih (i + 1) _ _ rfl c1 c2 (by omega) (by omega) ?_ hu
        rw [Nat.pow_succ]
        omega
      · have c4 : ¬ (128 ≤ B (p + i) ∧ B (p + i) < 192) := fun q => c3 ((q_cont _ hc).mpr q)
        rw [if_neg c4] at hu
        have h0 : q_chr B p to = 0 := by
          unfold q_chr
          rw [if_neg c1, if_neg c2, hu]
        rw [h0] at hq
        repeat refine go_step ?_
        exact gjp hq
  have four : ¬ B p < 128 → mm_Go E d 10 (mm_blk 10 4) [.ref a, .int (nI p), .int (nI to), .int (nI (B p)), mm_un, mm_un, mm_un, mm_un] [.int (nI (q_ul (B p)))] h Q := by
    intro c1
    have z : (B p < 192 ∨ 247 < B p ∨ to - p < q_ul (B p)) → mm_Go E d 10 (mm_blk 10 5) [.ref a, .int (nI p), .int (nI to), .int (nI (B p)), .int (nI (q_ul (B p))), mm_un, mm_un, mm_un] [] h Q := fun hc => no (by unfold q_chr; rw [if_neg c1, if_pos hc]) _ _ _ _
    repeat refine go_step ?_
    refine gif (fun c => z (Or.inl ((nI_ltI (b := 192) (by omega) (by omega)).mp c))) (fun c => ?_)
    have c2 : ¬ B p < 192 := fun q => c ((nI_ltI (b := 192) (by omega) (by omega)).mpr q)
    repeat refine go_step ?_
    refine gif (fun c3 => z (Or.inr (Or.inl ((nI_ltI (a := 247) (by omega) (by omega)).mp c3)))) (fun c3 => ?_)
    have c4 : ¬ 247 < B p := fun q => c3 ((nI_ltI (a := 247) (by omega) (by omega)).mpr q)
    repeat refine go_step ?_
    refine gif (fun c5 => ?_) (fun c5 => ?_)
    · rw [pk_sub h1] at c5
      have c6 := (nI_leI (by omega) (by omega)).mp c5
      have c7 : ¬ (B p < 192 ∨ 247 < B p ∨ to - p < q_ul (B p)) := by omega
      have hu0 : B p - q_uo (q_ul (B p)) < 64 ^ 1 := by
        unfold q_uo q_ul
        by_cases t1 : B p < 224
        · rw [if_pos t1, if_pos rfl]
          omega
        · rw [if_neg t1]
          by_cases t2 : B p < 240
          · rw [if_pos t2, if_neg (by decide), if_pos rfl]
            omega
          · rw [if_neg t2, if_neg (by decide), if_neg (by decide)]
            omega
      refine go_step ?_
      refine go_step ?_
      refine go_step ?_
      refine go_step ?_
      refine go_step ?_
      show mm_Go E d 10 _ _ [.int (nI (B p) &&& (127 >>> (nI (q_ul (B p)) &&& 31)))] h Q
      rw [q_u0 _ (by omega) (by omega)]
      repeat refine go_step ?_
      refine gjp ?_
      exact loop (q_ul (B p) - 1) 1 _ _ rfl c1 c7 (by omega) (by omega) hu0 rfl
    · rw [pk_sub h1] at c5
      have c6 : ¬ q_ul (B p) ≤ to - p := fun q => c5 ((nI_leI (by omega) (by omega)).mpr q)
      repeat refine go_step ?_
      refine gjp ?_
      exact z (by omega)
  repeat refine go_step ?_
  refine g_call (k := 11) rfl hd (Nat.le_of_ble_eq_true rfl) rfl ?_
  refine sp_atN ha (by omega) ?_
  repeat refine go_step ?_
  refine gif (fun c => ?_) (fun c => ?_)
  · have c1 : 128 ≤ B p := (nI_leI (a := 128) (by omega) (by omega)).mp c
    repeat refine go_step ?_
    refine gif (fun c2 => ?_) (fun c2 => ?_)
    · have c3 : 224 ≤ B p := (nI_leI (a := 224) (by omega) (by omega)).mp c2
      repeat refine go_step ?_
      refine gif (fun c4 => ?_) (fun c4 => ?_)
      · have c5 : 240 ≤ B p := (nI_leI (a := 240) (by omega) (by omega)).mp c4
        have e4 : q_ul (B p) = 4 := by unfold q_ul; rw [if_neg (by omega), if_neg (by omega)]
        repeat refine go_step ?_
        refine gjp ?_
        have := four (by omega)
        rw [e4] at this
        exact this
      · have c5 : ¬ 240 ≤ B p := fun q => c4 ((nI_leI (a := 240) (by omega) (by omega)).mpr q)
        have e4 : q_ul (B p) = 3 := by unfold q_ul; rw [if_neg (by omega), if_pos (by omega)]
        repeat refine go_step ?_
        refine gjp ?_
        have := four (by omega)
        rw [e4] at this
        exact this
    · have c3 : ¬ 224 ≤ B p := fun q => c2 ((nI_leI (a := 224) (by omega) (by omega)).mpr q)
      have e4 : q_ul (B p) = 2 := by unfold q_ul; rw [if_pos (by omega)]
      repeat refine go_step ?_
      refine gjp ?_
      have := four (by omega)
      rw [e4] at this
      exact this
  · have c1 : ¬ 128 ≤ B p := fun q => c ((nI_leI (a := 128) (by omega) (by omega)).mpr q)
    have h0 : q_chr B p to = 1 := by unfold q_chr; rw [if_pos (by omega)]
    rw [h0] at hq
    repeat refine go_step ?_
    exact gjp hq
theorem q_chr_le (B : Nat → Nat) (p to : Nat) : q_chr B p to ≤ 4 := by
  unfold q_chr
  have := q_ul_le (B p)
  split
  · omega
  · split
    · omega
    · split
      · omega
      · split <;> omega
theorem q_chr_in {B : Nat → Nat} {p to : Nat} (h : p < to) : p + q_chr B p to ≤ to := by
  unfold q_chr
  split
  · omega
  · split
    · omega
    · rename_i hc
      split
      · omega
      · split <;> omega
theorem sp_utf {E : mmE} {d a n fr to : Nat} {h : mmH} {Q : Option Value → mmH → Prop} {B : Nat → Nat} (hd : 2 ≤ d) (ha : bRow h a n B) (h1 : fr ≤ to) (h2 : to ≤ 2000) (hq : Q (some (.int (q_t (q_utf B to (to - fr) fr)))) h) : mm_Go E d 9 (mm_blk 9 0) [.ref a, .int (nI fr), .int (nI to), mm_un, mm_un, mm_un] [] h Q := by
  have loop : ∀ (k ct p : Nat) (v5 : Value), mm_wide v5 = false → k + ct = to → ct ≤ p → p ≤ to → Q (some (.int (q_t (q_utf B to k p)))) h → mm_Go E d 9 (mm_blk 9 1) [.ref a, .int (nI fr), .int (nI to), .int (nI p), .int (nI ct), v5] [] h Q := by
    intro k
    induction k with
    | zero =>
      intro ct p v5 hv hk hcp hp hq
      repeat refine go_step ?_
      refine gif (fun c => ?_) (fun c => absurd (nI_le (by omega) (by omega)) c)
      repeat refine go_step ?_
      exact gjp hq
    | succ k ih =>
      intro ct p v5 hv hk hcp hp hq
      unfold q_utf at hq
      repeat refine go_step ?_
      refine gif (fun c => absurd c (nI_ge (by omega) (by omega))) (fun c => ?_)
      repeat refine go_step ?_
      refine gif (fun c1 => ?_) (fun c1 => ?_)
      · rw [if_pos ((nI_leI (by omega) (by omega)).mp c1)] at hq
        repeat refine go_step ?_
        exact gjp hq
      · have c2 : ¬ to ≤ p := fun q => c1 ((nI_leI (by omega) (by omega)).mpr q)
        rw [if_neg c2] at hq
        repeat refine go_step ?_
        refine g_call (k := 10) rfl (by omega) (Nat.le_of_ble_eq_true rfl) rfl ?_
        refine sp_chr (by omega) ha (by omega) h2 ?_
        have hle := q_chr_le B p to
        have hin := q_chr_in (B := B) (p := p) (to := to) (by omega)
        repeat refine go_step ?_
        refine gif (fun c3 => ?_) (fun c3 => ?_)
        · have c4 : ¬ q_chr B p to = 0 := fun q => c3 (by rw [q]; rfl)
          rw [if_neg c4] at hq
          repeat refine go_step ?_
          refine gjp ?_
          rw [nI_add, show nI ct + Int32.ofInt 1 = nI (ct + 1) from nI_1 ct]
          exact ih (ct + 1) (p + q_chr B p to) _ rfl (by omega) (by omega) hin hq
        · have c4 : q_chr B p to = 0 := (nI_eq (b := 0) (by omega) (by omega)).mp (Classical.not_not.mp c3)
          rw [if_pos c4] at hq
          repeat refine go_step ?_
          exact gjp hq
  repeat refine go_step ?_
  refine gjp ?_
  exact loop (to - fr) fr fr _ rfl (by omega) (by omega) h1 hq
/-- a path as an index has it -/
def q_path (B : Nat → Nat) (n : Nat) : Bool := q_utf B n n 0 && q_steps B true n 0 true 0
theorem sp_isRight {E : mmE} {d a n : Nat} {h : mmH} {Q : Option Value → mmH → Prop} {B : Nat → Nat} (hd : 3 ≤ d) (ha : bRow h a n B) (hq : Q (some (.int (q_t (q_path B n)))) h) : mm_Go E d 8 (mm_blk 8 0) [.ref a] [] h Q := by
  have hn := ha.1
  unfold q_path at hq
  repeat refine go_step ?_
  refine g_alen (row_len ha) ?_
  repeat refine go_step ?_
  refine g_call (k := 9) rfl (by omega) (Nat.le_of_ble_eq_true rfl) rfl ?_
  refine sp_utf (fr := 0) (to := n) (by omega) ha (by omega) hn ?_
  rw [Nat.sub_zero]
  repeat refine go_step ?_
  refine gif (fun c => ?_) (fun c => ?_)
  · rw [q_t_ne.mp c, Bool.false_and] at hq
    repeat refine go_step ?_
    refine gjp ?_
    repeat refine go_step ?_
    exact gjp hq
  · have c1 : q_utf B n n 0 = true := by
      cases hu : q_utf B n n 0
      · rw [hu] at c; exact absurd rfl c
      · rfl
    rw [c1, Bool.true_and] at hq
    repeat refine go_step ?_
    refine g_alen (row_len ha) ?_
    repeat refine go_step ?_
    refine g_call (k := 12) rfl (by omega) (Nat.le_of_ble_eq_true rfl) rfl ?_
    refine sp_hasRightSteps (fr := 0) (to := n) (dol := true) (by omega) ha (by omega) hn ?_
    rw [Nat.sub_zero]
    repeat refine go_step ?_
    refine gif (fun c2 => ?_) (fun c2 => ?_)
    · rw [q_t_ne.mp c2] at hq
      repeat refine go_step ?_
      refine gjp ?_
      repeat refine go_step ?_
      exact gjp hq
    · have c3 : q_steps B true n 0 true 0 = true := by
        cases hu : q_steps B true n 0 true 0
        · rw [hu] at c2; exact absurd rfl c2
        · rfl
      rw [c3] at hq
      repeat refine go_step ?_
      refine gjp ?_
      repeat refine go_step ?_
      exact gjp hq
end
section
/-! THE REFERENCE: its store of 22100 bytes, read by places -/
def mSt (h : mmH) (o st : Nat) (R : Nat → Nat) : Prop := (∃ fs, h.2.2 o = some (.inr (10, fs)) ∧ fs[1]? = some (.ref st)) ∧ (∃ f, h.2.2 st = some (.inl (0, 22100, .inl f)) ∧ ∀ j, j < 22100 → f j = sb_b (R j)) ∧ ∀ j, R j < 256
theorem mSt_rcv {E : mmE} {h : mmH} {o st : Nat} {R : Nat → Nat} (hm : mSt h o st R) : mm_rcv E h 11 (some (.ref o)) = true := by
  obtain ⟨⟨fs, ho, -⟩, -⟩ := hm
  unfold mm_rcv
  dsimp only
  rw [if_neg (by decide), ho]
  rfl
theorem sb_0 : ∀ c, c < 256 → (sb_b c = 0 ↔ c = 0) := by decide +kernel
theorem sp_mat {E : mmE} {d o st k : Nat} {h : mmH} {R : Nat → Nat} {Q : Option Value → mmH → Prop} (hm : mSt h o st R) (hk : k < 22100) (hq : Q (some (.int (nI (R k)))) h) : mm_Go E d 114 (mm_blk 114 0) [.ref o, .int (nI k)] [] h Q := by
  obtain ⟨⟨fs, ho, hf⟩, ⟨f, hs, hR⟩, hB⟩ := hm
  repeat refine go_step ?_
  refine g_getf (.ref st) ho (by decide) hf ?_
  repeat refine go_step ?_
  refine g_bald (t := 0) (n := 22100) (f := f) (by unfold mm_aI; rw [hs]) (Or.inl rfl) (decide_eq_true (vp_in_nI hk (by decide))) ?_
  refine go_step ?_
  refine go_step ?_
  show mm_Go E d 114 _ _ [.int (f (nI k).toNatClampNeg &&& 255)] h Q
  rw [nI_clamp (by omega), hR k hk, (sb_byte (R k) (hB k)).1]
  refine go_step ?_
  exact gjp hq
/-- four bytes, the lowest first -/
def q_w (R : Nat → Nat) (k : Nat) : Int32 := nI (R k + 256 * R (k + 1) + 65536 * R (k + 2) + 16777216 * R (k + 3))
theorem sp_whole {E : mmE} {d o st k : Nat} {h : mmH} {R : Nat → Nat} {Q : Option Value → mmH → Prop} (hd : 1 ≤ d) (hm : mSt h o st R) (hk : k + 3 < 22100) (hq : Q (some (.int (q_w R k))) h) : mm_Go E d 118 (mm_blk 118 0) [.ref o, .int (nI k)] [] h Q := by
  repeat refine go_step ?_
  refine g_callV (by decide) (by decide) (Nat.le_of_ble_eq_true rfl) (Nat.le_of_ble_eq_true rfl) (mSt_rcv hm) hd (Nat.le_of_ble_eq_true rfl) rfl ?_
  refine sp_mat hm (by omega) ?_
  repeat refine go_step ?_
  refine g_callV (by decide) (by decide) (Nat.le_of_ble_eq_true rfl) (Nat.le_of_ble_eq_true rfl) (mSt_rcv hm) hd (Nat.le_of_ble_eq_true rfl) rfl ?_
  rw [show nI k + Int32.ofInt 1 = nI (k + 1) from nI_add k 1]
  refine sp_mat hm (by omega) ?_
  repeat refine go_step ?_
  refine g_callV (by decide) (by decide) (Nat.le_of_ble_eq_true rfl) (Nat.le_of_ble_eq_true rfl) (mSt_rcv hm) hd (Nat.le_of_ble_eq_true rfl) rfl ?_
  rw [show nI k + Int32.ofInt 2 = nI (k + 2) from nI_add k 2]
  refine sp_mat hm (by omega) ?_
  repeat refine go_step ?_
  refine g_callV (by decide) (by decide) (Nat.le_of_ble_eq_true rfl) (Nat.le_of_ble_eq_true rfl) (mSt_rcv hm) hd (Nat.le_of_ble_eq_true rfl) rfl ?_
  rw [show nI k + Int32.ofInt 3 = nI (k + 3) from nI_add k 3]
  refine sp_mat hm (by omega) ?_
  refine go_step ?_
  refine go_step ?_
  show mm_Go E d 118 _ _ [.int (nI (R k) + nI 256 * nI (R (k + 1)) + nI 65536 * nI (R (k + 2)) + nI 16777216 * nI (R (k + 3)))] h Q
  rw [pk_mul, pk_mul, pk_mul, nI_add, nI_add, nI_add]
  refine go_step ?_
  exact gjp hq
theorem sp_nameEnd {E : mmE} {d o st k e : Nat} {h : mmH} {R : Nat → Nat} {Q : Option Value → mmH → Prop} (hm : mSt h o st R) (hke : k ≤ e) (he : e < 22100) (h0 : R e = 0) (hn : ∀ j, k ≤ j → j < e → R j ≠ 0) (hq : Q (some (.int (nI e))) h) : mm_Go E d 124 (mm_blk 124 0) [.ref o, .int (nI k), mm_un] [] h Q := by
  obtain ⟨⟨fs, ho, hf⟩, ⟨f, hs, hR⟩, hB⟩ := hm
  have loop : ∀ (n j : Nat), n + j = e → k ≤ j → mm_Go E d 124 (mm_blk 124 1) [.ref o, .int (nI k), .int (nI j)] [] h Q := by
    intro n
    induction n with
    | zero =>
      intro j hj hkj
      have hje : j = e := by omega
      subst hje
      repeat refine go_step ?_
      refine g_getf (.ref st) ho (by decide) hf ?_
      repeat refine go_step ?_
      refine g_bald (t := 0) (n := 22100) (f := f) (by unfold mm_aI; rw [hs]) (Or.inl rfl) (decide_eq_true (vp_in_nI (by omega) (by decide))) ?_
      rw [nI_clamp (by omega), hR j (by omega)]
      repeat refine go_step ?_
      refine gif (fun c => ?_) (fun c => absurd ((sb_0 _ (hB j)).mpr h0) c)
      repeat refine go_step ?_
      exact gjp hq
    | succ n ih =>
      intro j hj hkj
      repeat refine go_step ?_
      refine g_getf (.ref st) ho (by decide) hf ?_
      repeat refine go_step ?_
      refine g_bald (t := 0) (n := 22100) (f := f) (by unfold mm_aI; rw [hs]) (Or.inl rfl) (decide_eq_true (vp_in_nI (by omega) (by decide))) ?_
      rw [nI_clamp (by omega), hR j (by omega)]
      repeat refine go_step ?_
      refine gif (fun c => absurd ((sb_0 _ (hB j)).mp c) (hn j hkj (by omega))) (fun c => ?_)
      repeat refine go_step ?_
      refine gjp ?_
      rw [show nI j + Int32.ofInt 1 = nI (j + 1) from nI_1 j]
      exact ih (j + 1) (by omega) (by omega)
  repeat refine go_step ?_
  refine gjp ?_
  exact loop (e - k) k (by omega) (Nat.le_refl _)
theorem sp_valueOf {E : mmE} {d o st p e : Nat} {h : mmH} {R : Nat → Nat} {Q : Option Value → mmH → Prop} (hd : 1 ≤ d) (hm : mSt h o st R) (hke : p + 1 ≤ e) (he : e < 22100) (h0 : R e = 0) (hn : ∀ j, p + 1 ≤ j → j < e → R j ≠ 0) (hq : Q (some (.int (nI (e + 1)))) h) : mm_Go E d 123 (mm_blk 123 0) [.ref o, .int (nI p)] [] h Q := by
  repeat refine go_step ?_
  refine g_callV (by decide) (by decide) (Nat.le_of_ble_eq_true rfl) (Nat.le_of_ble_eq_true rfl) (mSt_rcv hm) hd (Nat.le_of_ble_eq_true rfl) rfl ?_
  rw [show nI p + Int32.ofInt 1 = nI (p + 1) from nI_add p 1]
  refine sp_nameEnd hm hke he h0 hn ?_
  repeat refine go_step ?_
  refine gjp ?_
  rw [← nI_add e 1] at hq
  exact hq
/-- the place behind a value -/
def q_beh (R : Nat → Nat) (kd k : Nat) : Int32 := if kd = 16 then nI (k + 4) else if kd = 18 then nI (k + 8) else if kd = 8 then nI (k + 1) else if kd = 2 then nI (k + 4) + q_w R k else if kd = 3 ∨ kd = 4 then nI k + q_w R k else nI k
theorem sp_behind {E : mmE} {d o st kd k : Nat} {h : mmH} {R : Nat → Nat} {Q : Option Value → mmH → Prop} (hd : 2 ≤ d) (hm : mSt h o st R) (hkd : kd < 256) (hk : k + 8 < 22100) (hq : Q (some (.int (q_beh R kd k))) h) : mm_Go E d 125 (mm_blk 125 0) [.ref o, .int (nI kd), .int (nI k)] [] h Q := by
  unfold q_beh at hq
  repeat refine go_step ?_
  refine gif (fun c => ?_) (fun c => ?_)
  · rw [if_neg (fun q => c (by rw [q]; rfl))] at hq
    repeat refine go_step ?_
    refine gif (fun c2 => ?_) (fun c2 => ?_)
    · rw [if_neg (fun q => c2 (by rw [q]; rfl))] at hq
      repeat refine go_step ?_
      refine gif (fun c3 => ?_) (fun c3 => ?_)
      · rw [if_neg (fun q => c3 (by rw [q]; rfl))] at hq
        repeat refine go_step ?_
        refine gif (fun c4 => ?_) (fun c4 => ?_)
        · rw [if_neg (fun q => c4 (by rw [q]; rfl))] at hq
          have five : (kd = 3 ∨ kd = 4) → mm_Go E d 125 (mm_blk 125 5) [.ref o, .int (nI kd), .int (nI k)] [] h Q := by
            intro q
            rw [if_pos q] at hq
            repeat refine go_step ?_
            refine g_callV (by decide) (by decide) (Nat.le_of_ble_eq_true rfl) (Nat.le_of_ble_eq_true rfl) (mSt_rcv hm) (by omega) (Nat.le_of_ble_eq_true rfl) rfl ?_
            refine sp_whole (by omega) hm (by omega) ?_
            repeat refine go_step ?_
            refine gjp ?_
            repeat refine go_step ?_
            exact gjp hq
          repeat refine go_step ?_
          refine gif (fun c5 => five (Or.inl ((nI_eq (b := 3) (by omega) (by omega)).mp c5))) (fun c5 => ?_)
          repeat refine go_step ?_
          refine gif (fun c6 => ?_) (fun c6 => ?_)
          · rw [if_neg (fun q => by
              rcases q with q | q
              · exact c5 (by rw [q]; rfl)
              · exact c6 (by rw [q]; rfl))] at hq
            repeat refine go_step ?_
            refine gjp ?_
            repeat refine go_step ?_
            exact gjp hq
          · repeat refine go_step ?_
            refine gjp ?_
            exact five (Or.inr ((nI_eq (b := 4) (by omega) (by omega)).mp (Classical.not_not.mp c6)))
        · rw [if_pos ((nI_eq (b := 2) (by omega) (by omega)).mp (Classical.not_not.mp c4))] at hq
          repeat refine go_step ?_
          refine g_callV (by decide) (by decide) (Nat.le_of_ble_eq_true rfl) (Nat.le_of_ble_eq_true rfl) (mSt_rcv hm) (by omega) (Nat.le_of_ble_eq_true rfl) rfl ?_
          refine sp_whole (by omega) hm (by omega) ?_
          refine go_step ?_
          show mm_Go E d 125 _ _ [.int (nI k + nI 4 + q_w R k)] h Q
          rw [nI_add]
          repeat refine go_step ?_
          refine gjp ?_
          repeat refine go_step ?_
          exact gjp hq
      · rw [if_pos ((nI_eq (b := 8) (by omega) (by omega)).mp (Classical.not_not.mp c3))] at hq
        repeat refine go_step ?_
        refine gjp ?_
        repeat refine go_step ?_
        refine gjp ?_
        rw [← nI_add] at hq
        exact hq
    · rw [if_pos ((nI_eq (b := 18) (by omega) (by omega)).mp (Classical.not_not.mp c2))] at hq
      repeat refine go_step ?_
      refine gjp ?_
      repeat refine go_step ?_
      refine gjp ?_
      rw [← nI_add] at hq
      exact hq
  · rw [if_pos ((nI_eq (b := 16) (by omega) (by omega)).mp (Classical.not_not.mp c))] at hq
    repeat refine go_step ?_
    refine gjp ?_
    repeat refine go_step ?_
    refine gjp ?_
    rw [← nI_add] at hq
    exact hq
end
section
/-! THE SMALL MACHINE, an instruction at a time, numbers kept as nI -/
theorem if_cg {c e : Prop} [Decidable c] [Decidable e] {α : Type} {x y : α} (hc : c ↔ e) : (if c then x else y) = if e then x else y := by
  by_cases h : c
  · rw [if_pos h, if_pos (hc.mp h)]
  · rw [if_neg h, if_neg (fun q => h (hc.mpr q))]
section GO
variable {E : mmE} {d m pc idx : Nat} {is : List mmI} {L L' S S' : List Value} {h h' : mmH} {Q : Option Value → mmH → Prop} {ex : List Nat}
theorem go_nx {i : mmI} (hs : mm_step E L S h i.2.1 i.2.2 = mm_nx L' S' h') (hg : mm_Go E d m is L' S' h' Q) : mm_Go E d m (i :: is) L S h Q := go_step (by rw [hs]; exact hg)
theorem go_jp {i : mmI} {b : Nat} (hs : mm_step E L S h i.2.1 i.2.2 = mm_jp b S') (hg : mm_Go E d m (mm_blk m b) L S' h Q) : mm_Go E d m (i :: is) L S h Q := go_step (by rw [hs]; exact fun _ => hg)
theorem go_rt {i : mmI} {v : Option Value} (hs : mm_step E L S h i.2.1 i.2.2 = mm_rt v) (hg : Q v h) : mm_Go E d m (i :: is) L S h Q := go_step (by rw [hs]; exact fun _ => hg)
theorem go_br {i : mmI} {c : Bool} {b : Nat} (hs : mm_step E L S h i.2.1 i.2.2 = mm_br c b S') (h1 : c = true → mm_Go E d m (mm_blk m b) L S' h Q) (h2 : c = false → mm_Go E d m is L S' h Q) : mm_Go E d m (i :: is) L S h Q := go_step (by rw [hs]; exact ⟨h1, h2⟩)
theorem ni_ofInt (k : Nat) : Int32.ofInt (Int.ofNat k) = nI k := Int32.toInt_inj.mp (by
  rw [nI, Int32.toInt_ofInt, Int32.toInt_ofNat']
  rfl)
theorem ni_b8 : ∀ k, k < 128 → (Int8.ofInt (Int.ofNat k)).toInt32 = nI k := by decide +kernel
theorem ni_b16 {k : Nat} (hk : k < 32768) : (Int16.ofInt (Int.ofNat k)).toInt32 = nI k := Int32.toInt_inj.mp (by
  rw [Int16.toInt_toInt32, nI_toInt (by omega), Int16.toInt_ofInt_of_le (by show -32768 ≤ (k : Int); omega) (by show (k : Int) < 32768; omega)]
  rfl)
theorem gi_con {k : Nat} (hg : mm_Go E d m is L (.int (nI (@OfNat.ofNat Nat k (instOfNatNat k))) :: S) h Q) : mm_Go E d m ((pc, .iconst (Int.ofNat k), ex) :: is) L S h Q := go_nx (by
  show mm_nx L (.int (Int32.ofInt (Int.ofNat k)) :: S) h = _
  rw [ni_ofInt]
  rfl) hg
theorem gi_bip {k : Nat} (hk : k < 128) (hg : mm_Go E d m is L (.int (nI (@OfNat.ofNat Nat k (instOfNatNat k))) :: S) h Q) : mm_Go E d m ((pc, .bipush (Int.ofNat k), ex) :: is) L S h Q := go_nx (by
  show mm_nx L (.int (Int8.ofInt (Int.ofNat k)).toInt32 :: S) h = _
  rw [ni_b8 k hk]
  rfl) hg
theorem gi_sip {k : Nat} (hk : k < 32768) (hg : mm_Go E d m is L (.int (nI (@OfNat.ofNat Nat k (instOfNatNat k))) :: S) h Q) : mm_Go E d m ((pc, .sipush (Int.ofNat k), ex) :: is) L S h Q := go_nx (by
  show mm_nx L (.int (Int16.ofInt (Int.ofNat k)).toInt32 :: S) h = _
  rw [ni_b16 hk]
  rfl) hg
theorem gi_ldc {k j : Nat} (hg : mm_Go E d m is L (.int (nI k) :: S) h Q) : mm_Go E d m ((pc, .ldc idx, [0, k, j]) :: is) L S h Q := go_nx rfl hg
theorem gi_add {x y : Nat} (hg : mm_Go E d m is L (.int (nI (x + y)) :: S) h Q) : mm_Go E d m ((pc, .iadd, ex) :: is) L (.int (nI y) :: .int (nI x) :: S) h Q := go_nx (by
  show mm_nx L (.int (nI x + nI y) :: S) h = _
  rw [nI_add]) hg
theorem gi_mul {x y : Nat} (hg : mm_Go E d m is L (.int (nI (x * y)) :: S) h Q) : mm_Go E d m ((pc, .imul, ex) :: is) L (.int (nI y) :: .int (nI x) :: S) h Q := go_nx (by
  show mm_nx L (.int (nI x * nI y) :: S) h = _
  rw [pk_mul]) hg
theorem gi_sub {x y : Nat} (hxy : y ≤ x) (hg : mm_Go E d m is L (.int (nI (x - y)) :: S) h Q) : mm_Go E d m ((pc, .isub, ex) :: is) L (.int (nI y) :: .int (nI x) :: S) h Q := go_nx (by
  show mm_nx L (.int (nI x - nI y) :: S) h = _
  rw [pk_sub hxy]) hg
theorem gi_inc {i k x : Nat} (hL : L[i]? = some (.int (nI x))) (hg : mm_Go E d m is (mm_st1 L i (.int (nI (x + @OfNat.ofNat Nat k (instOfNatNat k))))) S h Q) : mm_Go E d m ((pc, .iinc i (Int.ofNat k), ex) :: is) L S h Q := go_nx (by
  show (match L[i]? with
    | some (.int x) => mm_nx (mm_st1 L i (.int (x + Int32.ofInt (Int.ofNat k)))) S h
    | _ => mm_bad) = _
  rw [hL, ni_ofInt, ← nI_add]
  rfl) hg
section BR
variable {x y : Nat} {off : Int}
theorem gb_lt (hx : x < 2 ^ 31) (hy : y < 2 ^ 31) (h1 : x < y → mm_Go E d m (mm_blk m (mm_k0 ex)) L S h Q) (h2 : y ≤ x → mm_Go E d m is L S h Q) : mm_Go E d m ((pc, .if_icmp .lt off, ex) :: is) L (.int (nI y) :: .int (nI x) :: S) h Q :=
  go_br (c := decide (nI x < nI y)) rfl (fun c => h1 ((nI_ltI hx hy).mp (of_decide_eq_true c))) (fun c => h2 (Nat.not_lt.mp (fun q => of_decide_eq_false c ((nI_ltI hx hy).mpr q))))
theorem gb_ge (hx : x < 2 ^ 31) (hy : y < 2 ^ 31) (h1 : y ≤ x → mm_Go E d m (mm_blk m (mm_k0 ex)) L S h Q) (h2 : x < y → mm_Go E d m is L S h Q) : mm_Go E d m ((pc, .if_icmp .ge off, ex) :: is) L (.int (nI y) :: .int (nI x) :: S) h Q :=
  go_br (c := decide (nI y ≤ nI x)) rfl (fun c => h1 ((nI_leI hy hx).mp (of_decide_eq_true c))) (fun c => h2 (Nat.not_le.mp (fun q => of_decide_eq_false c ((nI_leI hy hx).mpr q))))
theorem gb_gt (hx : x < 2 ^ 31) (hy : y < 2 ^ 31) (h1 : y < x → mm_Go E d m (mm_blk m (mm_k0 ex)) L S h Q) (h2 : x ≤ y → mm_Go E d m is L S h Q) : mm_Go E d m ((pc, .if_icmp .gt off, ex) :: is) L (.int (nI y) :: .int (nI x) :: S) h Q :=
  go_br (c := decide (nI y < nI x)) rfl (fun c => h1 ((nI_ltI hy hx).mp (of_decide_eq_true c))) (fun c => h2 (Nat.not_lt.mp (fun q => of_decide_eq_false c ((nI_ltI hy hx).mpr q))))
theorem gb_le (hx : x < 2 ^ 31) (hy : y < 2 ^ 31) (h1 : x ≤ y → mm_Go E d m (mm_blk m (mm_k0 ex)) L S h Q) (h2 : y < x → mm_Go E d m is L S h Q) : mm_Go E d m ((pc, .if_icmp .le off, ex) :: is) L (.int (nI y) :: .int (nI x) :: S) h Q :=
  go_br (c := decide (nI x ≤ nI y)) rfl (fun c => h1 ((nI_leI hx hy).mp (of_decide_eq_true c))) (fun c => h2 (Nat.not_le.mp (fun q => of_decide_eq_false c ((nI_leI hx hy).mpr q))))
theorem gb_eq (hx : x < 2 ^ 31) (hy : y < 2 ^ 31) (h1 : x = y → mm_Go E d m (mm_blk m (mm_k0 ex)) L S h Q) (h2 : x ≠ y → mm_Go E d m is L S h Q) : mm_Go E d m ((pc, .if_icmp .eq off, ex) :: is) L (.int (nI y) :: .int (nI x) :: S) h Q :=
  go_br (c := decide (nI x = nI y)) rfl (fun c => h1 ((nI_eq hx hy).mp (of_decide_eq_true c))) (fun c => h2 (fun q => of_decide_eq_false c ((nI_eq hx hy).mpr q)))
theorem gb_ne (hx : x < 2 ^ 31) (hy : y < 2 ^ 31) (h1 : x ≠ y → mm_Go E d m (mm_blk m (mm_k0 ex)) L S h Q) (h2 : x = y → mm_Go E d m is L S h Q) : mm_Go E d m ((pc, .if_icmp .ne off, ex) :: is) L (.int (nI y) :: .int (nI x) :: S) h Q :=
  go_br (c := decide (¬ nI x = nI y)) rfl (fun c => h1 (fun q => of_decide_eq_true c ((nI_eq hx hy).mpr q))) (fun c => h2 ((nI_eq hx hy).mp (Classical.not_not.mp (of_decide_eq_false c))))
theorem gz_eq (hx : x < 2 ^ 31) (h1 : x = 0 → mm_Go E d m (mm_blk m (mm_k0 ex)) L S h Q) (h2 : 0 < x → mm_Go E d m is L S h Q) : mm_Go E d m ((pc, .ifCond .eq off, ex) :: is) L (.int (nI x) :: S) h Q :=
  go_br (c := decide (nI x = nI 0)) rfl (fun c => h1 ((nI_eq hx (by omega)).mp (of_decide_eq_true c))) (fun c => h2 (Nat.pos_of_ne_zero (fun q => of_decide_eq_false c ((nI_eq hx (by omega)).mpr q))))
theorem gz_ne (hx : x < 2 ^ 31) (h1 : 0 < x → mm_Go E d m (mm_blk m (mm_k0 ex)) L S h Q) (h2 : x = 0 → mm_Go E d m is L S h Q) : mm_Go E d m ((pc, .ifCond .ne off, ex) :: is) L (.int (nI x) :: S) h Q :=
  go_br (c := decide (¬ nI x = nI 0)) rfl (fun c => h1 (Nat.pos_of_ne_zero (fun q => of_decide_eq_true c ((nI_eq hx (by omega)).mpr q)))) (fun c => h2 ((nI_eq hx (by omega)).mp (Classical.not_not.mp (of_decide_eq_false c))))
theorem gz_le (hx : x < 2 ^ 31) (h1 : x = 0 → mm_Go E d m (mm_blk m (mm_k0 ex)) L S h Q) (h2 : 0 < x → mm_Go E d m is L S h Q) : mm_Go E d m ((pc, .ifCond .le off, ex) :: is) L (.int (nI x) :: S) h Q :=
  go_br (c := decide (nI x ≤ nI 0)) rfl (fun c => h1 (Nat.le_zero.mp ((nI_leI hx (by omega)).mp (of_decide_eq_true c)))) (fun c => h2 (Nat.pos_of_ne_zero (fun q => of_decide_eq_false c ((nI_leI hx (by omega)).mpr (by omega)))))
theorem gz_gt (hx : x < 2 ^ 31) (h1 : 0 < x → mm_Go E d m (mm_blk m (mm_k0 ex)) L S h Q) (h2 : x = 0 → mm_Go E d m is L S h Q) : mm_Go E d m ((pc, .ifCond .gt off, ex) :: is) L (.int (nI x) :: S) h Q :=
  go_br (c := decide (nI 0 < nI x)) rfl (fun c => h1 ((nI_ltI (by omega) hx).mp (of_decide_eq_true c))) (fun c => h2 (Nat.le_zero.mp (Nat.not_lt.mp (fun q => of_decide_eq_false c ((nI_ltI (by omega) hx).mpr q)))))
theorem gz_lt (hx : x < 2 ^ 31) (h1 : False → mm_Go E d m (mm_blk m (mm_k0 ex)) L S h Q) (h2 : True → mm_Go E d m is L S h Q) : mm_Go E d m ((pc, .ifCond .lt off, ex) :: is) L (.int (nI x) :: S) h Q :=
  go_br (c := decide (nI x < nI 0)) rfl (fun c => h1 (absurd ((nI_ltI hx (by omega)).mp (of_decide_eq_true c)) (by omega))) (fun _ => h2 trivial)
theorem gz_ge (hx : x < 2 ^ 31) (h1 : True → mm_Go E d m (mm_blk m (mm_k0 ex)) L S h Q) (h2 : False → mm_Go E d m is L S h Q) : mm_Go E d m ((pc, .ifCond .ge off, ex) :: is) L (.int (nI x) :: S) h Q :=
  go_br (c := decide (nI 0 ≤ nI x)) rfl (fun _ => h1 trivial) (fun c => h2 (of_decide_eq_false c ((nI_leI (by omega) hx).mpr (by omega))))
theorem gt_eq {b : Bool} (h1 : b = false → mm_Go E d m (mm_blk m (mm_k0 ex)) L S h Q) (h2 : b = true → mm_Go E d m is L S h Q) : mm_Go E d m ((pc, .ifCond .eq off, ex) :: is) L (.int (q_t b) :: S) h Q :=
  go_br (c := decide (q_t b = 0)) rfl (fun c => h1 (q_t_ne.mp (of_decide_eq_true c))) (fun c => h2 (by
    cases b with
    | false => exact absurd rfl (of_decide_eq_false c)
    | true => rfl))
theorem gt_ne {b : Bool} (h1 : b = true → mm_Go E d m (mm_blk m (mm_k0 ex)) L S h Q) (h2 : b = false → mm_Go E d m is L S h Q) : mm_Go E d m ((pc, .ifCond .ne off, ex) :: is) L (.int (q_t b) :: S) h Q :=
  go_br (c := decide (¬ q_t b = 0)) rfl (fun c => h1 (by
    cases b with
    | false => exact absurd rfl (of_decide_eq_true c)
    | true => rfl)) (fun c => h2 (q_t_ne.mp (Classical.not_not.mp (of_decide_eq_false c))))
/-- bytes with sign -/
theorem gs_eq (hx : x < 256) (h1 : x = 0 → mm_Go E d m (mm_blk m (mm_k0 ex)) L S h Q) (h2 : x ≠ 0 → mm_Go E d m is L S h Q) : mm_Go E d m ((pc, .ifCond .eq off, ex) :: is) L (.int (sb_b x) :: S) h Q :=
  go_br (c := decide (sb_b x = 0)) rfl (fun c => h1 ((sb_0 x hx).mp (of_decide_eq_true c))) (fun c => h2 (fun q => of_decide_eq_false c ((sb_0 x hx).mpr q)))
theorem gs_ne (hx : x < 256) (h1 : x ≠ 0 → mm_Go E d m (mm_blk m (mm_k0 ex)) L S h Q) (h2 : x = 0 → mm_Go E d m is L S h Q) : mm_Go E d m ((pc, .ifCond .ne off, ex) :: is) L (.int (sb_b x) :: S) h Q :=
  go_br (c := decide (¬ sb_b x = 0)) rfl (fun c => h1 (fun q => of_decide_eq_true c ((sb_0 x hx).mpr q))) (fun c => h2 ((sb_0 x hx).mp (Classical.not_not.mp (of_decide_eq_false c))))
theorem sb_inj {x y : Nat} (hx : x < 256) (hy : y < 256) : sb_b x = sb_b y ↔ x = y := ⟨fun q => by
  have := (sb_byte x hx).1
  rw [q, (sb_byte y hy).1] at this
  exact ((nI_eq (by omega) (by omega)).mp this).symm, fun q => by rw [q]⟩
theorem gs_bne (hx : x < 256) (hy : y < 256) (h1 : x ≠ y → mm_Go E d m (mm_blk m (mm_k0 ex)) L S h Q) (h2 : x = y → mm_Go E d m is L S h Q) : mm_Go E d m ((pc, .if_icmp .ne off, ex) :: is) L (.int (sb_b y) :: .int (sb_b x) :: S) h Q :=
  go_br (c := decide (¬ sb_b x = sb_b y)) rfl (fun c => h1 (fun q => of_decide_eq_true c ((sb_inj hx hy).mpr q))) (fun c => h2 ((sb_inj hx hy).mp (Classical.not_not.mp (of_decide_eq_false c))))
theorem gs_beq (hx : x < 256) (hy : y < 256) (h1 : x = y → mm_Go E d m (mm_blk m (mm_k0 ex)) L S h Q) (h2 : x ≠ y → mm_Go E d m is L S h Q) : mm_Go E d m ((pc, .if_icmp .eq off, ex) :: is) L (.int (sb_b y) :: .int (sb_b x) :: S) h Q :=
  go_br (c := decide (sb_b x = sb_b y)) rfl (fun c => h1 ((sb_inj hx hy).mp (of_decide_eq_true c))) (fun c => h2 (fun q => of_decide_eq_false c ((sb_inj hx hy).mpr q)))
end BR
/-- a field -/
theorem gf_get {a : Nat} {fs : List Value} (v : Value) (ha : h.2.2 a = some (.inr (mm_k0 ex, fs))) (h99 : mm_k0 ex ≠ 99) (hv : fs[mm_k1 ex]? = some v) (hg : mm_Go E d m is L (v :: S) h Q) : mm_Go E d m ((pc, .getfield idx, ex) :: is) L (.ref a :: S) h Q := go_step (g_getf v ha h99 hv hg)
/-- the reference's store -/
theorem gm_ld {o st k : Nat} {R : Nat → Nat} (hm : mSt h o st R) (hk : k < 22100) (hg : mm_Go E d m is L (.int (sb_b (R k)) :: S) h Q) : mm_Go E d m ((pc, .baload, ex) :: is) L (.int (nI k) :: .ref st :: S) h Q := by
  obtain ⟨-, ⟨f, hs, hR⟩, -⟩ := hm
  refine go_step (g_bald (t := 0) (n := 22100) (f := f) (by unfold mm_aI; rw [hs]) (Or.inl rfl) (decide_eq_true (vp_in_nI hk (by decide))) ?_)
  rw [nI_clamp (by omega), hR k hk]
  exact hg
theorem gm_gs {o st : Nat} {R : Nat → Nat} (hm : mSt h o st R) (he : ex.take 2 = [10, 1]) (hg : mm_Go E d m is L (.ref st :: S) h Q) : mm_Go E d m ((pc, .getfield idx, ex) :: is) L (.ref o :: S) h Q := by
  obtain ⟨⟨fs, ho, hf⟩, -⟩ := hm
  have h0 : mm_k0 ex = 10 := by
    match ex, he with
    | _ :: _ :: _, he => exact (List.cons.inj he).1
  have h1 : mm_k1 ex = 1 := by
    match ex, he with
    | _ :: _ :: _, he => exact (List.cons.inj (List.cons.inj he).2).1
  exact go_step (g_getf (.ref st) (by rw [h0]; exact ho) (by rw [h0]; decide) (by rw [h1]; exact hf) hg)
end GO
end
section
/-! THE REFERENCE: characters, texts, paths -/
theorem sp_mchr {E : mmE} {d : Nat} {h : mmH} {Q : Option Value → mmH → Prop} {o st b p e : Nat} {R B : Nat → Nat} (hd : 1 ≤ d) (hm : mSt h o st R) (hw : ∀ j, j < e → R (b + j) = B j) (hp : p < e) (he : b + e ≤ 22100) (hB : ∀ j, B j < 256) (hq : Q (some (.int (nI (q_chr B p e)))) h) : mm_Go E d 113 (mm_blk 113 0) [.ref o, .int (nI (b + p)), .int (nI (b + e)), mm_un, mm_un, mm_un, mm_un, mm_un] [] h Q := by
  have hBp := hB p
  have z7 : q_chr B p e = 0 → ∀ L, mm_Go E d 113 (mm_blk 113 7) L [] h Q := by
    intro q L
    rw [q] at hq
    repeat (first | refine gi_con ?_ | refine gi_bip (Nat.le_of_ble_eq_true rfl) ?_ | refine gi_sip (Nat.le_of_ble_eq_true rfl) ?_ | refine gi_ldc ?_ | refine gi_add ?_ | refine gi_inc rfl ?_ | refine gi_sub (by omega) ?_ | refine gi_mul ?_ | refine go_nx rfl ?_)
    refine go_rt rfl ?_
    exact hq
  have z13 : q_chr B p e = 0 → ∀ L, mm_Go E d 113 (mm_blk 113 13) L [] h Q := by
    intro q L
    rw [q] at hq
    repeat (first | refine gi_con ?_ | refine gi_bip (Nat.le_of_ble_eq_true rfl) ?_ | refine gi_sip (Nat.le_of_ble_eq_true rfl) ?_ | refine gi_ldc ?_ | refine gi_add ?_ | refine gi_inc rfl ?_ | refine gi_sub (by omega) ?_ | refine gi_mul ?_ | refine go_nx rfl ?_)
    refine go_rt rfl ?_
    exact hq
  have z23 : q_chr B p e = 0 → ∀ L, mm_Go E d 113 (mm_blk 113 23) L [] h Q := by
    intro q L
    rw [q] at hq
    repeat (first | refine gi_con ?_ | refine gi_bip (Nat.le_of_ble_eq_true rfl) ?_ | refine gi_sip (Nat.le_of_ble_eq_true rfl) ?_ | refine gi_ldc ?_ | refine gi_add ?_ | refine gi_inc rfl ?_ | refine gi_sub (by omega) ?_ | refine gi_mul ?_ | refine go_nx rfl ?_)
    refine go_jp rfl ?_
    refine go_rt rfl ?_
    exact hq
  have z22 : ∀ (n : Nat) (x0 x1 x2 x3 x5 x6 x7 : Value), q_chr B p e = n → mm_Go E d 113 (mm_blk 113 22) [x0, x1, x2, x3, .int (nI n), x5, x6, x7] [] h Q := by
    intro n x0 x1 x2 x3 x5 x6 x7 q
    rw [q] at hq
    repeat (first | refine gi_con ?_ | refine gi_bip (Nat.le_of_ble_eq_true rfl) ?_ | refine gi_sip (Nat.le_of_ble_eq_true rfl) ?_ | refine gi_ldc ?_ | refine gi_add ?_ | refine gi_inc rfl ?_ | refine gi_sub (by omega) ?_ | refine gi_mul ?_ | refine go_nx rfl ?_)
    refine go_jp rfl ?_
    refine go_rt rfl ?_
    exact hq
  have fin : ∀ (n v : Nat) (x7 : Value) (x6 : Value) (s : Bool), v < 2 ^ 30 → (q_chr B p e = if s = false ∨ 1114111 < v ∨ (55296 ≤ v ∧ v ≤ 57343) then 0 else n) → mm_Go E d 113 (mm_blk 113 21) [.ref o, .int (nI (b + p)), .int (nI (b + e)), .int (nI (B p)), .int (nI n), .int (nI v), x6, x7] [.int (q_t s)] h Q := by
    intro n v x7 x6 s hv hr
    repeat (first | refine gi_con ?_ | refine gi_bip (Nat.le_of_ble_eq_true rfl) ?_ | refine gi_sip (Nat.le_of_ble_eq_true rfl) ?_ | refine gi_ldc ?_ | refine gi_add ?_ | refine gi_inc rfl ?_ | refine gi_sub (by omega) ?_ | refine gi_mul ?_ | refine go_nx rfl ?_)
    first | refine gt_eq (fun c => ?_) (fun c => ?_) | refine gt_ne (fun c => ?_) (fun c => ?_)
    · exact z23 (by rw [hr, if_pos (Or.inl c)]) _
    repeat (first | refine gi_con ?_ | refine gi_bip (Nat.le_of_ble_eq_true rfl) ?_ | refine gi_sip (Nat.le_of_ble_eq_true rfl) ?_ | refine gi_ldc ?_ | refine gi_add ?_ | refine gi_inc rfl ?_ | refine gi_sub (by omega) ?_ | refine gi_mul ?_ | refine go_nx rfl ?_)
    first | refine gb_lt (by omega) (by omega) (fun c2 => ?_) (fun c2 => ?_) | refine gb_ge (by omega) (by omega) (fun c2 => ?_) (fun c2 => ?_) | refine gb_gt (by omega) (by omega) (fun c2 => ?_) (fun c2 => ?_) | refine gb_le (by omega) (by omega) (fun c2 => ?_) (fun c2 => ?_) | refine gb_eq (by omega) (by omega) (fun c2 => ?_) (fun c2 => ?_) | refine gb_ne (by omega) (by omega) (fun c2 => ?_) (fun c2 => ?_)
    · exact z23 (by rw [hr, if_pos (Or.inr (Or.inl (by omega)))]) _
    repeat (first | refine gi_con ?_ | refine gi_bip (Nat.le_of_ble_eq_true rfl) ?_ | refine gi_sip (Nat.le_of_ble_eq_true rfl) ?_ | refine gi_ldc ?_ | refine gi_add ?_ | refine gi_inc rfl ?_ | refine gi_sub (by omega) ?_ | refine gi_mul ?_ | refine go_nx rfl ?_)
    first | refine gb_lt (by omega) (by omega) (fun c3 => ?_) (fun c3 => ?_) | refine gb_ge (by omega) (by omega) (fun c3 => ?_) (fun c3 => ?_) | refine gb_gt (by omega) (by omega) (fun c3 => ?_) (fun c3 => ?_) | refine gb_le (by omega) (by omega) (fun c3 => ?_) (fun c3 => ?_) | refine gb_eq (by omega) (by omega) (fun c3 => ?_) (fun c3 => ?_) | refine gb_ne (by omega) (by omega) (fun c3 => ?_) (fun c3 => ?_)
    · exact z22 _ _ _ _ _ _ _ _ (by rw [hr, if_neg (by rw [c]; intro q; rcases q with q | q | q <;> first | omega | cases q)])
    repeat (first | refine gi_con ?_ | refine gi_bip (Nat.le_of_ble_eq_true rfl) ?_ | refine gi_sip (Nat.le_of_ble_eq_true rfl) ?_ | refine gi_ldc ?_ | refine gi_add ?_ | refine gi_inc rfl ?_ | refine gi_sub (by omega) ?_ | refine gi_mul ?_ | refine go_nx rfl ?_)
    first | refine gb_lt (by omega) (by omega) (fun c4 => ?_) (fun c4 => ?_) | refine gb_ge (by omega) (by omega) (fun c4 => ?_) (fun c4 => ?_) | refine gb_gt (by omega) (by omega) (fun c4 => ?_) (fun c4 => ?_) | refine gb_le (by omega) (by omega) (fun c4 => ?_) (fun c4 => ?_) | refine gb_eq (by omega) (by omega) (fun c4 => ?_) (fun c4 => ?_) | refine gb_ne (by omega) (by omega) (fun c4 => ?_) (fun c4 => ?_)
    · exact z23 (by rw [hr, if_pos (Or.inr (Or.inr ⟨c3, c4⟩))]) _
    refine go_jp rfl ?_
    exact z22 _ _ _ _ _ _ _ _ (by rw [hr, if_neg (by rw [c]; intro q; rcases q with q | q | q <;> first | omega | cases q)])
  have loop : ∀ (k n i v : Nat) (x7 : Value), n = q_ul (B p) → k + i = n → 1 ≤ i → v < 2 ^ (5 + 6 * i) → p + n ≤ e → (q_chr B p e = match q_uc B p k i v with
      | none => 0
      | some v => if v < q_ub n ∨ 1114111 < v ∨ (55296 ≤ v ∧ v ≤ 57343) then 0 else n) → mm_Go E d 113 (mm_blk 113 12) [.ref o, .int (nI (b + p)), .int (nI (b + e)), .int (nI (B p)), .int (nI n), .int (nI v), .int (nI i), x7] [] h Q := by
    intro k
    induction k with
    | zero =>
      intro n i v x7 hn hk hi hv hpe hr
      have hul := q_ul_le (B p)
      have hv30 : v < 2 ^ 30 := Nat.lt_of_lt_of_le hv (Nat.pow_le_pow_right (by omega) (by omega))
      have hr : q_chr B p e = if v < q_ub n ∨ 1114111 < v ∨ (55296 ≤ v ∧ v ≤ 57343) then 0 else n := hr
      unfold q_ub at hr
      repeat (first | refine gi_con ?_ | refine gi_bip (Nat.le_of_ble_eq_true rfl) ?_ | refine gi_sip (Nat.le_of_ble_eq_true rfl) ?_ | refine gi_ldc ?_ | refine gi_add ?_ | refine gi_inc rfl ?_ | refine gi_sub (by omega) ?_ | refine gi_mul ?_ | refine go_nx rfl ?_)
      first | refine gb_lt (by omega) (by omega) (fun c => ?_) (fun c => ?_) | refine gb_ge (by omega) (by omega) (fun c => ?_) (fun c => ?_) | refine gb_gt (by omega) (by omega) (fun c => ?_) (fun c => ?_) | refine gb_le (by omega) (by omega) (fun c => ?_) (fun c => ?_) | refine gb_eq (by omega) (by omega) (fun c => ?_) (fun c => ?_) | refine gb_ne (by omega) (by omega) (fun c => ?_) (fun c => ?_)
      · repeat (first | refine gi_con ?_ | refine gi_bip (Nat.le_of_ble_eq_true rfl) ?_ | refine gi_sip (Nat.le_of_ble_eq_true rfl) ?_ | refine gi_ldc ?_ | refine gi_add ?_ | refine gi_inc rfl ?_ | refine gi_sub (by omega) ?_ | refine gi_mul ?_ | refine go_nx rfl ?_)
        first | refine gb_lt (by omega) (by omega) (fun c2 => ?_) (fun c2 => ?_) | refine gb_ge (by omega) (by omega) (fun c2 => ?_) (fun c2 => ?_) | refine gb_gt (by omega) (by omega) (fun c2 => ?_) (fun c2 => ?_) | refine gb_le (by omega) (by omega) (fun c2 => ?_) (fun c2 => ?_) | refine gb_eq (by omega) (by omega) (fun c2 => ?_) (fun c2 => ?_) | refine gb_ne (by omega) (by omega) (fun c2 => ?_) (fun c2 => ?_)
        · rw [if_neg c2] at hr
          repeat (first | refine gi_con ?_ | refine gi_bip (Nat.le_of_ble_eq_true rfl) ?_ | refine gi_sip (Nat.le_of_ble_eq_true rfl) ?_ | refine gi_ldc ?_ | refine gi_add ?_ | refine gi_inc rfl ?_ | refine gi_sub (by omega) ?_ | refine gi_mul ?_ | refine go_nx rfl ?_)
          first | refine gb_lt (by omega) (by omega) (fun c3 => ?_) (fun c3 => ?_) | refine gb_ge (by omega) (by omega) (fun c3 => ?_) (fun c3 => ?_) | refine gb_gt (by omega) (by omega) (fun c3 => ?_) (fun c3 => ?_) | refine gb_le (by omega) (by omega) (fun c3 => ?_) (fun c3 => ?_) | refine gb_eq (by omega) (by omega) (fun c3 => ?_) (fun c3 => ?_) | refine gb_ne (by omega) (by omega) (fun c3 => ?_) (fun c3 => ?_)
          · rw [if_neg c3] at hr
            repeat (first | refine gi_con ?_ | refine gi_bip (Nat.le_of_ble_eq_true rfl) ?_ | refine gi_sip (Nat.le_of_ble_eq_true rfl) ?_ | refine gi_ldc ?_ | refine gi_add ?_ | refine gi_inc rfl ?_ | refine gi_sub (by omega) ?_ | refine gi_mul ?_ | refine go_nx rfl ?_)
            first | refine gb_lt (by omega) (by omega) (fun c4 => ?_) (fun c4 => ?_) | refine gb_ge (by omega) (by omega) (fun c4 => ?_) (fun c4 => ?_) | refine gb_gt (by omega) (by omega) (fun c4 => ?_) (fun c4 => ?_) | refine gb_le (by omega) (by omega) (fun c4 => ?_) (fun c4 => ?_) | refine gb_eq (by omega) (by omega) (fun c4 => ?_) (fun c4 => ?_) | refine gb_ne (by omega) (by omega) (fun c4 => ?_) (fun c4 => ?_)
            · repeat (first | refine gi_con ?_ | refine gi_bip (Nat.le_of_ble_eq_true rfl) ?_ | refine gi_sip (Nat.le_of_ble_eq_true rfl) ?_ | refine gi_ldc ?_ | refine gi_add ?_ | refine gi_inc rfl ?_ | refine gi_sub (by omega) ?_ | refine gi_mul ?_ | refine go_nx rfl ?_)
              refine go_jp rfl ?_
              refine fin n v _ _ false hv30 ?_
              rw [hr, if_pos (Or.inl (by omega)), if_pos (Or.inl rfl)]
            · repeat (first | refine gi_con ?_ | refine gi_bip (Nat.le_of_ble_eq_true rfl) ?_ | refine gi_sip (Nat.le_of_ble_eq_true rfl) ?_ | refine gi_ldc ?_ | refine gi_add ?_ | refine gi_inc rfl ?_ | refine gi_sub (by omega) ?_ | refine gi_mul ?_ | refine go_nx rfl ?_)
              refine go_jp rfl ?_
              refine fin n v _ _ true hv30 ?_
              rw [hr]
              exact if_cg ⟨fun q => Or.inr (q.resolve_left (by omega)), fun q => Or.inr (q.resolve_left (by decide))⟩
          · rw [if_pos c3] at hr
            repeat (first | refine gi_con ?_ | refine gi_bip (Nat.le_of_ble_eq_true rfl) ?_ | refine gi_sip (Nat.le_of_ble_eq_true rfl) ?_ | refine gi_ldc ?_ | refine gi_add ?_ | refine gi_inc rfl ?_ | refine gi_sub (by omega) ?_ | refine gi_mul ?_ | refine go_nx rfl ?_)
            first | refine gb_lt (by omega) (by omega) (fun c4 => ?_) (fun c4 => ?_) | refine gb_ge (by omega) (by omega) (fun c4 => ?_) (fun c4 => ?_) | refine gb_gt (by omega) (by omega) (fun c4 => ?_) (fun c4 => ?_) | refine gb_le (by omega) (by omega) (fun c4 => ?_) (fun c4 => ?_) | refine gb_eq (by omega) (by omega) (fun c4 => ?_) (fun c4 => ?_) | refine gb_ne (by omega) (by omega) (fun c4 => ?_) (fun c4 => ?_)
            · repeat (first | refine gi_con ?_ | refine gi_bip (Nat.le_of_ble_eq_true rfl) ?_ | refine gi_sip (Nat.le_of_ble_eq_true rfl) ?_ | refine gi_ldc ?_ | refine gi_add ?_ | refine gi_inc rfl ?_ | refine gi_sub (by omega) ?_ | refine gi_mul ?_ | refine go_nx rfl ?_)
              refine go_jp rfl ?_
              refine fin n v _ _ false hv30 ?_
              rw [hr, if_pos (Or.inl (by omega)), if_pos (Or.inl rfl)]
            · repeat (first | refine gi_con ?_ | refine gi_bip (Nat.le_of_ble_eq_true rfl) ?_ | refine gi_sip (Nat.le_of_ble_eq_true rfl) ?_ | refine gi_ldc ?_ | refine gi_add ?_ | refine gi_inc rfl ?_ | refine gi_sub (by omega) ?_ | refine gi_mul ?_ | refine go_nx rfl ?_)
              refine go_jp rfl ?_
              refine fin n v _ _ true hv30 ?_
              rw [hr]
              exact if_cg ⟨fun q => Or.inr (q.resolve_left (by omega)), fun q => Or.inr (q.resolve_left (by decide))⟩
        · rw [if_pos c2] at hr
          repeat (first | refine gi_con ?_ | refine gi_bip (Nat.le_of_ble_eq_true rfl) ?_ | refine gi_sip (Nat.le_of_ble_eq_true rfl) ?_ | refine gi_ldc ?_ | refine gi_add ?_ | refine gi_inc rfl ?_ | refine gi_sub (by omega) ?_ | refine gi_mul ?_ | refine go_nx rfl ?_)
          first | refine gb_lt (by omega) (by omega) (fun c4 => ?_) (fun c4 => ?_) | refine gb_ge (by omega) (by omega) (fun c4 => ?_) (fun c4 => ?_) | refine gb_gt (by omega) (by omega) (fun c4 => ?_) (fun c4 => ?_) | refine gb_le (by omega) (by omega) (fun c4 => ?_) (fun c4 => ?_) | refine gb_eq (by omega) (by omega) (fun c4 => ?_) (fun c4 => ?_) | refine gb_ne (by omega) (by omega) (fun c4 => ?_) (fun c4 => ?_)
          · repeat (first | refine gi_con ?_ | refine gi_bip (Nat.le_of_ble_eq_true rfl) ?_ | refine gi_sip (Nat.le_of_ble_eq_true rfl) ?_ | refine gi_ldc ?_ | refine gi_add ?_ | refine gi_inc rfl ?_ | refine gi_sub (by omega) ?_ | refine gi_mul ?_ | refine go_nx rfl ?_)
            refine go_jp rfl ?_
            refine fin n v _ _ false hv30 ?_
            rw [hr, if_pos (Or.inl (by omega)), if_pos (Or.inl rfl)]
          · repeat (first | refine gi_con ?_ | refine gi_bip (Nat.le_of_ble_eq_true rfl) ?_ | refine gi_sip (Nat.le_of_ble_eq_true rfl) ?_ | refine gi_ldc ?_ | refine gi_add ?_ | refine gi_inc rfl ?_ | refine gi_sub (by omega) ?_ | refine gi_mul ?_ | refine go_nx rfl ?_)
            refine go_jp rfl ?_
            refine fin n v _ _ true hv30 ?_
            rw [hr]
            exact if_cg ⟨fun q => Or.inr (q.resolve_left (by omega)), fun q => Or.inr (q.resolve_left (by decide))⟩
      · omega
    | succ k ih =>
      intro n i v x7 hn hk hi hv hpe hr
      have hul := q_ul_le (B p)
      have hv30 : v < 2 ^ 23 := Nat.lt_of_lt_of_le hv (Nat.pow_le_pow_right (by omega) (by omega))
      have hBi := hB (p + i)
      unfold q_uc at hr
      repeat (first | refine gi_con ?_ | refine gi_bip (Nat.le_of_ble_eq_true rfl) ?_ | refine gi_sip (Nat.le_of_ble_eq_true rfl) ?_ | refine gi_ldc ?_ | refine gi_add ?_ | refine gi_inc rfl ?_ | refine gi_sub (by omega) ?_ | refine gi_mul ?_ | refine go_nx rfl ?_)
      first | refine gb_lt (by omega) (by omega) (fun c => ?_) (fun c => ?_) | refine gb_ge (by omega) (by omega) (fun c => ?_) (fun c => ?_) | refine gb_gt (by omega) (by omega) (fun c => ?_) (fun c => ?_) | refine gb_le (by omega) (by omega) (fun c => ?_) (fun c => ?_) | refine gb_eq (by omega) (by omega) (fun c => ?_) (fun c => ?_) | refine gb_ne (by omega) (by omega) (fun c => ?_) (fun c => ?_)
      · omega
      repeat (first | refine gi_con ?_ | refine gi_bip (Nat.le_of_ble_eq_true rfl) ?_ | refine gi_sip (Nat.le_of_ble_eq_true rfl) ?_ | refine gi_ldc ?_ | refine gi_add ?_ | refine gi_inc rfl ?_ | refine gi_sub (by omega) ?_ | refine gi_mul ?_ | refine go_nx rfl ?_)
      refine go_step ?_
      refine g_callV (by decide) (by decide) (Nat.le_of_ble_eq_true rfl) (Nat.le_of_ble_eq_true rfl) (mSt_rcv hm) (by omega) (Nat.le_of_ble_eq_true rfl) rfl ?_
      rw [Nat.add_assoc]
      refine sp_mat hm (by omega) ?_
      rw [hw (p + i) (by omega)]
      repeat (first | refine gi_con ?_ | refine gi_bip (Nat.le_of_ble_eq_true rfl) ?_ | refine gi_sip (Nat.le_of_ble_eq_true rfl) ?_ | refine gi_ldc ?_ | refine gi_add ?_ | refine gi_inc rfl ?_ | refine gi_sub (by omega) ?_ | refine gi_mul ?_ | refine go_nx rfl ?_)
      first | refine gb_lt (by omega) (by omega) (fun c2 => ?_) (fun c2 => ?_) | refine gb_ge (by omega) (by omega) (fun c2 => ?_) (fun c2 => ?_) | refine gb_gt (by omega) (by omega) (fun c2 => ?_) (fun c2 => ?_) | refine gb_le (by omega) (by omega) (fun c2 => ?_) (fun c2 => ?_) | refine gb_eq (by omega) (by omega) (fun c2 => ?_) (fun c2 => ?_) | refine gb_ne (by omega) (by omega) (fun c2 => ?_) (fun c2 => ?_)
      · rw [if_neg (by omega)] at hr
        exact z13 hr _
      repeat (first | refine gi_con ?_ | refine gi_bip (Nat.le_of_ble_eq_true rfl) ?_ | refine gi_sip (Nat.le_of_ble_eq_true rfl) ?_ | refine gi_ldc ?_ | refine gi_add ?_ | refine gi_inc rfl ?_ | refine gi_sub (by omega) ?_ | refine gi_mul ?_ | refine go_nx rfl ?_)
      first | refine gb_lt (by omega) (by omega) (fun c3 => ?_) (fun c3 => ?_) | refine gb_ge (by omega) (by omega) (fun c3 => ?_) (fun c3 => ?_) | refine gb_gt (by omega) (by omega) (fun c3 => ?_) (fun c3 => ?_) | refine gb_le (by omega) (by omega) (fun c3 => ?_) (fun c3 => ?_) | refine gb_eq (by omega) (by omega) (fun c3 => ?_) (fun c3 => ?_) | refine gb_ne (by omega) (by omega) (fun c3 => ?_) (fun c3 => ?_)
      · rw [if_pos (by omega)] at hr
        repeat (first | refine gi_con ?_ | refine gi_bip (Nat.le_of_ble_eq_true rfl) ?_ | refine gi_sip (Nat.le_of_ble_eq_true rfl) ?_ | refine gi_ldc ?_ | refine gi_add ?_ | refine gi_inc rfl ?_ | refine gi_sub (by omega) ?_ | refine gi_mul ?_ | refine go_nx rfl ?_)
        refine go_jp rfl ?_
        rw [show 64 * v + B (p + i) - 128 = 64 * v + (B (p + i) - 128) by omega]
        refine ih n (i + 1) _ _ hn (by omega) (by omega) ?_ hpe hr
        rw [show 5 + 6 * (i + 1) = (5 + 6 * i) + 6 by omega, Nat.pow_add]
        omega
      · rw [if_neg (by omega)] at hr
        refine go_jp rfl ?_
        exact z13 hr _
  have el : ∀ (n v : Nat), n = q_ul (B p) → v < 32 → p + n ≤ e → v = B p - q_uo n → (q_chr B p e = match q_uc B p (n - 1) 1 v with
      | none => 0
      | some v => if v < q_ub n ∨ 1114111 < v ∨ (55296 ≤ v ∧ v ≤ 57343) then 0 else n) → mm_Go E d 113 (mm_blk 113 11) [.ref o, .int (nI (b + p)), .int (nI (b + e)), .int (nI (B p)), .int (nI n), mm_un, mm_un, mm_un] [.int (nI v)] h Q := by
    intro n v hn hv hpe hvv hr
    have hul := q_ul_le (B p)
    repeat (first | refine gi_con ?_ | refine gi_bip (Nat.le_of_ble_eq_true rfl) ?_ | refine gi_sip (Nat.le_of_ble_eq_true rfl) ?_ | refine gi_ldc ?_ | refine gi_add ?_ | refine gi_inc rfl ?_ | refine gi_sub (by omega) ?_ | refine gi_mul ?_ | refine go_nx rfl ?_)
    refine go_jp rfl ?_
    exact loop (n - 1) n 1 v _ hn (by omega) (by omega) (Nat.lt_of_lt_of_le hv (by decide)) hpe hr
  have six : ∀ n, (n = 0 ∧ q_chr B p e = 0) ∨ (n = q_ul (B p) ∧ 192 ≤ B p ∧ B p < 248) → mm_Go E d 113 (mm_blk 113 6) [.ref o, .int (nI (b + p)), .int (nI (b + e)), .int (nI (B p)), mm_un, mm_un, mm_un, mm_un] [.int (nI n)] h Q := by
    intro n hn
    have hul := q_ul_le (B p)
    repeat (first | refine gi_con ?_ | refine gi_bip (Nat.le_of_ble_eq_true rfl) ?_ | refine gi_sip (Nat.le_of_ble_eq_true rfl) ?_ | refine gi_ldc ?_ | refine gi_add ?_ | refine gi_inc rfl ?_ | refine gi_sub (by omega) ?_ | refine gi_mul ?_ | refine go_nx rfl ?_)
    first | refine gz_eq (by omega) (fun c => ?_) (fun c => ?_) | refine gz_ne (by omega) (fun c => ?_) (fun c => ?_) | refine gz_le (by omega) (fun c => ?_) (fun c => ?_) | refine gz_gt (by omega) (fun c => ?_) (fun c => ?_) | refine gz_lt (by omega) (fun c => ?_) (fun c => ?_) | refine gz_ge (by omega) (fun c => ?_) (fun c => ?_)
    · exact z7 (hn.elim (fun q => q.2) (fun q => absurd q.1 (by omega))) _
    obtain ⟨hn1, hn2, hn3⟩ := hn.resolve_left (by omega)
    repeat (first | refine gi_con ?_ | refine gi_bip (Nat.le_of_ble_eq_true rfl) ?_ | refine gi_sip (Nat.le_of_ble_eq_true rfl) ?_ | refine gi_ldc ?_ | refine gi_add ?_ | refine gi_inc rfl ?_ | refine gi_sub (by omega) ?_ | refine gi_mul ?_ | refine go_nx rfl ?_)
    first | refine gb_lt (by omega) (by omega) (fun c2 => ?_) (fun c2 => ?_) | refine gb_ge (by omega) (by omega) (fun c2 => ?_) (fun c2 => ?_) | refine gb_gt (by omega) (by omega) (fun c2 => ?_) (fun c2 => ?_) | refine gb_le (by omega) (by omega) (fun c2 => ?_) (fun c2 => ?_) | refine gb_eq (by omega) (by omega) (fun c2 => ?_) (fun c2 => ?_) | refine gb_ne (by omega) (by omega) (fun c2 => ?_) (fun c2 => ?_)
    · have hr : q_chr B p e = match q_uc B p (n - 1) 1 (B p - q_uo n) with
        | none => 0
        | some v => if v < q_ub n ∨ 1114111 < v ∨ (55296 ≤ v ∧ v ≤ 57343) then 0 else n := by
        unfold q_chr
        rw [if_neg (by omega), if_neg (by omega), ← hn1]
        rfl
      have hn' := hn1
      unfold q_ul at hn'
      unfold q_uo at hr
      repeat (first | refine gi_con ?_ | refine gi_bip (Nat.le_of_ble_eq_true rfl) ?_ | refine gi_sip (Nat.le_of_ble_eq_true rfl) ?_ | refine gi_ldc ?_ | refine gi_add ?_ | refine gi_inc rfl ?_ | refine gi_sub (by omega) ?_ | refine gi_mul ?_ | refine go_nx rfl ?_)
      first | refine gb_lt (by omega) (by omega) (fun c3 => ?_) (fun c3 => ?_) | refine gb_ge (by omega) (by omega) (fun c3 => ?_) (fun c3 => ?_) | refine gb_gt (by omega) (by omega) (fun c3 => ?_) (fun c3 => ?_) | refine gb_le (by omega) (by omega) (fun c3 => ?_) (fun c3 => ?_) | refine gb_eq (by omega) (by omega) (fun c3 => ?_) (fun c3 => ?_) | refine gb_ne (by omega) (by omega) (fun c3 => ?_) (fun c3 => ?_)
      · rw [if_neg c3] at hr
        repeat (first | refine gi_con ?_ | refine gi_bip (Nat.le_of_ble_eq_true rfl) ?_ | refine gi_sip (Nat.le_of_ble_eq_true rfl) ?_ | refine gi_ldc ?_ | refine gi_add ?_ | refine gi_inc rfl ?_ | refine gi_sub (by omega) ?_ | refine gi_mul ?_ | refine go_nx rfl ?_)
        first | refine gb_lt (by omega) (by omega) (fun c4 => ?_) (fun c4 => ?_) | refine gb_ge (by omega) (by omega) (fun c4 => ?_) (fun c4 => ?_) | refine gb_gt (by omega) (by omega) (fun c4 => ?_) (fun c4 => ?_) | refine gb_le (by omega) (by omega) (fun c4 => ?_) (fun c4 => ?_) | refine gb_eq (by omega) (by omega) (fun c4 => ?_) (fun c4 => ?_) | refine gb_ne (by omega) (by omega) (fun c4 => ?_) (fun c4 => ?_)
        · rw [if_neg c4] at hr
          have : 240 ≤ B p := by
            split at hn'
            · omega
            · split at hn' <;> omega
          repeat (first | refine gi_con ?_ | refine gi_bip (Nat.le_of_ble_eq_true rfl) ?_ | refine gi_sip (Nat.le_of_ble_eq_true rfl) ?_ | refine gi_ldc ?_ | refine gi_add ?_ | refine gi_inc rfl ?_ | refine gi_sub (by omega) ?_ | refine gi_mul ?_ | refine go_nx rfl ?_)
          refine go_jp rfl ?_
          refine el n (B p - 240) hn1 (by omega) (by omega) (by unfold q_uo; rw [if_neg c3, if_neg c4]) hr
        · rw [if_pos c4] at hr
          have : B p < 240 := by
            split at hn'
            · omega
            · split at hn' <;> omega
          have : 224 ≤ B p := by
            split at hn'
            · omega
            · omega
          repeat (first | refine gi_con ?_ | refine gi_bip (Nat.le_of_ble_eq_true rfl) ?_ | refine gi_sip (Nat.le_of_ble_eq_true rfl) ?_ | refine gi_ldc ?_ | refine gi_add ?_ | refine gi_inc rfl ?_ | refine gi_sub (by omega) ?_ | refine gi_mul ?_ | refine go_nx rfl ?_)
          refine go_jp rfl ?_
          refine el n (B p - 224) hn1 (by omega) (by omega) (by unfold q_uo; rw [if_neg c3, if_pos c4]) hr
      · rw [if_pos c3] at hr
        have : B p < 224 := by
          split at hn'
          · omega
          · split at hn' <;> omega
        repeat (first | refine gi_con ?_ | refine gi_bip (Nat.le_of_ble_eq_true rfl) ?_ | refine gi_sip (Nat.le_of_ble_eq_true rfl) ?_ | refine gi_ldc ?_ | refine gi_add ?_ | refine gi_inc rfl ?_ | refine gi_sub (by omega) ?_ | refine gi_mul ?_ | refine go_nx rfl ?_)
        refine go_jp rfl ?_
        refine el n (B p - 192) hn1 (by omega) (by omega) (by unfold q_uo; rw [if_pos c3]) hr
    · refine go_jp rfl ?_
      refine z7 ?_ _
      unfold q_chr
      rw [if_neg (by omega), if_pos (Or.inr (Or.inr (by omega)))]
  repeat (first | refine gi_con ?_ | refine gi_bip (Nat.le_of_ble_eq_true rfl) ?_ | refine gi_sip (Nat.le_of_ble_eq_true rfl) ?_ | refine gi_ldc ?_ | refine gi_add ?_ | refine gi_inc rfl ?_ | refine gi_sub (by omega) ?_ | refine gi_mul ?_ | refine go_nx rfl ?_)
  refine go_step ?_
  refine g_callV (by decide) (by decide) (Nat.le_of_ble_eq_true rfl) (Nat.le_of_ble_eq_true rfl) (mSt_rcv hm) (by omega) (Nat.le_of_ble_eq_true rfl) rfl ?_
  refine sp_mat hm (by omega) ?_
  rw [hw p hp]
  repeat (first | refine gi_con ?_ | refine gi_bip (Nat.le_of_ble_eq_true rfl) ?_ | refine gi_sip (Nat.le_of_ble_eq_true rfl) ?_ | refine gi_ldc ?_ | refine gi_add ?_ | refine gi_inc rfl ?_ | refine gi_sub (by omega) ?_ | refine gi_mul ?_ | refine go_nx rfl ?_)
  first | refine gb_lt (by omega) (by omega) (fun c => ?_) (fun c => ?_) | refine gb_ge (by omega) (by omega) (fun c => ?_) (fun c => ?_) | refine gb_gt (by omega) (by omega) (fun c => ?_) (fun c => ?_) | refine gb_le (by omega) (by omega) (fun c => ?_) (fun c => ?_) | refine gb_eq (by omega) (by omega) (fun c => ?_) (fun c => ?_) | refine gb_ne (by omega) (by omega) (fun c => ?_) (fun c => ?_)
  · repeat (first | refine gi_con ?_ | refine gi_bip (Nat.le_of_ble_eq_true rfl) ?_ | refine gi_sip (Nat.le_of_ble_eq_true rfl) ?_ | refine gi_ldc ?_ | refine gi_add ?_ | refine gi_inc rfl ?_ | refine gi_sub (by omega) ?_ | refine gi_mul ?_ | refine go_nx rfl ?_)
    first | refine gb_lt (by omega) (by omega) (fun c2 => ?_) (fun c2 => ?_) | refine gb_ge (by omega) (by omega) (fun c2 => ?_) (fun c2 => ?_) | refine gb_gt (by omega) (by omega) (fun c2 => ?_) (fun c2 => ?_) | refine gb_le (by omega) (by omega) (fun c2 => ?_) (fun c2 => ?_) | refine gb_eq (by omega) (by omega) (fun c2 => ?_) (fun c2 => ?_) | refine gb_ne (by omega) (by omega) (fun c2 => ?_) (fun c2 => ?_)
    · repeat (first | refine gi_con ?_ | refine gi_bip (Nat.le_of_ble_eq_true rfl) ?_ | refine gi_sip (Nat.le_of_ble_eq_true rfl) ?_ | refine gi_ldc ?_ | refine gi_add ?_ | refine gi_inc rfl ?_ | refine gi_sub (by omega) ?_ | refine gi_mul ?_ | refine go_nx rfl ?_)
      first | refine gb_lt (by omega) (by omega) (fun c3 => ?_) (fun c3 => ?_) | refine gb_ge (by omega) (by omega) (fun c3 => ?_) (fun c3 => ?_) | refine gb_gt (by omega) (by omega) (fun c3 => ?_) (fun c3 => ?_) | refine gb_le (by omega) (by omega) (fun c3 => ?_) (fun c3 => ?_) | refine gb_eq (by omega) (by omega) (fun c3 => ?_) (fun c3 => ?_) | refine gb_ne (by omega) (by omega) (fun c3 => ?_) (fun c3 => ?_)
      · repeat (first | refine gi_con ?_ | refine gi_bip (Nat.le_of_ble_eq_true rfl) ?_ | refine gi_sip (Nat.le_of_ble_eq_true rfl) ?_ | refine gi_ldc ?_ | refine gi_add ?_ | refine gi_inc rfl ?_ | refine gi_sub (by omega) ?_ | refine gi_mul ?_ | refine go_nx rfl ?_)
        first | refine gb_lt (by omega) (by omega) (fun c4 => ?_) (fun c4 => ?_) | refine gb_ge (by omega) (by omega) (fun c4 => ?_) (fun c4 => ?_) | refine gb_gt (by omega) (by omega) (fun c4 => ?_) (fun c4 => ?_) | refine gb_le (by omega) (by omega) (fun c4 => ?_) (fun c4 => ?_) | refine gb_eq (by omega) (by omega) (fun c4 => ?_) (fun c4 => ?_) | refine gb_ne (by omega) (by omega) (fun c4 => ?_) (fun c4 => ?_)
        · repeat (first | refine gi_con ?_ | refine gi_bip (Nat.le_of_ble_eq_true rfl) ?_ | refine gi_sip (Nat.le_of_ble_eq_true rfl) ?_ | refine gi_ldc ?_ | refine gi_add ?_ | refine gi_inc rfl ?_ | refine gi_sub (by omega) ?_ | refine gi_mul ?_ | refine go_nx rfl ?_)
          first | refine gb_lt (by omega) (by omega) (fun c5 => ?_) (fun c5 => ?_) | refine gb_ge (by omega) (by omega) (fun c5 => ?_) (fun c5 => ?_) | refine gb_gt (by omega) (by omega) (fun c5 => ?_) (fun c5 => ?_) | refine gb_le (by omega) (by omega) (fun c5 => ?_) (fun c5 => ?_) | refine gb_eq (by omega) (by omega) (fun c5 => ?_) (fun c5 => ?_) | refine gb_ne (by omega) (by omega) (fun c5 => ?_) (fun c5 => ?_)
          · repeat (first | refine gi_con ?_ | refine gi_bip (Nat.le_of_ble_eq_true rfl) ?_ | refine gi_sip (Nat.le_of_ble_eq_true rfl) ?_ | refine gi_ldc ?_ | refine gi_add ?_ | refine gi_inc rfl ?_ | refine gi_sub (by omega) ?_ | refine gi_mul ?_ | refine go_nx rfl ?_)
            refine go_jp rfl ?_
            exact six 0 (Or.inl ⟨rfl, by unfold q_chr; rw [if_neg (by omega), if_pos (by omega)]⟩)
          · repeat (first | refine gi_con ?_ | refine gi_bip (Nat.le_of_ble_eq_true rfl) ?_ | refine gi_sip (Nat.le_of_ble_eq_true rfl) ?_ | refine gi_ldc ?_ | refine gi_add ?_ | refine gi_inc rfl ?_ | refine gi_sub (by omega) ?_ | refine gi_mul ?_ | refine go_nx rfl ?_)
            refine go_jp rfl ?_
            exact six 4 (Or.inr ⟨by unfold q_ul; rw [if_neg (by omega), if_neg (by omega)], by omega, by omega⟩)
        · repeat (first | refine gi_con ?_ | refine gi_bip (Nat.le_of_ble_eq_true rfl) ?_ | refine gi_sip (Nat.le_of_ble_eq_true rfl) ?_ | refine gi_ldc ?_ | refine gi_add ?_ | refine gi_inc rfl ?_ | refine gi_sub (by omega) ?_ | refine gi_mul ?_ | refine go_nx rfl ?_)
          refine go_jp rfl ?_
          exact six 3 (Or.inr ⟨by unfold q_ul; rw [if_neg (by omega), if_pos (by omega)], by omega, by omega⟩)
      · repeat (first | refine gi_con ?_ | refine gi_bip (Nat.le_of_ble_eq_true rfl) ?_ | refine gi_sip (Nat.le_of_ble_eq_true rfl) ?_ | refine gi_ldc ?_ | refine gi_add ?_ | refine gi_inc rfl ?_ | refine gi_sub (by omega) ?_ | refine gi_mul ?_ | refine go_nx rfl ?_)
        refine go_jp rfl ?_
        exact six 2 (Or.inr ⟨by unfold q_ul; rw [if_pos (by omega)], by omega, by omega⟩)
    · repeat (first | refine gi_con ?_ | refine gi_bip (Nat.le_of_ble_eq_true rfl) ?_ | refine gi_sip (Nat.le_of_ble_eq_true rfl) ?_ | refine gi_ldc ?_ | refine gi_add ?_ | refine gi_inc rfl ?_ | refine gi_sub (by omega) ?_ | refine gi_mul ?_ | refine go_nx rfl ?_)
      refine go_jp rfl ?_
      exact six 0 (Or.inl ⟨rfl, by unfold q_chr; rw [if_neg (by omega), if_pos (by omega)]⟩)
  · repeat (first | refine gi_con ?_ | refine gi_bip (Nat.le_of_ble_eq_true rfl) ?_ | refine gi_sip (Nat.le_of_ble_eq_true rfl) ?_ | refine gi_ldc ?_ | refine gi_add ?_ | refine gi_inc rfl ?_ | refine gi_sub (by omega) ?_ | refine gi_mul ?_ | refine go_nx rfl ?_)
    refine go_rt rfl ?_
    have : q_chr B p e = 1 := by unfold q_chr; rw [if_pos c]
    rw [this] at hq
    exact hq
theorem sp_mtext {E : mmE} {d : Nat} {h : mmH} {Q : Option Value → mmH → Prop} {o st b p e : Nat} {R B : Nat → Nat} (hd : 2 ≤ d) (hm : mSt h o st R) (hw : ∀ j, j < e → R (b + j) = B j) (hp : p ≤ e) (he : b + e ≤ 22100) (hB : ∀ j, B j < 256) (hq : Q (some (.int (q_t (q_utf B e (e - p) p)))) h) : mm_Go E d 112 (mm_blk 112 0) [.ref o, .int (nI (b + p)), .int (nI (b + e)), mm_un, mm_un] [] h Q := by
  have loop : ∀ (k j : Nat) (x4 : Value), e ≤ k + j → j ≤ e → Q (some (.int (q_t (q_utf B e k j)))) h → mm_Go E d 112 (mm_blk 112 1) [.ref o, .int (nI (b + p)), .int (nI (b + e)), .int (nI (b + j)), x4] [] h Q := by
    intro k
    induction k with
    | zero =>
      intro j x4 hk hj hq
      repeat (first | refine gi_con ?_ | refine gi_bip (Nat.le_of_ble_eq_true rfl) ?_ | refine gi_sip (Nat.le_of_ble_eq_true rfl) ?_ | refine gi_ldc ?_ | refine gi_add ?_ | refine gi_inc rfl ?_ | refine gi_sub (by omega) ?_ | refine gi_mul ?_ | refine go_nx rfl ?_)
      first | refine gb_lt (by omega) (by omega) (fun c => ?_) (fun c => ?_) | refine gb_ge (by omega) (by omega) (fun c => ?_) (fun c => ?_) | refine gb_gt (by omega) (by omega) (fun c => ?_) (fun c => ?_) | refine gb_le (by omega) (by omega) (fun c => ?_) (fun c => ?_) | refine gb_eq (by omega) (by omega) (fun c => ?_) (fun c => ?_) | refine gb_ne (by omega) (by omega) (fun c => ?_) (fun c => ?_)
      · repeat (first | refine gi_con ?_ | refine gi_bip (Nat.le_of_ble_eq_true rfl) ?_ | refine gi_sip (Nat.le_of_ble_eq_true rfl) ?_ | refine gi_ldc ?_ | refine gi_add ?_ | refine gi_inc rfl ?_ | refine gi_sub (by omega) ?_ | refine gi_mul ?_ | refine go_nx rfl ?_)
        refine go_rt rfl ?_
        exact hq
      · omega
    | succ k ih =>
      intro j x4 hk hj hq
      unfold q_utf at hq
      repeat (first | refine gi_con ?_ | refine gi_bip (Nat.le_of_ble_eq_true rfl) ?_ | refine gi_sip (Nat.le_of_ble_eq_true rfl) ?_ | refine gi_ldc ?_ | refine gi_add ?_ | refine gi_inc rfl ?_ | refine gi_sub (by omega) ?_ | refine gi_mul ?_ | refine go_nx rfl ?_)
      first | refine gb_lt (by omega) (by omega) (fun c => ?_) (fun c => ?_) | refine gb_ge (by omega) (by omega) (fun c => ?_) (fun c => ?_) | refine gb_gt (by omega) (by omega) (fun c => ?_) (fun c => ?_) | refine gb_le (by omega) (by omega) (fun c => ?_) (fun c => ?_) | refine gb_eq (by omega) (by omega) (fun c => ?_) (fun c => ?_) | refine gb_ne (by omega) (by omega) (fun c => ?_) (fun c => ?_)
      · rw [if_pos (by omega)] at hq
        repeat (first | refine gi_con ?_ | refine gi_bip (Nat.le_of_ble_eq_true rfl) ?_ | refine gi_sip (Nat.le_of_ble_eq_true rfl) ?_ | refine gi_ldc ?_ | refine gi_add ?_ | refine gi_inc rfl ?_ | refine gi_sub (by omega) ?_ | refine gi_mul ?_ | refine go_nx rfl ?_)
        refine go_rt rfl ?_
        exact hq
      rw [if_neg (by omega)] at hq
      repeat (first | refine gi_con ?_ | refine gi_bip (Nat.le_of_ble_eq_true rfl) ?_ | refine gi_sip (Nat.le_of_ble_eq_true rfl) ?_ | refine gi_ldc ?_ | refine gi_add ?_ | refine gi_inc rfl ?_ | refine gi_sub (by omega) ?_ | refine gi_mul ?_ | refine go_nx rfl ?_)
      refine go_step ?_
      refine g_callV (by decide) (by decide) (Nat.le_of_ble_eq_true rfl) (Nat.le_of_ble_eq_true rfl) (mSt_rcv hm) (by omega) (Nat.le_of_ble_eq_true rfl) rfl ?_
      refine sp_mchr (by omega) hm hw (by omega) he hB ?_
      have hle := q_chr_le B j e
      have hin := q_chr_in (B := B) (p := j) (to := e) (by omega)
      repeat (first | refine gi_con ?_ | refine gi_bip (Nat.le_of_ble_eq_true rfl) ?_ | refine gi_sip (Nat.le_of_ble_eq_true rfl) ?_ | refine gi_ldc ?_ | refine gi_add ?_ | refine gi_inc rfl ?_ | refine gi_sub (by omega) ?_ | refine gi_mul ?_ | refine go_nx rfl ?_)
      first | refine gz_eq (by omega) (fun c2 => ?_) (fun c2 => ?_) | refine gz_ne (by omega) (fun c2 => ?_) (fun c2 => ?_) | refine gz_le (by omega) (fun c2 => ?_) (fun c2 => ?_) | refine gz_gt (by omega) (fun c2 => ?_) (fun c2 => ?_) | refine gz_lt (by omega) (fun c2 => ?_) (fun c2 => ?_) | refine gz_ge (by omega) (fun c2 => ?_) (fun c2 => ?_)
      · rw [if_neg (by omega)] at hq
        repeat (first | refine gi_con ?_ | refine gi_bip (Nat.le_of_ble_eq_true rfl) ?_ | refine gi_sip (Nat.le_of_ble_eq_true rfl) ?_ | refine gi_ldc ?_ | refine gi_add ?_ | refine gi_inc rfl ?_ | refine gi_sub (by omega) ?_ | refine gi_mul ?_ | refine go_nx rfl ?_)
        refine go_jp rfl ?_
        rw [Nat.add_assoc]
        exact ih (j + q_chr B j e) _ (by omega) hin hq
      · rw [if_pos c2] at hq
        repeat (first | refine gi_con ?_ | refine gi_bip (Nat.le_of_ble_eq_true rfl) ?_ | refine gi_sip (Nat.le_of_ble_eq_true rfl) ?_ | refine gi_ldc ?_ | refine gi_add ?_ | refine gi_inc rfl ?_ | refine gi_sub (by omega) ?_ | refine gi_mul ?_ | refine go_nx rfl ?_)
        refine go_rt rfl ?_
        exact hq
  repeat (first | refine gi_con ?_ | refine gi_bip (Nat.le_of_ble_eq_true rfl) ?_ | refine gi_sip (Nat.le_of_ble_eq_true rfl) ?_ | refine gi_ldc ?_ | refine gi_add ?_ | refine gi_inc rfl ?_ | refine gi_sub (by omega) ?_ | refine gi_mul ?_ | refine go_nx rfl ?_)
  refine go_jp rfl ?_
  exact loop (e - p) p _ (by omega) hp hq
end
section
/-! THE REFERENCE: names -/
def q_mg (B : Nat → Nat) (k i : Nat) (g : Bool) : Bool := g && !decide (B i = 0) && !(decide (B i = 46) && (decide (i = 0) || decide (k = 0) || decide (B (i - 1) = 46)))
/-- the steps of a path, as the reference reads them -/
def q_ms (B : Nat → Nat) : Nat → Nat → Bool → Nat → Bool
  | 0, _, g, s => g && decide (s < 9)
  | k + 1, i, g, s => q_ms B k (i + 1) (q_mg B k i g) (s + if B i = 46 then 1 else 0)
theorem q_ms_false (B : Nat → Nat) : ∀ k i s, q_ms B k i false s = false := by
  intro k
  induction k with
  | zero => intro i s; rfl
  | succ k ih =>
    intro i s
    unfold q_ms
    rw [show q_mg B k i false = false from rfl]
    exact ih _ _
theorem q_ms_steps (B : Nat → Nat) : ∀ k i g s opens st, 1 ≤ k → (opens = true ↔ i = 0 ∨ B (i - 1) = 46) → (if opens = true then st + 1 = s else st = s) → q_ms B k i g s = (g && q_steps B true k i opens st) := by
  intro k
  induction k with
  | zero => intro i g s opens st hk; omega
  | succ k ih =>
    intro i g s opens st hk ho hs
    cases g with
    | false => rw [q_ms_false]; rfl
    | true =>
      rw [Bool.true_and]
      unfold q_ms q_steps
      by_cases h0 : B i = 0
      · rw [if_pos (Or.inl h0), show q_mg B k i true = false from by unfold q_mg; rw [decide_eq_true h0]; rfl, q_ms_false]
      · by_cases hp : B i = 46
        · by_cases hop : opens = true
          · rw [if_pos (Or.inr ⟨hop, Or.inl hp⟩), show q_mg B k i true = false from by
              unfold q_mg
              rw [decide_eq_false h0, decide_eq_true hp]
              rcases ho.mp hop with q | q
              · rw [decide_eq_true q]; rfl
              · rw [decide_eq_true q]; simp, q_ms_false]
          · have hop' : opens = false := by simpa using hop
            rw [if_pos hp, if_neg (show ¬ (B i = 0 ∨ opens = true ∧ (B i = 46 ∨ B i = 36 ∧ true = false)) from fun q => q.elim h0 (fun q => hop q.1)), decide_eq_true hp, hop']
            rw [if_neg (by rw [hop']; decide)] at hs
            have hi : ¬ i = 0 := fun q => hop (ho.mpr (Or.inl q))
            have hb : ¬ B (i - 1) = 46 := fun q => hop (ho.mpr (Or.inr q))
            by_cases hk0 : k = 0
            · subst hk0
              rw [show q_mg B 0 i true = false from by unfold q_mg; rw [decide_eq_false h0, decide_eq_true hp]; simp, q_ms_false]
              rfl
            · rw [show q_mg B k i true = true from by unfold q_mg; rw [decide_eq_false h0, decide_eq_true hp, decide_eq_false hi, decide_eq_false hk0, decide_eq_false hb]; rfl]
              rw [ih (i + 1) true _ true st (by omega) ⟨fun _ => Or.inr (by rw [Nat.add_sub_cancel]; exact hp), fun _ => rfl⟩ (by rw [if_pos rfl, hs])]
              rfl
        · have hg : q_mg B k i true = true := by unfold q_mg; rw [decide_eq_false h0, decide_eq_false hp]; rfl
          rw [hg, if_neg hp, if_neg (show ¬ (B i = 0 ∨ opens = true ∧ (B i = 46 ∨ B i = 36 ∧ true = false)) from fun q => q.elim h0 (fun q => q.2.elim hp (fun q => Bool.noConfusion q.2))), decide_eq_false hp]
          have hs' : (if opens = true then st + 1 else st) = s := by
            by_cases hop : opens = true
            · rw [if_pos hop] at hs ⊢; exact hs
            · rw [if_neg hop] at hs ⊢; exact hs
          rw [hs']
          by_cases hk0 : k = 0
          · subst hk0
            show (true && decide (s + 0 < 9)) = (!false && decide (s ≤ 8))
            rw [Bool.true_and, Bool.not_false, Bool.true_and]
            exact decide_eq_decide.mpr (by omega)
          · rw [ih (i + 1) true _ false s (by omega) ⟨fun q => Bool.noConfusion q, fun q => (q.elim (fun q => absurd q (Nat.succ_ne_zero i)) (fun q => absurd q hp))⟩ (by rw [if_neg (by decide)]; rfl)]
            rfl
theorem sp_mpath {E : mmE} {d : Nat} {h : mmH} {Q : Option Value → mmH → Prop} {o st b n : Nat} {R B : Nat → Nat} (hd : 3 ≤ d) (hm : mSt h o st R) (hw : ∀ j, j < n → R (b + j) = B j) (he : b + n ≤ 22100) (hB : ∀ j, B j < 256) (hq : Q (some (.int (q_t (q_path B n)))) h) : mm_Go E d 111 (mm_blk 111 0) [.ref o, .int (nI b), .int (nI n), mm_un, mm_un, mm_un, mm_un] [] h Q := by
  have loop : ∀ (k i : Nat) (g : Bool) (s : Nat) (x6 : Value), k + i = n → s ≤ i + 1 → Q (some (.int (q_t (q_ms B k i g s)))) h → mm_Go E d 111 (mm_blk 111 3) [.ref o, .int (nI b), .int (nI n), .int (q_t g), .int (nI s), .int (nI (b + i)), x6] [] h Q := by
    intro k
    induction k with
    | zero =>
      intro i g s x6 hk hs hq
      unfold q_ms at hq
      repeat (first | refine gi_con ?_ | refine gi_bip (Nat.le_of_ble_eq_true rfl) ?_ | refine gi_sip (Nat.le_of_ble_eq_true rfl) ?_ | refine gi_ldc ?_ | refine gi_add ?_ | refine gi_inc rfl ?_ | refine gi_sub (by omega) ?_ | refine gi_mul ?_ | refine go_nx rfl ?_)
      first | refine gb_lt (by omega) (by omega) (fun c => ?_) (fun c => ?_) | refine gb_ge (by omega) (by omega) (fun c => ?_) (fun c => ?_) | refine gb_gt (by omega) (by omega) (fun c => ?_) (fun c => ?_) | refine gb_le (by omega) (by omega) (fun c => ?_) (fun c => ?_) | refine gb_eq (by omega) (by omega) (fun c => ?_) (fun c => ?_) | refine gb_ne (by omega) (by omega) (fun c => ?_) (fun c => ?_)
      · repeat (first | refine gi_con ?_ | refine gi_bip (Nat.le_of_ble_eq_true rfl) ?_ | refine gi_sip (Nat.le_of_ble_eq_true rfl) ?_ | refine gi_ldc ?_ | refine gi_add ?_ | refine gi_inc rfl ?_ | refine gi_sub (by omega) ?_ | refine gi_mul ?_ | refine go_nx rfl ?_)
        first | refine gt_eq (fun c2 => ?_) (fun c2 => ?_) | refine gt_ne (fun c2 => ?_) (fun c2 => ?_)
        · rw [c2] at hq
          repeat (first | refine gi_con ?_ | refine gi_bip (Nat.le_of_ble_eq_true rfl) ?_ | refine gi_sip (Nat.le_of_ble_eq_true rfl) ?_ | refine gi_ldc ?_ | refine gi_add ?_ | refine gi_inc rfl ?_ | refine gi_sub (by omega) ?_ | refine gi_mul ?_ | refine go_nx rfl ?_)
          refine go_jp rfl ?_
          refine go_rt rfl ?_
          exact hq
        · rw [c2, Bool.true_and] at hq
          repeat (first | refine gi_con ?_ | refine gi_bip (Nat.le_of_ble_eq_true rfl) ?_ | refine gi_sip (Nat.le_of_ble_eq_true rfl) ?_ | refine gi_ldc ?_ | refine gi_add ?_ | refine gi_inc rfl ?_ | refine gi_sub (by omega) ?_ | refine gi_mul ?_ | refine go_nx rfl ?_)
          first | refine gb_lt (by omega) (by omega) (fun c3 => ?_) (fun c3 => ?_) | refine gb_ge (by omega) (by omega) (fun c3 => ?_) (fun c3 => ?_) | refine gb_gt (by omega) (by omega) (fun c3 => ?_) (fun c3 => ?_) | refine gb_le (by omega) (by omega) (fun c3 => ?_) (fun c3 => ?_) | refine gb_eq (by omega) (by omega) (fun c3 => ?_) (fun c3 => ?_) | refine gb_ne (by omega) (by omega) (fun c3 => ?_) (fun c3 => ?_)
          · rw [decide_eq_false (by omega)] at hq
            repeat (first | refine gi_con ?_ | refine gi_bip (Nat.le_of_ble_eq_true rfl) ?_ | refine gi_sip (Nat.le_of_ble_eq_true rfl) ?_ | refine gi_ldc ?_ | refine gi_add ?_ | refine gi_inc rfl ?_ | refine gi_sub (by omega) ?_ | refine gi_mul ?_ | refine go_nx rfl ?_)
            refine go_jp rfl ?_
            refine go_rt rfl ?_
            exact hq
          · rw [decide_eq_true (by omega)] at hq
            repeat (first | refine gi_con ?_ | refine gi_bip (Nat.le_of_ble_eq_true rfl) ?_ | refine gi_sip (Nat.le_of_ble_eq_true rfl) ?_ | refine gi_ldc ?_ | refine gi_add ?_ | refine gi_inc rfl ?_ | refine gi_sub (by omega) ?_ | refine gi_mul ?_ | refine go_nx rfl ?_)
            refine go_jp rfl ?_
            refine go_rt rfl ?_
            exact hq
      · omega
    | succ k ih =>
      intro i g s x6 hk hs hq
      have hBi := hB i
      unfold q_ms at hq
      have eight : ∀ (g1 : Bool), q_mg B k i g = g1 → mm_Go E d 111 (mm_blk 111 8) [.ref o, .int (nI b), .int (nI n), .int (q_t g), .int (nI s), .int (nI (b + i)), .int (q_t (decide (B i = 46)))] [.int (q_t g1)] h Q := by
        intro g1 hg1
        rw [hg1] at hq
        repeat (first | refine gi_con ?_ | refine gi_bip (Nat.le_of_ble_eq_true rfl) ?_ | refine gi_sip (Nat.le_of_ble_eq_true rfl) ?_ | refine gi_ldc ?_ | refine gi_add ?_ | refine gi_inc rfl ?_ | refine gi_sub (by omega) ?_ | refine gi_mul ?_ | refine go_nx rfl ?_)
        first | refine gt_eq (fun c => ?_) (fun c => ?_) | refine gt_ne (fun c => ?_) (fun c => ?_)
        · rw [if_neg (of_decide_eq_false c)] at hq
          repeat (first | refine gi_con ?_ | refine gi_bip (Nat.le_of_ble_eq_true rfl) ?_ | refine gi_sip (Nat.le_of_ble_eq_true rfl) ?_ | refine gi_ldc ?_ | refine gi_add ?_ | refine gi_inc rfl ?_ | refine gi_sub (by omega) ?_ | refine gi_mul ?_ | refine go_nx rfl ?_)
          refine go_jp rfl ?_
          repeat (first | refine gi_con ?_ | refine gi_bip (Nat.le_of_ble_eq_true rfl) ?_ | refine gi_sip (Nat.le_of_ble_eq_true rfl) ?_ | refine gi_ldc ?_ | refine gi_add ?_ | refine gi_inc rfl ?_ | refine gi_sub (by omega) ?_ | refine gi_mul ?_ | refine go_nx rfl ?_)
          refine go_jp rfl ?_
          rw [Nat.add_assoc]
          exact ih (i + 1) g1 (s + 0) _ (by omega) (by omega) hq
        · rw [if_pos (of_decide_eq_true c)] at hq
          repeat (first | refine gi_con ?_ | refine gi_bip (Nat.le_of_ble_eq_true rfl) ?_ | refine gi_sip (Nat.le_of_ble_eq_true rfl) ?_ | refine gi_ldc ?_ | refine gi_add ?_ | refine gi_inc rfl ?_ | refine gi_sub (by omega) ?_ | refine gi_mul ?_ | refine go_nx rfl ?_)
          refine go_jp rfl ?_
          repeat (first | refine gi_con ?_ | refine gi_bip (Nat.le_of_ble_eq_true rfl) ?_ | refine gi_sip (Nat.le_of_ble_eq_true rfl) ?_ | refine gi_ldc ?_ | refine gi_add ?_ | refine gi_inc rfl ?_ | refine gi_sub (by omega) ?_ | refine gi_mul ?_ | refine go_nx rfl ?_)
          refine go_jp rfl ?_
          rw [Nat.add_assoc]
          exact ih (i + 1) g1 (s + 1) _ (by omega) (by omega) hq
      have six : q_mg B k i g = true → mm_Go E d 111 (mm_blk 111 6) [.ref o, .int (nI b), .int (nI n), .int (q_t g), .int (nI s), .int (nI (b + i)), .int (q_t (decide (B i = 46)))] [] h Q := by
        intro hg
        repeat (first | refine gi_con ?_ | refine gi_bip (Nat.le_of_ble_eq_true rfl) ?_ | refine gi_sip (Nat.le_of_ble_eq_true rfl) ?_ | refine gi_ldc ?_ | refine gi_add ?_ | refine gi_inc rfl ?_ | refine gi_sub (by omega) ?_ | refine gi_mul ?_ | refine go_nx rfl ?_)
        refine go_jp rfl ?_
        exact eight true hg
      have seven : q_mg B k i g = false → mm_Go E d 111 (mm_blk 111 7) [.ref o, .int (nI b), .int (nI n), .int (q_t g), .int (nI s), .int (nI (b + i)), .int (q_t (decide (B i = 46)))] [] h Q := by
        intro hg
        repeat (first | refine gi_con ?_ | refine gi_bip (Nat.le_of_ble_eq_true rfl) ?_ | refine gi_sip (Nat.le_of_ble_eq_true rfl) ?_ | refine gi_ldc ?_ | refine gi_add ?_ | refine gi_inc rfl ?_ | refine gi_sub (by omega) ?_ | refine gi_mul ?_ | refine go_nx rfl ?_)
        refine go_jp rfl ?_
        exact eight false hg
      have five : mm_Go E d 111 (mm_blk 111 5) [.ref o, .int (nI b), .int (nI n), .int (q_t g), .int (nI s), .int (nI (b + i)), x6] [.int (q_t (decide (B i = 46)))] h Q := by
        repeat (first | refine gi_con ?_ | refine gi_bip (Nat.le_of_ble_eq_true rfl) ?_ | refine gi_sip (Nat.le_of_ble_eq_true rfl) ?_ | refine gi_ldc ?_ | refine gi_add ?_ | refine gi_inc rfl ?_ | refine gi_sub (by omega) ?_ | refine gi_mul ?_ | refine go_nx rfl ?_)
        first | refine gt_eq (fun c => ?_) (fun c => ?_) | refine gt_ne (fun c => ?_) (fun c => ?_)
        · exact seven (by unfold q_mg; rw [c]; rfl)
        repeat (first | refine gi_con ?_ | refine gi_bip (Nat.le_of_ble_eq_true rfl) ?_ | refine gi_sip (Nat.le_of_ble_eq_true rfl) ?_ | refine gi_ldc ?_ | refine gi_add ?_ | refine gi_inc rfl ?_ | refine gi_sub (by omega) ?_ | refine gi_mul ?_ | refine go_nx rfl ?_)
        refine gm_gs hm rfl ?_
        repeat (first | refine gi_con ?_ | refine gi_bip (Nat.le_of_ble_eq_true rfl) ?_ | refine gi_sip (Nat.le_of_ble_eq_true rfl) ?_ | refine gi_ldc ?_ | refine gi_add ?_ | refine gi_inc rfl ?_ | refine gi_sub (by omega) ?_ | refine gi_mul ?_ | refine go_nx rfl ?_)
        refine gm_ld hm (by omega) ?_
        rw [hw i (by omega)]
        refine gs_eq hBi (fun c2 => ?_) (fun c2 => ?_)
        · exact seven (by unfold q_mg; rw [decide_eq_true c2]; simp)
        repeat (first | refine gi_con ?_ | refine gi_bip (Nat.le_of_ble_eq_true rfl) ?_ | refine gi_sip (Nat.le_of_ble_eq_true rfl) ?_ | refine gi_ldc ?_ | refine gi_add ?_ | refine gi_inc rfl ?_ | refine gi_sub (by omega) ?_ | refine gi_mul ?_ | refine go_nx rfl ?_)
        first | refine gt_eq (fun c3 => ?_) (fun c3 => ?_) | refine gt_ne (fun c3 => ?_) (fun c3 => ?_)
        · exact six (by unfold q_mg; rw [c, c3, decide_eq_false c2]; rfl)
        repeat (first | refine gi_con ?_ | refine gi_bip (Nat.le_of_ble_eq_true rfl) ?_ | refine gi_sip (Nat.le_of_ble_eq_true rfl) ?_ | refine gi_ldc ?_ | refine gi_add ?_ | refine gi_inc rfl ?_ | refine gi_sub (by omega) ?_ | refine gi_mul ?_ | refine go_nx rfl ?_)
        first | refine gb_lt (by omega) (by omega) (fun c4 => ?_) (fun c4 => ?_) | refine gb_ge (by omega) (by omega) (fun c4 => ?_) (fun c4 => ?_) | refine gb_gt (by omega) (by omega) (fun c4 => ?_) (fun c4 => ?_) | refine gb_le (by omega) (by omega) (fun c4 => ?_) (fun c4 => ?_) | refine gb_eq (by omega) (by omega) (fun c4 => ?_) (fun c4 => ?_) | refine gb_ne (by omega) (by omega) (fun c4 => ?_) (fun c4 => ?_)
        · exact seven (by unfold q_mg; rw [c3, decide_eq_true (show i = 0 by omega)]; simp)
        repeat (first | refine gi_con ?_ | refine gi_bip (Nat.le_of_ble_eq_true rfl) ?_ | refine gi_sip (Nat.le_of_ble_eq_true rfl) ?_ | refine gi_ldc ?_ | refine gi_add ?_ | refine gi_inc rfl ?_ | refine gi_sub (by omega) ?_ | refine gi_mul ?_ | refine go_nx rfl ?_)
        first | refine gb_lt (by omega) (by omega) (fun c5 => ?_) (fun c5 => ?_) | refine gb_ge (by omega) (by omega) (fun c5 => ?_) (fun c5 => ?_) | refine gb_gt (by omega) (by omega) (fun c5 => ?_) (fun c5 => ?_) | refine gb_le (by omega) (by omega) (fun c5 => ?_) (fun c5 => ?_) | refine gb_eq (by omega) (by omega) (fun c5 => ?_) (fun c5 => ?_) | refine gb_ne (by omega) (by omega) (fun c5 => ?_) (fun c5 => ?_)
        · exact seven (by unfold q_mg; rw [c3, decide_eq_true (show k = 0 by omega)]; simp)
        repeat (first | refine gi_con ?_ | refine gi_bip (Nat.le_of_ble_eq_true rfl) ?_ | refine gi_sip (Nat.le_of_ble_eq_true rfl) ?_ | refine gi_ldc ?_ | refine gi_add ?_ | refine gi_inc rfl ?_ | refine gi_sub (by omega) ?_ | refine gi_mul ?_ | refine go_nx rfl ?_)
        refine go_step ?_
        refine g_callV (by decide) (by decide) (Nat.le_of_ble_eq_true rfl) (Nat.le_of_ble_eq_true rfl) (mSt_rcv hm) (by omega) (Nat.le_of_ble_eq_true rfl) rfl ?_
        rw [show b + i - 1 = b + (i - 1) by omega]
        refine sp_mat hm (by omega) ?_
        rw [hw (i - 1) (by omega)]
        have hBi1 := hB (i - 1)
        repeat (first | refine gi_con ?_ | refine gi_bip (Nat.le_of_ble_eq_true rfl) ?_ | refine gi_sip (Nat.le_of_ble_eq_true rfl) ?_ | refine gi_ldc ?_ | refine gi_add ?_ | refine gi_inc rfl ?_ | refine gi_sub (by omega) ?_ | refine gi_mul ?_ | refine go_nx rfl ?_)
        first | refine gb_lt (by omega) (by omega) (fun c6 => ?_) (fun c6 => ?_) | refine gb_ge (by omega) (by omega) (fun c6 => ?_) (fun c6 => ?_) | refine gb_gt (by omega) (by omega) (fun c6 => ?_) (fun c6 => ?_) | refine gb_le (by omega) (by omega) (fun c6 => ?_) (fun c6 => ?_) | refine gb_eq (by omega) (by omega) (fun c6 => ?_) (fun c6 => ?_) | refine gb_ne (by omega) (by omega) (fun c6 => ?_) (fun c6 => ?_)
        · exact seven (by unfold q_mg; rw [c3, decide_eq_true c6]; simp)
        refine go_jp rfl ?_
        exact six (by unfold q_mg; rw [c, c3, decide_eq_false c2, decide_eq_false c6, decide_eq_false (show ¬ k = 0 by omega), decide_eq_false (show ¬ i = 0 by omega)]; rfl)
      repeat (first | refine gi_con ?_ | refine gi_bip (Nat.le_of_ble_eq_true rfl) ?_ | refine gi_sip (Nat.le_of_ble_eq_true rfl) ?_ | refine gi_ldc ?_ | refine gi_add ?_ | refine gi_inc rfl ?_ | refine gi_sub (by omega) ?_ | refine gi_mul ?_ | refine go_nx rfl ?_)
      first | refine gb_lt (by omega) (by omega) (fun c => ?_) (fun c => ?_) | refine gb_ge (by omega) (by omega) (fun c => ?_) (fun c => ?_) | refine gb_gt (by omega) (by omega) (fun c => ?_) (fun c => ?_) | refine gb_le (by omega) (by omega) (fun c => ?_) (fun c => ?_) | refine gb_eq (by omega) (by omega) (fun c => ?_) (fun c => ?_) | refine gb_ne (by omega) (by omega) (fun c => ?_) (fun c => ?_)
      · omega
      repeat (first | refine gi_con ?_ | refine gi_bip (Nat.le_of_ble_eq_true rfl) ?_ | refine gi_sip (Nat.le_of_ble_eq_true rfl) ?_ | refine gi_ldc ?_ | refine gi_add ?_ | refine gi_inc rfl ?_ | refine gi_sub (by omega) ?_ | refine gi_mul ?_ | refine go_nx rfl ?_)
      refine go_step ?_
      refine g_callV (by decide) (by decide) (Nat.le_of_ble_eq_true rfl) (Nat.le_of_ble_eq_true rfl) (mSt_rcv hm) (by omega) (Nat.le_of_ble_eq_true rfl) rfl ?_
      refine sp_mat hm (by omega) ?_
      rw [hw i (by omega)]
      repeat (first | refine gi_con ?_ | refine gi_bip (Nat.le_of_ble_eq_true rfl) ?_ | refine gi_sip (Nat.le_of_ble_eq_true rfl) ?_ | refine gi_ldc ?_ | refine gi_add ?_ | refine gi_inc rfl ?_ | refine gi_sub (by omega) ?_ | refine gi_mul ?_ | refine go_nx rfl ?_)
      first | refine gb_lt (by omega) (by omega) (fun c2 => ?_) (fun c2 => ?_) | refine gb_ge (by omega) (by omega) (fun c2 => ?_) (fun c2 => ?_) | refine gb_gt (by omega) (by omega) (fun c2 => ?_) (fun c2 => ?_) | refine gb_le (by omega) (by omega) (fun c2 => ?_) (fun c2 => ?_) | refine gb_eq (by omega) (by omega) (fun c2 => ?_) (fun c2 => ?_) | refine gb_ne (by omega) (by omega) (fun c2 => ?_) (fun c2 => ?_)
      · rw [decide_eq_false c2] at five
        repeat (first | refine gi_con ?_ | refine gi_bip (Nat.le_of_ble_eq_true rfl) ?_ | refine gi_sip (Nat.le_of_ble_eq_true rfl) ?_ | refine gi_ldc ?_ | refine gi_add ?_ | refine gi_inc rfl ?_ | refine gi_sub (by omega) ?_ | refine gi_mul ?_ | refine go_nx rfl ?_)
        refine go_jp rfl ?_
        exact five
      · rw [decide_eq_true c2] at five
        repeat (first | refine gi_con ?_ | refine gi_bip (Nat.le_of_ble_eq_true rfl) ?_ | refine gi_sip (Nat.le_of_ble_eq_true rfl) ?_ | refine gi_ldc ?_ | refine gi_add ?_ | refine gi_inc rfl ?_ | refine gi_sub (by omega) ?_ | refine gi_mul ?_ | refine go_nx rfl ?_)
        refine go_jp rfl ?_
        exact five
  have two : ∀ g : Bool, (g = (decide (0 < n) && q_utf B n n 0)) → mm_Go E d 111 (mm_blk 111 2) [.ref o, .int (nI b), .int (nI n), mm_un, mm_un, mm_un, mm_un] [.int (q_t g)] h Q := by
    intro g hg
    repeat (first | refine gi_con ?_ | refine gi_bip (Nat.le_of_ble_eq_true rfl) ?_ | refine gi_sip (Nat.le_of_ble_eq_true rfl) ?_ | refine gi_ldc ?_ | refine gi_add ?_ | refine gi_inc rfl ?_ | refine gi_sub (by omega) ?_ | refine gi_mul ?_ | refine go_nx rfl ?_)
    refine go_jp rfl ?_
    refine loop n 0 g 1 _ (by omega) (by omega) ?_
    have e : q_ms B n 0 g 1 = q_path B n := by
      by_cases h0 : n = 0
      · subst h0
        rw [hg]
        rfl
      · rw [q_ms_steps B n 0 g 1 true 0 (by omega) ⟨fun _ => Or.inl rfl, fun _ => rfl⟩ (by rw [if_pos rfl]), hg, decide_eq_true (by omega), Bool.true_and]
        rfl
    rw [e]
    exact hq
  have one : (false = (decide (0 < n) && q_utf B n n 0)) → mm_Go E d 111 (mm_blk 111 1) [.ref o, .int (nI b), .int (nI n), mm_un, mm_un, mm_un, mm_un] [] h Q := by
    intro hg
    repeat (first | refine gi_con ?_ | refine gi_bip (Nat.le_of_ble_eq_true rfl) ?_ | refine gi_sip (Nat.le_of_ble_eq_true rfl) ?_ | refine gi_ldc ?_ | refine gi_add ?_ | refine gi_inc rfl ?_ | refine gi_sub (by omega) ?_ | refine gi_mul ?_ | refine go_nx rfl ?_)
    refine go_jp rfl ?_
    exact two false hg
  repeat (first | refine gi_con ?_ | refine gi_bip (Nat.le_of_ble_eq_true rfl) ?_ | refine gi_sip (Nat.le_of_ble_eq_true rfl) ?_ | refine gi_ldc ?_ | refine gi_add ?_ | refine gi_inc rfl ?_ | refine gi_sub (by omega) ?_ | refine gi_mul ?_ | refine go_nx rfl ?_)
  first | refine gz_eq (by omega) (fun c => ?_) (fun c => ?_) | refine gz_ne (by omega) (fun c => ?_) (fun c => ?_) | refine gz_le (by omega) (fun c => ?_) (fun c => ?_) | refine gz_gt (by omega) (fun c => ?_) (fun c => ?_) | refine gz_lt (by omega) (fun c => ?_) (fun c => ?_) | refine gz_ge (by omega) (fun c => ?_) (fun c => ?_)
  · exact one (by rw [decide_eq_false (by omega)]; rfl)
  repeat (first | refine gi_con ?_ | refine gi_bip (Nat.le_of_ble_eq_true rfl) ?_ | refine gi_sip (Nat.le_of_ble_eq_true rfl) ?_ | refine gi_ldc ?_ | refine gi_add ?_ | refine gi_inc rfl ?_ | refine gi_sub (by omega) ?_ | refine gi_mul ?_ | refine go_nx rfl ?_)
  refine go_step ?_
  refine g_callV (by decide) (by decide) (Nat.le_of_ble_eq_true rfl) (Nat.le_of_ble_eq_true rfl) (mSt_rcv hm) (by omega) (Nat.le_of_ble_eq_true rfl) rfl ?_
  refine sp_mtext (p := 0) (by omega) hm hw (by omega) he hB ?_
  rw [Nat.sub_zero]
  repeat (first | refine gi_con ?_ | refine gi_bip (Nat.le_of_ble_eq_true rfl) ?_ | refine gi_sip (Nat.le_of_ble_eq_true rfl) ?_ | refine gi_ldc ?_ | refine gi_add ?_ | refine gi_inc rfl ?_ | refine gi_sub (by omega) ?_ | refine gi_mul ?_ | refine go_nx rfl ?_)
  first | refine gt_eq (fun c2 => ?_) (fun c2 => ?_) | refine gt_ne (fun c2 => ?_) (fun c2 => ?_)
  · exact one (by rw [c2, Bool.and_false])
  repeat (first | refine gi_con ?_ | refine gi_bip (Nat.le_of_ble_eq_true rfl) ?_ | refine gi_sip (Nat.le_of_ble_eq_true rfl) ?_ | refine gi_ldc ?_ | refine gi_add ?_ | refine gi_inc rfl ?_ | refine gi_sub (by omega) ?_ | refine gi_mul ?_ | refine go_nx rfl ?_)
  refine go_jp rfl ?_
  exact two true (by rw [c2, decide_eq_true c]; rfl)
/-- what q_bytes = 0 says -/
theorem q_by_0 (A B : Nat → Nat) (n m : Nat) : ∀ k i, (q_by A B n m k i = 0 ↔ n = m ∧ ∀ j, i ≤ j → j < i + k → A j = B j) := by
  intro k
  induction k with
  | zero =>
    intro i
    unfold q_by
    rw [q_c3_0]
    exact ⟨fun q => ⟨q, fun j h1 h2 => by omega⟩, fun q => q.1⟩
  | succ k ih =>
    intro i
    unfold q_by
    by_cases h : A i = B i
    · rw [if_pos h, ih]
      refine ⟨fun q => ⟨q.1, fun j h1 h2 => ?_⟩, fun q => ⟨q.1, fun j h1 h2 => q.2 j (by omega) (by omega)⟩⟩
      by_cases hj : j = i
      · rw [hj]; exact h
      · exact q.2 j (by omega) (by omega)
    · rw [if_neg h, q_c3_0]
      exact ⟨fun q => absurd q h, fun q => q.2 i (by omega) (by omega)⟩
theorem q_bytes_0 {A B : Nat → Nat} {n m : Nat} : q_bytes A n B m = 0 ↔ n = m ∧ ∀ j, j < n → A j = B j := by
  unfold q_bytes
  rw [q_by_0]
  exact ⟨fun q => ⟨q.1, fun j hj => q.2 j (by omega) (by omega)⟩, fun q => ⟨q.1, fun j _ h2 => q.2 j (by omega)⟩⟩
theorem sp_malike {E : mmE} {d : Nat} {h : mmH} {Q : Option Value → mmH → Prop} {o st a b n m : Nat} {R A B : Nat → Nat} (hm : mSt h o st R) (ha : ∀ j, j ≤ n → R (a + j) = A j) (hb : ∀ j, j ≤ m → R (b + j) = B j) (hA : A n = 0) (hB : B m = 0) (hA0 : ∀ j, j < n → A j ≠ 0) (hB0 : ∀ j, j < m → B j ≠ 0) (h1 : a + n < 22100) (h2 : b + m < 22100) (hq : Q (some (.int (q_t (decide (q_bytes A n B m = 0))))) h) : mm_Go E d 121 (mm_blk 121 0) [.ref o, .int (nI a), .int (nI b), mm_un] [] h Q := by
  have hR := hm.2.2
  have loop : ∀ (k i : Nat), k + i = n → i ≤ m → (∀ j, j < i → A j = B j) → mm_Go E d 121 (mm_blk 121 1) [.ref o, .int (nI a), .int (nI b), .int (nI i)] [] h Q := by
    intro k
    induction k with
    | zero =>
      intro i hk him heq
      have hin : i = n := by omega
      subst hin
      have two : mm_Go E d 121 (mm_blk 121 2) [.ref o, .int (nI a), .int (nI b), .int (nI i)] [] h Q := by
        repeat (first | refine gi_con ?_ | refine gi_bip (Nat.le_of_ble_eq_true rfl) ?_ | refine gi_sip (Nat.le_of_ble_eq_true rfl) ?_ | refine gi_ldc ?_ | refine gi_add ?_ | refine gi_inc rfl ?_ | refine gi_sub (by omega) ?_ | refine gi_mul ?_ | refine go_nx rfl ?_)
        refine gm_gs hm rfl ?_
        repeat (first | refine gi_con ?_ | refine gi_bip (Nat.le_of_ble_eq_true rfl) ?_ | refine gi_sip (Nat.le_of_ble_eq_true rfl) ?_ | refine gi_ldc ?_ | refine gi_add ?_ | refine gi_inc rfl ?_ | refine gi_sub (by omega) ?_ | refine gi_mul ?_ | refine go_nx rfl ?_)
        refine gm_ld hm (by omega) ?_
        repeat (first | refine gi_con ?_ | refine gi_bip (Nat.le_of_ble_eq_true rfl) ?_ | refine gi_sip (Nat.le_of_ble_eq_true rfl) ?_ | refine gi_ldc ?_ | refine gi_add ?_ | refine gi_inc rfl ?_ | refine gi_sub (by omega) ?_ | refine gi_mul ?_ | refine go_nx rfl ?_)
        refine gm_gs hm rfl ?_
        repeat (first | refine gi_con ?_ | refine gi_bip (Nat.le_of_ble_eq_true rfl) ?_ | refine gi_sip (Nat.le_of_ble_eq_true rfl) ?_ | refine gi_ldc ?_ | refine gi_add ?_ | refine gi_inc rfl ?_ | refine gi_sub (by omega) ?_ | refine gi_mul ?_ | refine go_nx rfl ?_)
        refine gm_ld hm (by omega) ?_
        refine gs_bne (hR _) (hR _) (fun c => ?_) (fun c => ?_)
        · rw [decide_eq_false (fun q => c (by
            have q1 := (q_bytes_0.mp q).1
            rw [ha i (by omega), hb i (by omega), hA, q1, hB]))] at hq
          repeat (first | refine gi_con ?_ | refine gi_bip (Nat.le_of_ble_eq_true rfl) ?_ | refine gi_sip (Nat.le_of_ble_eq_true rfl) ?_ | refine gi_ldc ?_ | refine gi_add ?_ | refine gi_inc rfl ?_ | refine gi_sub (by omega) ?_ | refine gi_mul ?_ | refine go_nx rfl ?_)
          refine go_jp rfl ?_
          refine go_rt rfl ?_
          exact hq
        · rw [decide_eq_true (q_bytes_0.mpr ⟨by
            rw [ha i (by omega), hb i (by omega), hA] at c
            by_cases hlt : i < m
            · exact absurd c.symm (hB0 i hlt)
            · omega, heq⟩)] at hq
          repeat (first | refine gi_con ?_ | refine gi_bip (Nat.le_of_ble_eq_true rfl) ?_ | refine gi_sip (Nat.le_of_ble_eq_true rfl) ?_ | refine gi_ldc ?_ | refine gi_add ?_ | refine gi_inc rfl ?_ | refine gi_sub (by omega) ?_ | refine gi_mul ?_ | refine go_nx rfl ?_)
          refine go_jp rfl ?_
          refine go_rt rfl ?_
          exact hq
      repeat (first | refine gi_con ?_ | refine gi_bip (Nat.le_of_ble_eq_true rfl) ?_ | refine gi_sip (Nat.le_of_ble_eq_true rfl) ?_ | refine gi_ldc ?_ | refine gi_add ?_ | refine gi_inc rfl ?_ | refine gi_sub (by omega) ?_ | refine gi_mul ?_ | refine go_nx rfl ?_)
      refine gm_gs hm rfl ?_
      repeat (first | refine gi_con ?_ | refine gi_bip (Nat.le_of_ble_eq_true rfl) ?_ | refine gi_sip (Nat.le_of_ble_eq_true rfl) ?_ | refine gi_ldc ?_ | refine gi_add ?_ | refine gi_inc rfl ?_ | refine gi_sub (by omega) ?_ | refine gi_mul ?_ | refine go_nx rfl ?_)
      refine gm_ld hm (by omega) ?_
      repeat (first | refine gi_con ?_ | refine gi_bip (Nat.le_of_ble_eq_true rfl) ?_ | refine gi_sip (Nat.le_of_ble_eq_true rfl) ?_ | refine gi_ldc ?_ | refine gi_add ?_ | refine gi_inc rfl ?_ | refine gi_sub (by omega) ?_ | refine gi_mul ?_ | refine go_nx rfl ?_)
      refine gm_gs hm rfl ?_
      repeat (first | refine gi_con ?_ | refine gi_bip (Nat.le_of_ble_eq_true rfl) ?_ | refine gi_sip (Nat.le_of_ble_eq_true rfl) ?_ | refine gi_ldc ?_ | refine gi_add ?_ | refine gi_inc rfl ?_ | refine gi_sub (by omega) ?_ | refine gi_mul ?_ | refine go_nx rfl ?_)
      refine gm_ld hm (by omega) ?_
      refine gs_bne (hR _) (hR _) (fun c => two) (fun c => ?_)
      repeat (first | refine gi_con ?_ | refine gi_bip (Nat.le_of_ble_eq_true rfl) ?_ | refine gi_sip (Nat.le_of_ble_eq_true rfl) ?_ | refine gi_ldc ?_ | refine gi_add ?_ | refine gi_inc rfl ?_ | refine gi_sub (by omega) ?_ | refine gi_mul ?_ | refine go_nx rfl ?_)
      refine gm_gs hm rfl ?_
      repeat (first | refine gi_con ?_ | refine gi_bip (Nat.le_of_ble_eq_true rfl) ?_ | refine gi_sip (Nat.le_of_ble_eq_true rfl) ?_ | refine gi_ldc ?_ | refine gi_add ?_ | refine gi_inc rfl ?_ | refine gi_sub (by omega) ?_ | refine gi_mul ?_ | refine go_nx rfl ?_)
      refine gm_ld hm (by omega) ?_
      refine gs_eq (hR _) (fun c => two) (fun c2 => ?_)
      exact absurd (by rw [ha i (by omega), hA]) c2
    | succ k ih =>
      intro i hk him heq
      have two : R (a + i) ≠ R (b + i) → mm_Go E d 121 (mm_blk 121 2) [.ref o, .int (nI a), .int (nI b), .int (nI i)] [] h Q := by
        intro hne
        repeat (first | refine gi_con ?_ | refine gi_bip (Nat.le_of_ble_eq_true rfl) ?_ | refine gi_sip (Nat.le_of_ble_eq_true rfl) ?_ | refine gi_ldc ?_ | refine gi_add ?_ | refine gi_inc rfl ?_ | refine gi_sub (by omega) ?_ | refine gi_mul ?_ | refine go_nx rfl ?_)
        refine gm_gs hm rfl ?_
        repeat (first | refine gi_con ?_ | refine gi_bip (Nat.le_of_ble_eq_true rfl) ?_ | refine gi_sip (Nat.le_of_ble_eq_true rfl) ?_ | refine gi_ldc ?_ | refine gi_add ?_ | refine gi_inc rfl ?_ | refine gi_sub (by omega) ?_ | refine gi_mul ?_ | refine go_nx rfl ?_)
        refine gm_ld hm (by omega) ?_
        repeat (first | refine gi_con ?_ | refine gi_bip (Nat.le_of_ble_eq_true rfl) ?_ | refine gi_sip (Nat.le_of_ble_eq_true rfl) ?_ | refine gi_ldc ?_ | refine gi_add ?_ | refine gi_inc rfl ?_ | refine gi_sub (by omega) ?_ | refine gi_mul ?_ | refine go_nx rfl ?_)
        refine gm_gs hm rfl ?_
        repeat (first | refine gi_con ?_ | refine gi_bip (Nat.le_of_ble_eq_true rfl) ?_ | refine gi_sip (Nat.le_of_ble_eq_true rfl) ?_ | refine gi_ldc ?_ | refine gi_add ?_ | refine gi_inc rfl ?_ | refine gi_sub (by omega) ?_ | refine gi_mul ?_ | refine go_nx rfl ?_)
        refine gm_ld hm (by omega) ?_
        refine gs_bne (hR _) (hR _) (fun c => ?_) (fun c => absurd c hne)
        rw [decide_eq_false (fun q => by
          obtain ⟨q1, q2⟩ := q_bytes_0.mp q
          exact hne (by rw [ha i (by omega), hb i (by omega), q2 i (by omega)]))] at hq
        repeat (first | refine gi_con ?_ | refine gi_bip (Nat.le_of_ble_eq_true rfl) ?_ | refine gi_sip (Nat.le_of_ble_eq_true rfl) ?_ | refine gi_ldc ?_ | refine gi_add ?_ | refine gi_inc rfl ?_ | refine gi_sub (by omega) ?_ | refine gi_mul ?_ | refine go_nx rfl ?_)
        refine go_jp rfl ?_
        refine go_rt rfl ?_
        exact hq
      repeat (first | refine gi_con ?_ | refine gi_bip (Nat.le_of_ble_eq_true rfl) ?_ | refine gi_sip (Nat.le_of_ble_eq_true rfl) ?_ | refine gi_ldc ?_ | refine gi_add ?_ | refine gi_inc rfl ?_ | refine gi_sub (by omega) ?_ | refine gi_mul ?_ | refine go_nx rfl ?_)
      refine gm_gs hm rfl ?_
      repeat (first | refine gi_con ?_ | refine gi_bip (Nat.le_of_ble_eq_true rfl) ?_ | refine gi_sip (Nat.le_of_ble_eq_true rfl) ?_ | refine gi_ldc ?_ | refine gi_add ?_ | refine gi_inc rfl ?_ | refine gi_sub (by omega) ?_ | refine gi_mul ?_ | refine go_nx rfl ?_)
      refine gm_ld hm (by omega) ?_
      repeat (first | refine gi_con ?_ | refine gi_bip (Nat.le_of_ble_eq_true rfl) ?_ | refine gi_sip (Nat.le_of_ble_eq_true rfl) ?_ | refine gi_ldc ?_ | refine gi_add ?_ | refine gi_inc rfl ?_ | refine gi_sub (by omega) ?_ | refine gi_mul ?_ | refine go_nx rfl ?_)
      refine gm_gs hm rfl ?_
      repeat (first | refine gi_con ?_ | refine gi_bip (Nat.le_of_ble_eq_true rfl) ?_ | refine gi_sip (Nat.le_of_ble_eq_true rfl) ?_ | refine gi_ldc ?_ | refine gi_add ?_ | refine gi_inc rfl ?_ | refine gi_sub (by omega) ?_ | refine gi_mul ?_ | refine go_nx rfl ?_)
      refine gm_ld hm (by omega) ?_
      refine gs_bne (hR _) (hR _) (fun c => two c) (fun c => ?_)
      repeat (first | refine gi_con ?_ | refine gi_bip (Nat.le_of_ble_eq_true rfl) ?_ | refine gi_sip (Nat.le_of_ble_eq_true rfl) ?_ | refine gi_ldc ?_ | refine gi_add ?_ | refine gi_inc rfl ?_ | refine gi_sub (by omega) ?_ | refine gi_mul ?_ | refine go_nx rfl ?_)
      refine gm_gs hm rfl ?_
      repeat (first | refine gi_con ?_ | refine gi_bip (Nat.le_of_ble_eq_true rfl) ?_ | refine gi_sip (Nat.le_of_ble_eq_true rfl) ?_ | refine gi_ldc ?_ | refine gi_add ?_ | refine gi_inc rfl ?_ | refine gi_sub (by omega) ?_ | refine gi_mul ?_ | refine go_nx rfl ?_)
      refine gm_ld hm (by omega) ?_
      refine gs_eq (hR _) (fun c2 => ?_) (fun c2 => ?_)
      · rw [ha i (by omega)] at c2
        exact absurd c2 (hA0 i (by omega))
      · repeat (first | refine gi_con ?_ | refine gi_bip (Nat.le_of_ble_eq_true rfl) ?_ | refine gi_sip (Nat.le_of_ble_eq_true rfl) ?_ | refine gi_ldc ?_ | refine gi_add ?_ | refine gi_inc rfl ?_ | refine gi_sub (by omega) ?_ | refine gi_mul ?_ | refine go_nx rfl ?_)
        refine go_jp rfl ?_
        rw [ha i (by omega), hb i (by omega)] at c
        refine ih (i + 1) (by omega) ?_ (fun j hj => ?_)
        · by_cases hlt : i < m
          · omega
          · have him' : i = m := by omega
            rw [him', hB, ← him'] at c
            exact absurd c (hA0 i (by omega))
        · by_cases hj2 : j = i
          · rw [hj2]; exact c
          · exact heq j (by omega)
  repeat (first | refine gi_con ?_ | refine gi_bip (Nat.le_of_ble_eq_true rfl) ?_ | refine gi_sip (Nat.le_of_ble_eq_true rfl) ?_ | refine gi_ldc ?_ | refine gi_add ?_ | refine gi_inc rfl ?_ | refine gi_sub (by omega) ?_ | refine gi_mul ?_ | refine go_nx rfl ?_)
  refine go_jp rfl ?_
  exact loop n 0 (by omega) (by omega) (fun j hj => by omega)
end
section
/-! from kit/laws/BITS.to-paste: longs as naturals -/
theorem wb_tb (n : Nat) : (lN n).toBitVec = BitVec.ofNat 64 n := rfl
theorem wb_inj {a b : Int64} (h : a.toBitVec = b.toBitVec) : a = b := Int64.toBitVec_inj.mp h
theorem wb_tn {n : Nat} (h : n < 2 ^ 64) : (lN n).toBitVec.toNat = n := by rw [wb_tb, BitVec.toNat_ofNat, Nat.mod_eq_of_lt h]
theorem wb_of (x : Int64) : ∃ n, n < 2 ^ 64 ∧ x = lN n := ⟨x.toBitVec.toNat, x.toBitVec.isLt, wb_inj (by rw [wb_tb]; simp)⟩
theorem wb_of32 (x : Int32) : ∃ n, n < 2 ^ 32 ∧ x = nI n := ⟨x.toBitVec.toNat, x.toBitVec.isLt, Int32.toBitVec_inj.mp (by show _ = BitVec.ofNat 32 _; simp)⟩
theorem wb_c : ∀ k, k < 64 → ((nI k).toInt64 &&& 63) = lN k := by decide +kernel
theorem wb_cu : ∀ k, k < 64 → ((nI k).toInt64.toUInt64 &&& Int64.toUInt64 63) = UInt64.ofNat k := by decide +kernel
theorem wb_sm : ∀ k, k < 64 → (BitVec.ofNat 64 k).smod 64 = BitVec.ofNat 64 k := by decide +kernel
theorem wb_pw {a b : Nat} (h : a ≤ b) : 2 ^ b = 2 ^ a * 2 ^ (b - a) := by rw [← Nat.pow_add]; congr 1; omega
theorem wb_lt2 {a b : Nat} (h : a < b) : 2 ^ a < 2 ^ b := Nat.pow_lt_pow_right (by decide) h
theorem wb_mod (n : Nat) : lN n = lN (n % 2 ^ 64) := wb_inj (by rw [wb_tb, wb_tb]; apply BitVec.eq_of_toNat_eq; rw [BitVec.toNat_ofNat, BitVec.toNat_ofNat, Nat.mod_mod])
theorem wb_shr {n k : Nat} (hn : n < 2 ^ 64) (hk : k < 64) : ((lN n).toUInt64 >>> ((nI k).toInt64.toUInt64 &&& Int64.toUInt64 63)).toInt64 = lN (n / 2 ^ k) := by
  rw [wb_cu k hk]
  apply wb_inj
  apply BitVec.eq_of_toNat_eq
  show ((lN n).toUInt64 >>> UInt64.ofNat k).toNat = (BitVec.ofNat 64 _).toNat
  have h1 : (UInt64.ofNat k).toNat = k := by
    show (BitVec.ofNat 64 k).toNat = k
    rw [BitVec.toNat_ofNat, Nat.mod_eq_of_lt (by omega)]
  have h2 : (lN n).toUInt64.toNat = n := wb_tn hn
  rw [UInt64.toNat_shiftRight, h1, h2, Nat.mod_eq_of_lt hk, Nat.shiftRight_eq_div_pow, BitVec.toNat_ofNat, Nat.mod_eq_of_lt (Nat.lt_of_le_of_lt (Nat.div_le_self _ _) hn)]
theorem wb_shl (n : Nat) {k : Nat} (hk : k < 64) : lN n <<< ((nI k).toInt64 &&& 63) = lN (n * 2 ^ k) := by
  rw [wb_c k hk]
  apply wb_inj
  rw [Int64.toBitVec_shiftLeft, wb_tb, wb_tb, wb_tb, wb_sm k hk]
  apply BitVec.eq_of_toNat_eq
  rw [BitVec.shiftLeft_eq', BitVec.toNat_shiftLeft, BitVec.toNat_ofNat, BitVec.toNat_ofNat, BitVec.toNat_ofNat, Nat.mod_eq_of_lt (show k < 2 ^ 64 by omega), Nat.shiftLeft_eq, Nat.mul_mod, Nat.mod_mod, ← Nat.mul_mod]
theorem wb_and {a b : Nat} (ha : a < 2 ^ 64) (hb : b < 2 ^ 64) : lN a &&& lN b = lN (a &&& b) := by
  apply wb_inj
  rw [Int64.toBitVec_and, wb_tb, wb_tb, wb_tb]
  apply BitVec.eq_of_toNat_eq
  rw [BitVec.toNat_and, BitVec.toNat_ofNat, BitVec.toNat_ofNat, BitVec.toNat_ofNat, Nat.mod_eq_of_lt ha, Nat.mod_eq_of_lt hb, Nat.mod_eq_of_lt (Nat.and_lt_two_pow _ hb)]
theorem wb_or {a b : Nat} (ha : a < 2 ^ 64) (hb : b < 2 ^ 64) : lN a ||| lN b = lN (a ||| b) := by
  apply wb_inj
  rw [Int64.toBitVec_or, wb_tb, wb_tb, wb_tb]
  apply BitVec.eq_of_toNat_eq
  rw [BitVec.toNat_or, BitVec.toNat_ofNat, BitVec.toNat_ofNat, BitVec.toNat_ofNat, Nat.mod_eq_of_lt ha, Nat.mod_eq_of_lt hb, Nat.mod_eq_of_lt (Nat.or_lt_two_pow ha hb)]
theorem wb_mask {n k : Nat} (hn : n < 2 ^ 64) (hk : k < 64) : lN n &&& lN (2 ^ k - 1) = lN (n % 2 ^ k) := by
  rw [wb_and hn (by have := wb_lt2 hk; omega), Nat.and_two_pow_sub_one_eq_mod]
theorem pf_lI {a : Nat} (h : a < 2 ^ 63) : (lN a).toInt = (a : Int) := lg_ofNat_toInt h
theorem pf_shr {a d : Nat} {D : Int64} (hD : (D.toBitVec.smod 64).toNat = d) (h : a < 2 ^ 62) : lN a >>> D = lN (a / 2 ^ d) := by
  have hd : a / 2 ^ d ≤ a := Nat.div_le_self _ _
  apply Int64.toInt_inj.mp
  have e : (lN a >>> D).toInt = (lN a).toInt >>> d := by
    rw [← hD]
    exact BitVec.toInt_sshiftRight ..
  rw [e, Int.shiftRight_eq_div_pow, pf_lI (by omega), pf_lI (by omega)]
  rfl
/-! THE REFERENCE: words -/
def q_enc : List Nat → Nat
  | [] => 0
  | c :: t => c + 256 * q_enc t
theorem q_eqs_iff {A T : Nat → Nat} : ∀ {k i : Nat}, (q_eqs A T k i = true ↔ ∀ j, i ≤ j → j < i + k → A j = T j) := by
  intro k
  induction k with
  | zero =>
    intro i
    exact ⟨fun _ j h1 h2 => by omega, fun _ => rfl⟩
  | succ k ih =>
    intro i
    unfold q_eqs
    by_cases h : A i = T i
    · rw [if_pos h, ih]
      refine ⟨fun q j h1 h2 => ?_, fun q j h1 h2 => q j (by omega) (by omega)⟩
      by_cases hj : j = i
      · rw [hj]; exact h
      · exact q j (by omega) (by omega)
    · rw [if_neg h]
      exact ⟨fun q => Bool.noConfusion q, fun q => absurd (q i (by omega) (by omega)) h⟩
theorem q_isw_iff {B T : Nat → Nat} {fr to n : Nat} : q_isw B fr to n T = true ↔ to - fr = n ∧ ∀ j, j < n → B (fr + j) = T j := by
  unfold q_isw
  rw [Bool.and_eq_true, decide_eq_true_eq, q_eqs_iff]
  exact ⟨fun q => ⟨q.1, fun j hj => q.2 j (by omega) (by omega)⟩, fun q => ⟨q.1, fun j _ hj => q.2 j (by omega)⟩⟩
theorem lN_shr8 {a : Nat} (h : a < 2 ^ 62) : lN a >>> ((nI 8).toInt64 &&& 63) = lN (a / 256) := pf_shr (d := 8) (by decide) h
theorem lN_a255 {a : Nat} (h : a < 2 ^ 63) : (lN a &&& Int64.ofNat 255).toInt32 = nI (a % 256) := by
  have := wb_mask (n := a) (k := 8) (by omega) (by decide)
  have e1 : lN (2 ^ 8 - 1) = Int64.ofNat 255 := by decide
  rw [← e1, this, lN_i]
theorem q_enc_lt : ∀ (T : List Nat), (∀ c ∈ T, c < 256) → q_enc T < 256 ^ T.length := by
  intro T
  induction T with
  | nil => intro _; exact Nat.one_pos
  | cons c t ih =>
    intro h
    have h1 := h c List.mem_cons_self
    have h2 := ih (fun x hx => h x (List.mem_cons_of_mem _ hx))
    unfold q_enc
    rw [List.length_cons, Nat.pow_succ]
    omega
theorem gl_le {E : mmE} {d m pc : Nat} {is : List mmI} {L S : List Value} {h : mmH} {Q : Option Value → mmH → Prop} {ex : List Nat} {off : Int} {x y : Int64} (h1 : x ≤ y → mm_Go E d m (mm_blk m (mm_k0 ex)) L S h Q) (h2 : y < x → mm_Go E d m is L S h Q) : mm_Go E d m ((pc, .ifCond .le off, ex) :: is) L (.int (lg_cmp x y) :: S) h Q :=
  go_br (c := decide (lg_cmp x y ≤ 0)) rfl (fun c => h1 ((lg_cmp_le x y).mp (of_decide_eq_true c))) (fun c => h2 (by
    have c1 := of_decide_eq_false c
    rw [lg_cmp_le] at c1
    exact Int64.not_le.mp c1))
theorem gi_lsr8 {E : mmE} {d m pc : Nat} {is : List mmI} {L S : List Value} {h : mmH} {Q : Option Value → mmH → Prop} {ex : List Nat} {a : Nat} (ha : a < 2 ^ 62) (hg : mm_Go E d m is L (.long (lN (a / 256)) :: S) h Q) : mm_Go E d m ((pc, .lshr, ex) :: is) L (.int (nI 8) :: .long (lN a) :: S) h Q := go_nx (by
  show mm_nx L (.long (lN a >>> ((nI 8).toInt64 &&& 63)) :: S) h = _
  rw [lN_shr8 ha]) hg
theorem sp_mnamed {E : mmE} {d : Nat} {h : mmH} {Q : Option Value → mmH → Prop} {o st b p e w : Nat} {R B : Nat → Nat} (T : List Nat) (hd : 1 ≤ d) (hm : mSt h o st R) (hw : ∀ j, j ≤ e → R (b + j) = B j) (hp : p + 1 ≤ e) (he : b + e < 22100) (h0 : B e = 0) (hn : ∀ j, p + 1 ≤ j → j < e → B j ≠ 0) (hT : ∀ c ∈ T, 0 < c ∧ c < 256) (hl : T.length ≤ 7) (hw' : q_enc T = w) (hq : Q (some (.int (q_t (q_isw B (p + 1) e T.length (fun i => T.getD i 0))))) h) : mm_Go E d 131 (mm_blk 131 0) [.ref o, .int (nI (b + p)), .long (lN w), mm_un, mm_un, mm_un, mm_un] [] h Q := by
  subst hw'
  have hR := hm.2.2
  have nz : ∀ i, i < T.length → 0 < T.getD i 0 ∧ T.getD i 0 < 256 := by
    intro i hi
    rw [List.getD_eq_getElem?_getD, List.getElem?_eq_getElem hi]
    exact hT _ (List.getElem_mem hi)
  have inn : ∀ i, i ≤ T.length → (∀ j, j < i → B (p + 1 + j) = T.getD j 0) → p + 1 + i ≤ e := by
    intro i hi hj
    by_cases h1 : p + 1 + i ≤ e
    · exact h1
    · have h2 := hj (e - (p + 1)) (by omega)
      rw [show p + 1 + (e - (p + 1)) = e by omega, h0] at h2
      have h3 := nz (e - (p + 1)) (by omega)
      omega
  have loop : ∀ (U : List Nat) (i : Nat), T.drop i = U → i ≤ T.length → (∀ j, j < i → B (p + 1 + j) = T.getD j 0) → mm_Go E d 131 (mm_blk 131 1) [.ref o, .int (nI (b + p)), .long (lN (q_enc T)), mm_un, .int (nI (b + (p + 1 + i))), .long (lN (q_enc U)), mm_un] [] h Q := by
    intro U
    induction U with
    | nil =>
      intro i hi hil hj
      have hii : i = T.length := by
        have := congrArg List.length hi
        rw [List.length_drop, List.length_nil] at this
        omega
      have hin := inn i hil hj
      repeat (first | refine gi_con ?_ | refine gi_bip (Nat.le_of_ble_eq_true rfl) ?_ | refine gi_sip (Nat.le_of_ble_eq_true rfl) ?_ | refine gi_ldc ?_ | refine gi_add ?_ | refine gi_inc rfl ?_ | refine gi_sub (by omega) ?_ | refine gi_mul ?_ | refine go_nx rfl ?_)
      refine gl_le (fun c => ?_) (fun c => absurd c (by decide))
      repeat (first | refine gi_con ?_ | refine gi_bip (Nat.le_of_ble_eq_true rfl) ?_ | refine gi_sip (Nat.le_of_ble_eq_true rfl) ?_ | refine gi_ldc ?_ | refine gi_add ?_ | refine gi_inc rfl ?_ | refine gi_sub (by omega) ?_ | refine gi_mul ?_ | refine go_nx rfl ?_)
      refine gm_gs hm rfl ?_
      repeat (first | refine gi_con ?_ | refine gi_bip (Nat.le_of_ble_eq_true rfl) ?_ | refine gi_sip (Nat.le_of_ble_eq_true rfl) ?_ | refine gi_ldc ?_ | refine gi_add ?_ | refine gi_inc rfl ?_ | refine gi_sub (by omega) ?_ | refine gi_mul ?_ | refine go_nx rfl ?_)
      refine gm_ld hm (by omega) ?_
      rw [hw _ hin]
      have hBi := hR (b + (p + 1 + i))
      rw [hw _ hin] at hBi
      refine gs_ne hBi (fun c2 => ?_) (fun c2 => ?_)
      · rw [show q_isw B (p + 1) e T.length (fun i => T.getD i 0) = false from by
          rw [Bool.eq_false_iff]
          intro q
          have q1 := (q_isw_iff.mp q).1
          exact c2 (by rw [show p + 1 + i = e by omega]; exact h0)] at hq
        repeat (first | refine gi_con ?_ | refine gi_bip (Nat.le_of_ble_eq_true rfl) ?_ | refine gi_sip (Nat.le_of_ble_eq_true rfl) ?_ | refine gi_ldc ?_ | refine gi_add ?_ | refine gi_inc rfl ?_ | refine gi_sub (by omega) ?_ | refine gi_mul ?_ | refine go_nx rfl ?_)
        refine go_jp rfl ?_
        refine go_rt rfl ?_
        exact hq
      · rw [show q_isw B (p + 1) e T.length (fun i => T.getD i 0) = true from by
          rw [q_isw_iff]
          refine ⟨?_, fun j hj2 => hj j (by omega)⟩
          by_cases h5 : p + 1 + i < e
          · exact absurd c2 (hn _ (by omega) h5)
          · omega] at hq
        repeat (first | refine gi_con ?_ | refine gi_bip (Nat.le_of_ble_eq_true rfl) ?_ | refine gi_sip (Nat.le_of_ble_eq_true rfl) ?_ | refine gi_ldc ?_ | refine gi_add ?_ | refine gi_inc rfl ?_ | refine gi_sub (by omega) ?_ | refine gi_mul ?_ | refine go_nx rfl ?_)
        refine go_jp rfl ?_
        refine go_rt rfl ?_
        exact hq
    | cons u U ih =>
      intro i hi hil hj
      have hlt : i < T.length := by
        have := congrArg List.length hi
        rw [List.length_drop, List.length_cons] at this
        omega
      have hgi : T.getD i 0 = u ∧ T.drop (i + 1) = U := by
        rw [List.drop_eq_getElem_cons hlt] at hi
        rw [List.getD_eq_getElem?_getD, List.getElem?_eq_getElem hlt]
        exact ⟨(List.cons.inj hi).1, (List.cons.inj hi).2⟩
      have hin := inn i hil hj
      have hu := nz i hlt
      rw [hgi.1] at hu
      have hUT : ∀ c ∈ U, c < 256 := by
        intro c hc
        rw [← hgi.2] at hc
        exact (hT c (List.mem_of_mem_drop hc)).2
      have hen := q_enc_lt U hUT
      have hUl : U.length ≤ 6 := by
        have := congrArg List.length hgi.2
        rw [List.length_drop] at this
        omega
      have hen2 : q_enc U < 256 ^ 6 := Nat.lt_of_lt_of_le hen (Nat.pow_le_pow_right (by decide) hUl)
      have he2 : q_enc (u :: U) = u + 256 * q_enc U := rfl
      have hpos : 0 < q_enc (u :: U) := by omega
      have hsm : q_enc (u :: U) < 2 ^ 60 := by omega
      have hBi := hR (b + (p + 1 + i))
      rw [hw _ hin] at hBi
      repeat (first | refine gi_con ?_ | refine gi_bip (Nat.le_of_ble_eq_true rfl) ?_ | refine gi_sip (Nat.le_of_ble_eq_true rfl) ?_ | refine gi_ldc ?_ | refine gi_add ?_ | refine gi_inc rfl ?_ | refine gi_sub (by omega) ?_ | refine gi_mul ?_ | refine go_nx rfl ?_)
      refine gl_le (fun c => absurd ((pk_lLE (by omega) (by omega)).mp c) (by omega)) (fun c => ?_)
      repeat (first | refine gi_con ?_ | refine gi_bip (Nat.le_of_ble_eq_true rfl) ?_ | refine gi_sip (Nat.le_of_ble_eq_true rfl) ?_ | refine gi_ldc ?_ | refine gi_add ?_ | refine gi_inc rfl ?_ | refine gi_sub (by omega) ?_ | refine gi_mul ?_ | refine go_nx rfl ?_)
      refine go_step ?_
      refine g_callV (by decide) (by decide) (Nat.le_of_ble_eq_true rfl) (Nat.le_of_ble_eq_true rfl) (mSt_rcv hm) (by omega) (Nat.le_of_ble_eq_true rfl) rfl ?_
      refine sp_mat hm (by omega) ?_
      rw [hw _ hin]
      refine go_nx rfl ?_
      refine go_nx rfl ?_
      refine go_nx rfl ?_
      refine go_nx rfl ?_
      show mm_Go E d 131 _ _ [.int ((lN (q_enc (u :: U)) &&& Int64.ofNat 255).toInt32), .int (nI (B (p + 1 + i)))] h Q
      rw [lN_a255 (by omega), show q_enc (u :: U) % 256 = u by omega]
      first | refine gb_lt (by omega) (by omega) (fun c2 => ?_) (fun c2 => ?_) | refine gb_ge (by omega) (by omega) (fun c2 => ?_) (fun c2 => ?_) | refine gb_gt (by omega) (by omega) (fun c2 => ?_) (fun c2 => ?_) | refine gb_le (by omega) (by omega) (fun c2 => ?_) (fun c2 => ?_) | refine gb_eq (by omega) (by omega) (fun c2 => ?_) (fun c2 => ?_) | refine gb_ne (by omega) (by omega) (fun c2 => ?_) (fun c2 => ?_)
      · repeat (first | refine gi_con ?_ | refine gi_bip (Nat.le_of_ble_eq_true rfl) ?_ | refine gi_sip (Nat.le_of_ble_eq_true rfl) ?_ | refine gi_ldc ?_ | refine gi_add ?_ | refine gi_inc rfl ?_ | refine gi_sub (by omega) ?_ | refine gi_mul ?_ | refine go_nx rfl ?_)
        rw [lN_shr8 (a := q_enc (u :: U)) (by omega), show q_enc (u :: U) / 256 = q_enc U by omega]
        refine go_jp rfl ?_
        rw [show b + (p + 1 + i) + 1 = b + (p + 1 + (i + 1)) by omega]
        refine ih (i + 1) hgi.2 (by omega) (fun j hj2 => ?_)
        by_cases hji : j = i
        · rw [hji, hgi.1]; exact c2
        · exact hj j (by omega)
      · rw [show q_isw B (p + 1) e T.length (fun i => T.getD i 0) = false from by
          rw [Bool.eq_false_iff]
          intro q
          exact c2 (((q_isw_iff.mp q).2 i hlt).trans hgi.1)] at hq
        repeat (first | refine gi_con ?_ | refine gi_bip (Nat.le_of_ble_eq_true rfl) ?_ | refine gi_sip (Nat.le_of_ble_eq_true rfl) ?_ | refine gi_ldc ?_ | refine gi_add ?_ | refine gi_inc rfl ?_ | refine gi_sub (by omega) ?_ | refine gi_mul ?_ | refine go_nx rfl ?_)
        refine go_rt rfl ?_
        exact hq
  repeat (first | refine gi_con ?_ | refine gi_bip (Nat.le_of_ble_eq_true rfl) ?_ | refine gi_sip (Nat.le_of_ble_eq_true rfl) ?_ | refine gi_ldc ?_ | refine gi_add ?_ | refine gi_inc rfl ?_ | refine gi_sub (by omega) ?_ | refine gi_mul ?_ | refine go_nx rfl ?_)
  refine go_jp rfl ?_
  rw [show b + p + 1 = b + (p + 1 + 0) by omega]
  exact loop T 0 rfl (by omega) (fun j hj => by omega)
/-- the zero behind a place -/
def q_z (B : Nat → Nat) : Nat → Nat → Nat
  | 0, k => k
  | f + 1, k => if B k = 0 then k else q_z B f (k + 1)
theorem q_z_at {B : Nat → Nat} : ∀ (f k e : Nat), k ≤ e → e < k + f → B e = 0 → (∀ j, k ≤ j → j < e → B j ≠ 0) → q_z B f k = e := by
  intro f
  induction f with
  | zero => intro k e h1 h2; omega
  | succ f ih =>
    intro k e h1 h2 h3 h4
    unfold q_z
    by_cases h : k = e
    · rw [if_pos (by rw [h]; exact h3)]; exact h
    · rw [if_neg (h4 k (by omega) (by omega))]
      exact ih (k + 1) e (by omega) (by omega) h3 (fun j h5 h6 => h4 j (by omega) h6)
theorem q_z_is {B : Nat → Nat} : ∀ (f k e : Nat), k ≤ e → e < k + f → B e = 0 → k ≤ q_z B f k ∧ q_z B f k ≤ e ∧ B (q_z B f k) = 0 ∧ ∀ j, k ≤ j → j < q_z B f k → B j ≠ 0 := by
  intro f
  induction f with
  | zero => intro k e h1 h2; omega
  | succ f ih =>
    intro k e h1 h2 h3
    unfold q_z
    by_cases h : B k = 0
    · rw [if_pos h]
      exact ⟨Nat.le_refl _, h1, h, fun j h5 h6 => by omega⟩
    · rw [if_neg h]
      have hke : k ≠ e := fun q => h (by rw [q]; exact h3)
      obtain ⟨a1, a2, a3, a4⟩ := ih (k + 1) e (by omega) (by omega) h3
      refine ⟨by omega, a2, a3, fun j h5 h6 => ?_⟩
      by_cases hj : j = k
      · rw [hj]; exact h
      · exact a4 j (by omega) h6
/-- bytes of a row: below 256, none behind n -/
def q_row (B : Nat → Nat) (n : Nat) : Prop := n ≤ 2000 ∧ (∀ j, B j < 256) ∧ ∀ j, n ≤ j → B j = 0
/-- where the name of the element at p ends -/
def q_ne (B : Nat → Nat) (p : Nat) : Nat := q_z B 2002 (p + 1)
theorem q_ne_is {B : Nat → Nat} {n p : Nat} (hr : q_row B n) (hp : p ≤ 2000) : p + 1 ≤ q_ne B p ∧ B (q_ne B p) = 0 ∧ ∀ j, p + 1 ≤ j → j < q_ne B p → B j ≠ 0 := by
  obtain ⟨a1, -, a3, a4⟩ := q_z_is 2002 (p + 1) (max n (p + 1)) (by omega) (by have := hr.1; omega) (hr.2.2 _ (by omega))
  exact ⟨a1, a3, a4⟩
theorem q_ne_le {B : Nat → Nat} {n p : Nat} (hr : q_row B n) (hp : p + 1 ≤ n) : q_ne B p ≤ n := (q_z_is 2002 (p + 1) n hp (by have := hr.1; omega) (hr.2.2 n (Nat.le_refl _))).2.1
end
section
/-! DOCUMENTS: bytes B of a row, elements by their places -/
def q_sz (B : Nat → Nat) (v : Nat) : Nat := B v + 256 * B (v + 1) + 65536 * B (v + 2) + 16777216 * B (v + 3)
theorem q_w_sz (B : Nat → Nat) (v : Nat) : q_w B v = nI (q_sz B v) := rfl
def q_val (B : Nat → Nat) (p : Nat) : Nat := q_ne B p + 1
def q_ln (B : Nat → Nat) (kd k : Nat) : Nat := if kd = 16 then 4 else if kd = 18 then 8 else if kd = 8 then 1 else if kd = 2 then 4 + q_sz B k else if kd = 3 ∨ kd = 4 then q_sz B k else 0
def q_next (B : Nat → Nat) (p : Nat) : Nat := q_val B p + q_ln B (B p) (q_val B p)
/-- the last byte of the box at v -/
def q_last (B : Nat → Nat) (v : Nat) : Nat := v + q_sz B v - 1
theorem q_beh_ln (R : Nat → Nat) (kd k : Nat) : q_beh R kd k = nI (k + q_ln R kd k) := by
  unfold q_beh q_ln
  split
  · rfl
  · split
    · rfl
    · split
      · rfl
      · split
        · rw [q_w_sz, nI_add, Nat.add_assoc]
        · split
          · rw [q_w_sz, nI_add]
          · rfl
/-- the names of two elements are the same -/
def q_same (B : Nat → Nat) (x : Nat) (C : Nat → Nat) (y : Nat) : Bool := decide (q_bytes (fun i => B (x + 1 + i)) (q_ne B x - (x + 1)) (fun i => C (y + 1 + i)) (q_ne C y - (y + 1)) = 0)
def q_nm (B : Nat → Nat) (row : Bool) (prev : List Nat) (p : Nat) : Bool := if row = true then q_dec B (p + 1) (q_ne B p + 1) (q_ne B p) prev.length else prev.all (fun x => !q_same B x B p)
def q_vok (vb : Nat → Nat → Bool → Bool) (B : Nat → Nat) (p last : Nat) : Bool :=
  if B p = 16 then decide (q_val B p + 4 ≤ last) else if B p = 18 then decide (q_val B p + 8 ≤ last) else if B p = 8 then decide (q_val B p + 1 ≤ last) && decide (B (q_val B p) < 2)
  else if B p = 2 then decide (1 ≤ q_sz B (q_val B p)) && decide (q_val B p + 4 + q_sz B (q_val B p) ≤ last) && decide (B (q_val B p + 3 + q_sz B (q_val B p)) = 0)
  else if B p = 10 then true else if B p = 3 then vb (q_val B p) last false else if B p = 4 then vb (q_val B p) last true else false
def q_el (u : Nat → Bool) (vb : Nat → Nat → Bool → Bool) (B : Nat → Nat) (row : Bool) (last : Nat) (prev : List Nat) (p : Nat) : Bool := decide (q_ne B p < last) && q_nm B row prev p && q_vok vb B p last && u p
/-- the elements from p on, behind those of prev -/
def q_ch (u : Nat → Bool) (vb : Nat → Nat → Bool → Bool) (B : Nat → Nat) (row : Bool) (last : Nat) : Nat → List Nat → Nat → Bool
  | 0, _, _ => false
  | f + 1, prev, p => if p < last then q_el u vb B row last prev p && q_ch u vb B row last f (prev ++ [p]) (q_next B p) else decide (p = last)
def q_box (u : Nat → Bool) (B : Nat → Nat) : Nat → Nat → Nat → Bool → Bool
  | 0, _, _, _ => false
  | k + 1, v, stop, row => decide (v + 5 ≤ stop) && decide (5 ≤ q_sz B v) && decide (v + q_sz B v ≤ stop) && decide (B (q_last B v) = 0) && q_ch u (q_box u B k) B row (q_last B v) 2001 [] (v + 4)
/-- names and texts are right UTF-8 -/
def q_u8 (B : Nat → Nat) (p : Nat) : Bool := q_utf B (q_ne B p) (q_ne B p - (p + 1)) (p + 1) && (if B p = 2 then q_utf B (q_val B p + 3 + q_sz B (q_val B p)) (q_val B p + 3 + q_sz B (q_val B p) - (q_val B p + 4)) (q_val B p + 4) else true)
def q_doc (B : Nat → Nat) (n : Nat) : Bool := decide (q_sz B 0 = n) && q_box (q_u8 B) B 16 0 n false
/-! decimal digits, from their beginning on -/
def q_fw (B : Nat → Nat) : Nat → Nat → Nat → Option Nat
  | 0, _, v => some v
  | k + 1, i, v => if B i < 48 ∨ 57 < B i ∨ 1000 < v then none else q_fw B k (i + 1) (10 * v + B i - 48)
theorem q_fw_snoc (B : Nat → Nat) : ∀ k i v, q_fw B (k + 1) i v = (q_fw B k i v).bind (fun w => if B (i + k) < 48 ∨ 57 < B (i + k) ∨ 1000 < w then none else some (10 * w + B (i + k) - 48)) := by
  intro k
  induction k with
  | zero =>
    intro i v
    unfold q_fw
    rfl
  | succ k ih =>
    intro i v
    rw [q_fw]
    by_cases h : B i < 48 ∨ 57 < B i ∨ 1000 < v
    · rw [if_pos h]
      conv => rhs; rw [q_fw, if_pos h]
      rfl
    · rw [if_neg h, ih]
      conv => rhs; rw [q_fw, if_neg h]
      rw [show i + 1 + k = i + (k + 1) by omega]
theorem q_fw_le (B : Nat → Nat) : ∀ k i v w, q_fw B k i v = some w → v ≤ w ∧ (v = 0 → w = 0 → ∀ j, i ≤ j → j < i + k → B j = 48) := by
  intro k
  induction k with
  | zero =>
    intro i v w h
    cases h
    exact ⟨Nat.le_refl _, fun _ _ j h1 h2 => by omega⟩
  | succ k ih =>
    intro i v w h
    rw [q_fw] at h
    split at h
    · cases h
    · rename_i hc
      obtain ⟨a1, a2⟩ := ih _ _ _ h
      refine ⟨by omega, fun hv hw j h1 h2 => ?_⟩
      by_cases hj : j = i
      · rw [hj]; omega
      · exact a2 (by omega) hw j (by omega) (by omega)
/-- digits from the end, digits from the beginning -/
theorem q_dec_fw (B : Nat → Nat) (fr : Nat) : ∀ (len f num : Nat), len < f → num ≤ 1000 → q_dec B fr f (fr + len) num = (match q_fw B len fr 0 with
    | none => false
    | some v => decide (0 < len) && decide (v = num) && (decide (len = 1) || !decide (B fr = 48))) := by
  intro len
  induction len with
  | zero =>
    intro f num hf hn
    obtain ⟨g, rfl⟩ : ∃ g, f = g + 1 := ⟨f - 1, by omega⟩
    unfold q_dec
    rw [if_pos (by omega)]
    rfl
  | succ len ih =>
    intro f num hf hn
    obtain ⟨g, rfl⟩ : ∃ g, f = g + 1 := ⟨f - 1, by omega⟩
    unfold q_dec
    rw [if_neg (by omega), q_fw_snoc, show fr + (len + 1) - 1 = fr + len by omega, decide_eq_true (show 0 < len + 1 by omega)]
    have hih := ih g (num / 10) (by omega) (by omega)
    by_cases hd : B (fr + len) < 48 ∨ 57 < B (fr + len)
    · rw [if_neg (by omega)]
      cases hq : q_fw B len fr 0 with
      | none => rfl
      | some w =>
        rw [Option.bind_some, if_pos (by omega)]
    · by_cases he : B (fr + len) = 48 + num % 10
      · rw [if_pos he]
        by_cases h0 : 0 < num / 10
        · rw [if_pos h0, hih]
          cases hq : q_fw B len fr 0 with
          | none => rfl
          | some w =>
            rw [Option.bind_some]
            by_cases hw : w = num / 10
            · rw [if_neg (by omega)]
              simp only [Bool.true_and]
              have hl : 0 < len := by
                by_cases hl : 0 < len
                · exact hl
                · have : len = 0 := by omega
                  subst this
                  cases hq
                  omega
              rw [decide_eq_true hl, decide_eq_true hw, decide_eq_true (show 10 * w + B (fr + len) - 48 = num by omega), decide_eq_false (show ¬ len + 1 = 1 by omega)]
              by_cases h1 : len = 1
              · subst h1
                rw [decide_eq_true rfl]
                have h48 : ¬ B fr = 48 := by
                  intro q
                  rw [q_fw, q_fw] at hq
                  rw [q] at hq
                  simp at hq
                  omega
                rw [decide_eq_false h48]
                rfl
              · rw [decide_eq_false h1]
                rfl
            · show (decide (0 < len) && decide (w = num / 10) && _) = _
              rw [decide_eq_false hw, Bool.and_false, Bool.false_and]
              by_cases hw2 : B (fr + len) < 48 ∨ 57 < B (fr + len) ∨ 1000 < w
              · rw [if_pos hw2]
              · rw [if_neg hw2]
                simp only [Bool.true_and]
                rw [decide_eq_false (show ¬ 10 * w + B (fr + len) - 48 = num by omega), Bool.false_and]
        · rw [if_neg h0]
          cases hq : q_fw B len fr 0 with
          | none =>
            by_cases hl : len = 0
            · subst hl
              cases hq
            · rw [decide_eq_false (by omega)]
              rfl
          | some w =>
            rw [Option.bind_some]
            by_cases hl : len = 0
            · subst hl
              cases hq
              rw [if_neg (by omega), decide_eq_true (show fr + 0 = fr from rfl)]
              simp only [Bool.true_and]
              rw [decide_eq_true (show 10 * 0 + B (fr + 0) - 48 = num by omega)]
              rfl
            · rw [decide_eq_false (show ¬ fr + len = fr by omega)]
              by_cases hw2 : B (fr + len) < 48 ∨ 57 < B (fr + len) ∨ 1000 < w
              · rw [if_pos hw2]
              · rw [if_neg hw2]
                simp only [Bool.true_and]
                by_cases hw : 10 * w + B (fr + len) - 48 = num
                · have hw0 : w = 0 := by omega
                  have h48 := (q_fw_le B len fr 0 w hq).2 rfl hw0 fr (by omega) (by omega)
                  rw [decide_eq_true hw, decide_eq_false (show ¬ len + 1 = 1 by omega), decide_eq_true h48]
                  rfl
                · rw [decide_eq_false hw, Bool.false_and]
      · rw [if_neg he]
        cases hq : q_fw B len fr 0 with
        | none => rfl
        | some w =>
          rw [Option.bind_some]
          by_cases hw2 : B (fr + len) < 48 ∨ 57 < B (fr + len) ∨ 1000 < w
          · rw [if_pos hw2]
          · rw [if_neg hw2]
            simp only [Bool.true_and]
            rw [decide_eq_false (show ¬ 10 * w + B (fr + len) - 48 = num by omega), Bool.false_and]
end
section
/-! THE REFERENCE: is it a document -/
theorem nI_neg {x : Nat} (h1 : 2 ^ 31 ≤ x) (h2 : x < 2 ^ 32) : nI x < 0 := by
  rw [Int32.lt_iff_toInt_lt]
  have e : (nI x).toInt = (x : Int) - 2 ^ 32 := by
    show (BitVec.ofNat 32 x).toInt = _
    rw [BitVec.toInt_ofNat', Int.bmod_def]
    omega
  rw [e]
  show (x : Int) - 2 ^ 32 < 0
  omega
section BIG
variable {E : mmE} {d m pc idx : Nat} {is : List mmI} {L S : List Value} {h : mmH} {Q : Option Value → mmH → Prop} {ex : List Nat} {off : Int} {x y : Nat}
theorem gn_lt (h1 : 2 ^ 31 ≤ x) (h2 : x < 2 ^ 32) (hy : y < 2 ^ 31) (hg : mm_Go E d m (mm_blk m (mm_k0 ex)) L S h Q) : mm_Go E d m ((pc, .if_icmp .lt off, ex) :: is) L (.int (nI y) :: .int (nI x) :: S) h Q :=
  go_br (c := decide (nI x < nI y)) rfl (fun _ => hg) (fun c => absurd (by
    have h3 := nI_neg h1 h2
    have h4 := nI_pos' hy
    exact Int32.lt_of_lt_of_le h3 h4) (of_decide_eq_false c))
theorem gn_zle (h1 : 2 ^ 31 ≤ x) (h2 : x < 2 ^ 32) (hg : mm_Go E d m (mm_blk m (mm_k0 ex)) L S h Q) : mm_Go E d m ((pc, .ifCond .le off, ex) :: is) L (.int (nI x) :: S) h Q :=
  go_br (c := decide (nI x ≤ 0)) rfl (fun _ => hg) (fun c => absurd (Int32.le_of_lt (nI_neg h1 h2)) (of_decide_eq_false c))
end BIG
/-- the n bytes of B stand in the store from b on -/
def mW (R : Nat → Nat) (b n : Nat) (B : Nat → Nat) : Prop := (∀ j, j < n → R (b + j) = B j) ∧ b + n ≤ 22000 ∧ q_row B n
/-- an element that lies within the first n bytes -/
def q_ok (B : Nat → Nat) (n x : Nat) : Prop := x < n ∧ q_ne B x < n ∧ q_next B x ≤ n ∧ (B x = 3 ∨ B x = 4 → 5 ≤ q_sz B (q_val B x))
theorem q_sz_lt {B : Nat → Nat} (hB : ∀ j, B j < 256) (v : Nat) : q_sz B v < 2 ^ 32 := by
  unfold q_sz
  have h0 := hB v
  have h1 := hB (v + 1)
  have h2 := hB (v + 2)
  have h3 := hB (v + 3)
  omega
theorem mW_sz {R B : Nat → Nat} {b n v : Nat} (hw : mW R b n B) (hv : v + 4 ≤ n) : q_sz R (b + v) = q_sz B v := by
  unfold q_sz
  rw [Nat.add_assoc b v 1, Nat.add_assoc b v 2, Nat.add_assoc b v 3, hw.1 v (by omega), hw.1 (v + 1) (by omega), hw.1 (v + 2) (by omega), hw.1 (v + 3) (by omega)]
section M
variable {E : mmE} {d : Nat} {h : mmH} {Q : Option Value → mmH → Prop} {o st b n : Nat} {R B : Nat → Nat}
theorem sp_mat2 {x : Nat} (hm : mSt h o st R) (hw : mW R b n B) (hx : x < n) (hq : Q (some (.int (nI (B x)))) h) : mm_Go E d 114 (mm_blk 114 0) [.ref o, .int (nI (b + x))] [] h Q := by
  have := hw.2.1
  refine sp_mat hm (by omega) ?_
  rw [hw.1 x hx]
  exact hq
theorem sp_mwh {v : Nat} (hd : 1 ≤ d) (hm : mSt h o st R) (hw : mW R b n B) (hv : v + 4 ≤ n) (hq : Q (some (.int (nI (q_sz B v)))) h) : mm_Go E d 118 (mm_blk 118 0) [.ref o, .int (nI (b + v))] [] h Q := by
  have := hw.2.1
  refine sp_whole hd hm (by omega) ?_
  rw [q_w_sz, mW_sz hw hv]
  exact hq
theorem sp_mne {x : Nat} (hm : mSt h o st R) (hw : mW R b n B) (hx : q_ne B x < n) (hq : Q (some (.int (nI (b + q_ne B x)))) h) : mm_Go E d 124 (mm_blk 124 0) [.ref o, .int (nI (b + x + 1)), mm_un] [] h Q := by
  have h2 := hw.2.1
  have h3 := hw.2.2.1
  have hx0 : x ≤ 2000 := by
    by_cases hx0 : x ≤ 2000
    · exact hx0
    · have : x + 1 ≤ q_ne B x := by
        have hz := (q_z_is (B := B) 2002 (x + 1) (x + 1) (Nat.le_refl _) (by omega) (hw.2.2.2.2 _ (by omega))).1
        exact hz
      omega
  obtain ⟨a1, a2, a3⟩ := q_ne_is hw.2.2 hx0
  refine sp_nameEnd hm (by omega) (by omega) (by rw [hw.1 _ hx]; exact a2) (fun j h4 h5 => ?_) hq
  rw [show j = b + (j - b) by omega, hw.1 _ (by omega)]
  exact a3 _ (by omega) (by omega)
theorem sp_mval {x : Nat} (hd : 1 ≤ d) (hm : mSt h o st R) (hw : mW R b n B) (hx : q_ne B x < n) (hq : Q (some (.int (nI (b + q_val B x)))) h) : mm_Go E d 123 (mm_blk 123 0) [.ref o, .int (nI (b + x))] [] h Q := by
  repeat (first | refine gi_con ?_ | refine gi_bip (Nat.le_of_ble_eq_true rfl) ?_ | refine gi_sip (Nat.le_of_ble_eq_true rfl) ?_ | refine gi_ldc ?_ | refine gi_add ?_ | refine gi_inc rfl ?_ | refine gi_sub (by omega) ?_ | refine gi_mul ?_ | refine go_nx rfl ?_)
  refine go_step ?_
  refine g_callV (by decide) (by decide) (Nat.le_of_ble_eq_true rfl) (Nat.le_of_ble_eq_true rfl) (mSt_rcv hm) (by omega) (Nat.le_of_ble_eq_true rfl) rfl ?_
  refine sp_mne hm hw hx ?_
  repeat (first | refine gi_con ?_ | refine gi_bip (Nat.le_of_ble_eq_true rfl) ?_ | refine gi_sip (Nat.le_of_ble_eq_true rfl) ?_ | refine gi_ldc ?_ | refine gi_add ?_ | refine gi_inc rfl ?_ | refine gi_sub (by omega) ?_ | refine gi_mul ?_ | refine go_nx rfl ?_)
  refine go_rt rfl ?_
  exact hq
theorem sp_mbeh {x k : Nat} (hd : 2 ≤ d) (hm : mSt h o st R) (hw : mW R b n B) (hx : B x < 256) (hk : k ≤ n) (hs : B x = 2 ∨ B x = 3 ∨ B x = 4 → k + 4 ≤ n) (hq : Q (some (.int (nI (b + k + q_ln B (B x) k)))) h) : mm_Go E d 125 (mm_blk 125 0) [.ref o, .int (nI (B x)), .int (nI (b + k))] [] h Q := by
  have h2 := hw.2.1
  refine sp_behind hd hm hx (by omega) ?_
  rw [q_beh_ln]
  have e : q_ln R (B x) (b + k) = q_ln B (B x) k := by
    unfold q_ln
    by_cases h4 : B x = 2 ∨ B x = 3 ∨ B x = 4
    · rw [mW_sz hw (hs h4)]
    · rw [if_neg (fun q => h4 (Or.inl q)), if_neg (fun q => h4 (Or.inr q)), if_neg (fun q => h4 (Or.inl q)), if_neg (fun q => h4 (Or.inr q))]
  rw [e]
  exact hq
theorem q_ok_in {x : Nat} (hr : q_row B n) (hx : q_ok B n x) : x + 2 ≤ q_val B x ∧ q_val B x ≤ q_next B x ∧ (B x = 2 ∨ B x = 3 ∨ B x = 4 → q_val B x + 4 ≤ n) := by
  obtain ⟨h1, h2, h3, h4⟩ := hx
  have h5 := (q_ne_is hr (show x ≤ 2000 by have := hr.1; omega)).1
  refine ⟨by unfold q_val; omega, by unfold q_next; omega, fun q => ?_⟩
  unfold q_next q_ln at h3
  rcases q with q | q
  · rw [if_neg (by omega), if_neg (by omega), if_neg (by omega), if_pos q] at h3
    omega
  · have h6 := h4 q
    rw [if_neg (by omega), if_neg (by omega), if_neg (by omega), if_neg (by omega), if_pos q] at h3
    omega
theorem sp_mnext {x : Nat} (hd : 3 ≤ d) (hm : mSt h o st R) (hw : mW R b n B) (hx : q_ok B n x) (hq : Q (some (.int (nI (b + q_next B x)))) h) : mm_Go E d 122 (mm_blk 122 0) [.ref o, .int (nI (b + x))] [] h Q := by
  obtain ⟨i1, i2, i3⟩ := q_ok_in hw.2.2 hx
  obtain ⟨h1, h2, h3, h4⟩ := hx
  repeat (first | refine gi_con ?_ | refine gi_bip (Nat.le_of_ble_eq_true rfl) ?_ | refine gi_sip (Nat.le_of_ble_eq_true rfl) ?_ | refine gi_ldc ?_ | refine gi_add ?_ | refine gi_inc rfl ?_ | refine gi_sub (by omega) ?_ | refine gi_mul ?_ | refine go_nx rfl ?_)
  refine go_step ?_
  refine g_callV (by decide) (by decide) (Nat.le_of_ble_eq_true rfl) (Nat.le_of_ble_eq_true rfl) (mSt_rcv hm) (by omega) (Nat.le_of_ble_eq_true rfl) rfl ?_
  refine sp_mat2 hm hw h1 ?_
  repeat (first | refine gi_con ?_ | refine gi_bip (Nat.le_of_ble_eq_true rfl) ?_ | refine gi_sip (Nat.le_of_ble_eq_true rfl) ?_ | refine gi_ldc ?_ | refine gi_add ?_ | refine gi_inc rfl ?_ | refine gi_sub (by omega) ?_ | refine gi_mul ?_ | refine go_nx rfl ?_)
  refine go_step ?_
  refine g_callV (by decide) (by decide) (Nat.le_of_ble_eq_true rfl) (Nat.le_of_ble_eq_true rfl) (mSt_rcv hm) (by omega) (Nat.le_of_ble_eq_true rfl) rfl ?_
  refine sp_mval (by omega) hm hw h2 ?_
  repeat (first | refine gi_con ?_ | refine gi_bip (Nat.le_of_ble_eq_true rfl) ?_ | refine gi_sip (Nat.le_of_ble_eq_true rfl) ?_ | refine gi_ldc ?_ | refine gi_add ?_ | refine gi_inc rfl ?_ | refine gi_sub (by omega) ?_ | refine gi_mul ?_ | refine go_nx rfl ?_)
  refine go_step ?_
  refine g_callV (by decide) (by decide) (Nat.le_of_ble_eq_true rfl) (Nat.le_of_ble_eq_true rfl) (mSt_rcv hm) (by omega) (Nat.le_of_ble_eq_true rfl) rfl ?_
  refine sp_mbeh (by omega) hm hw (hw.2.2.2.1 x) (by omega) i3 ?_
  repeat (first | refine gi_con ?_ | refine gi_bip (Nat.le_of_ble_eq_true rfl) ?_ | refine gi_sip (Nat.le_of_ble_eq_true rfl) ?_ | refine gi_ldc ?_ | refine gi_add ?_ | refine gi_inc rfl ?_ | refine gi_sub (by omega) ?_ | refine gi_mul ?_ | refine go_nx rfl ?_)
  refine go_rt rfl ?_
  rw [Nat.add_assoc]
  exact hq
theorem sp_mlast {v : Nat} (hd : 2 ≤ d) (hm : mSt h o st R) (hw : mW R b n B) (hv : v + 4 ≤ n) (hs : 1 ≤ q_sz B v) (hq : Q (some (.int (nI (b + q_last B v)))) h) : mm_Go E d 128 (mm_blk 128 0) [.ref o, .int (nI (b + v))] [] h Q := by
  repeat (first | refine gi_con ?_ | refine gi_bip (Nat.le_of_ble_eq_true rfl) ?_ | refine gi_sip (Nat.le_of_ble_eq_true rfl) ?_ | refine gi_ldc ?_ | refine gi_add ?_ | refine gi_inc rfl ?_ | refine gi_sub (by omega) ?_ | refine gi_mul ?_ | refine go_nx rfl ?_)
  refine go_step ?_
  refine g_callV (by decide) (by decide) (Nat.le_of_ble_eq_true rfl) (Nat.le_of_ble_eq_true rfl) (mSt_rcv hm) (by omega) (Nat.le_of_ble_eq_true rfl) rfl ?_
  refine sp_mwh (by omega) hm hw hv ?_
  repeat (first | refine gi_con ?_ | refine gi_bip (Nat.le_of_ble_eq_true rfl) ?_ | refine gi_sip (Nat.le_of_ble_eq_true rfl) ?_ | refine gi_ldc ?_ | refine gi_add ?_ | refine gi_inc rfl ?_ | refine gi_sub (by omega) ?_ | refine gi_mul ?_ | refine go_nx rfl ?_)
  refine go_rt rfl ?_
  unfold q_last at hq
  rw [show b + v + q_sz B v - 1 = b + (v + q_sz B v - 1) by omega]
  exact hq
/-- the places from x to p -/
def q_run (B : Nat → Nat) (p : Nat) : Nat → List Nat → Prop
  | x, [] => x = p
  | x, y :: l => y = x ∧ q_run B p (q_next B x) l
theorem q_run_snoc {p : Nat} : ∀ {l : List Nat} {x : Nat}, q_run B p x l → q_run B (q_next B p) x (l ++ [p]) := by
  intro l
  induction l with
  | nil =>
    intro x hx
    cases hx
    exact ⟨rfl, rfl⟩
  | cons y l ih =>
    intro x hx
    exact ⟨hx.1, ih hx.2⟩
theorem sp_misname {v p : Nat} {row : Bool} {prev : List Nat} (hd : 4 ≤ d) (hm : mSt h o st R) (hw : mW R b n B) (hp : p < n) (hne : q_ne B p < n) (hrun : q_run B p (v + 4) prev) (hprev : ∀ x ∈ prev, q_ok B n x ∧ x < p) (hmany : prev.length ≤ 1000) (hq : Q (some (.int (q_t (q_nm B row prev p)))) h) : mm_Go E d 120 (mm_blk 120 0) [.ref o, .int (nI (b + v)), .int (nI (b + p)), .int (nI (b + q_ne B p)), .int (q_t row), .int (nI prev.length), mm_un, mm_un] [] h Q := by
  have w2 := hw.2.1
  have hrn := hw.2.2.1
  have hnp := q_ne_is hw.2.2 (show p ≤ 2000 by omega)
  unfold q_nm at hq
  repeat (first | refine gi_con ?_ | refine gi_bip (Nat.le_of_ble_eq_true rfl) ?_ | refine gi_sip (Nat.le_of_ble_eq_true rfl) ?_ | refine gi_ldc ?_ | refine gi_add ?_ | refine gi_inc rfl ?_ | refine gi_sub (by omega) ?_ | refine gi_mul ?_ | refine go_nx rfl ?_)
  first | refine gt_eq (fun c => ?_) (fun c => ?_) | refine gt_ne (fun c => ?_) (fun c => ?_)
  · rw [if_pos c] at hq
    obtain ⟨len, hlen⟩ : ∃ len, q_ne B p = p + 1 + len := ⟨q_ne B p - (p + 1), by omega⟩
    rw [hlen, q_dec_fw B (p + 1) len _ _ (by omega) hmany] at hq
    have loop : ∀ (k i v6 : Nat), k + i = len → v6 ≤ 100000 → (q_fw B len (p + 1) 0 = q_fw B k (p + 1 + i) v6) → mm_Go E d 120 (mm_blk 120 5) [.ref o, .int (nI (b + v)), .int (nI (b + p)), .int (nI (b + q_ne B p)), .int (q_t row), .int (nI prev.length), .int (nI v6), .int (nI (b + (p + 1 + i)))] [] h Q := by
      intro k
      induction k with
      | zero =>
        intro i v6 hk hv6 hf
        rw [hf] at hq
        have hq : Q (some (.int (q_t (decide (0 < len) && decide (v6 = prev.length) && (decide (len = 1) || !decide (B (p + 1) = 48)))))) h := hq
        have ten : (decide (0 < len) && decide (v6 = prev.length) && (decide (len = 1) || !decide (B (p + 1) = 48))) = false → mm_Go E d 120 (mm_blk 120 10) [.ref o, .int (nI (b + v)), .int (nI (b + p)), .int (nI (b + q_ne B p)), .int (q_t row), .int (nI prev.length), .int (nI v6), .int (nI (b + (p + 1 + i)))] [] h Q := by
          intro e
          rw [e] at hq
          repeat (first | refine gi_con ?_ | refine gi_bip (Nat.le_of_ble_eq_true rfl) ?_ | refine gi_sip (Nat.le_of_ble_eq_true rfl) ?_ | refine gi_ldc ?_ | refine gi_add ?_ | refine gi_inc rfl ?_ | refine gi_sub (by omega) ?_ | refine gi_mul ?_ | refine go_nx rfl ?_)
          refine go_jp rfl ?_
          refine go_rt rfl ?_
          exact hq
        have nine : (decide (0 < len) && decide (v6 = prev.length) && (decide (len = 1) || !decide (B (p + 1) = 48))) = true → mm_Go E d 120 (mm_blk 120 9) [.ref o, .int (nI (b + v)), .int (nI (b + p)), .int (nI (b + q_ne B p)), .int (q_t row), .int (nI prev.length), .int (nI v6), .int (nI (b + (p + 1 + i)))] [] h Q := by
          intro e
          rw [e] at hq
          repeat (first | refine gi_con ?_ | refine gi_bip (Nat.le_of_ble_eq_true rfl) ?_ | refine gi_sip (Nat.le_of_ble_eq_true rfl) ?_ | refine gi_ldc ?_ | refine gi_add ?_ | refine gi_inc rfl ?_ | refine gi_sub (by omega) ?_ | refine gi_mul ?_ | refine go_nx rfl ?_)
          refine go_jp rfl ?_
          refine go_rt rfl ?_
          exact hq
        repeat (first | refine gi_con ?_ | refine gi_bip (Nat.le_of_ble_eq_true rfl) ?_ | refine gi_sip (Nat.le_of_ble_eq_true rfl) ?_ | refine gi_ldc ?_ | refine gi_add ?_ | refine gi_inc rfl ?_ | refine gi_sub (by omega) ?_ | refine gi_mul ?_ | refine go_nx rfl ?_)
        first | refine gb_lt (by omega) (by omega) (fun c1 => ?_) (fun c1 => ?_) | refine gb_ge (by omega) (by omega) (fun c1 => ?_) (fun c1 => ?_) | refine gb_gt (by omega) (by omega) (fun c1 => ?_) (fun c1 => ?_) | refine gb_le (by omega) (by omega) (fun c1 => ?_) (fun c1 => ?_) | refine gb_eq (by omega) (by omega) (fun c1 => ?_) (fun c1 => ?_) | refine gb_ne (by omega) (by omega) (fun c1 => ?_) (fun c1 => ?_)
        · repeat (first | refine gi_con ?_ | refine gi_bip (Nat.le_of_ble_eq_true rfl) ?_ | refine gi_sip (Nat.le_of_ble_eq_true rfl) ?_ | refine gi_ldc ?_ | refine gi_add ?_ | refine gi_inc rfl ?_ | refine gi_sub (by omega) ?_ | refine gi_mul ?_ | refine go_nx rfl ?_)
          first | refine gb_lt (by omega) (by omega) (fun c2 => ?_) (fun c2 => ?_) | refine gb_ge (by omega) (by omega) (fun c2 => ?_) (fun c2 => ?_) | refine gb_gt (by omega) (by omega) (fun c2 => ?_) (fun c2 => ?_) | refine gb_le (by omega) (by omega) (fun c2 => ?_) (fun c2 => ?_) | refine gb_eq (by omega) (by omega) (fun c2 => ?_) (fun c2 => ?_) | refine gb_ne (by omega) (by omega) (fun c2 => ?_) (fun c2 => ?_)
          · exact ten (by rw [decide_eq_false (by omega)]; rfl)
          repeat (first | refine gi_con ?_ | refine gi_bip (Nat.le_of_ble_eq_true rfl) ?_ | refine gi_sip (Nat.le_of_ble_eq_true rfl) ?_ | refine gi_ldc ?_ | refine gi_add ?_ | refine gi_inc rfl ?_ | refine gi_sub (by omega) ?_ | refine gi_mul ?_ | refine go_nx rfl ?_)
          first | refine gb_lt (by omega) (by omega) (fun c3 => ?_) (fun c3 => ?_) | refine gb_ge (by omega) (by omega) (fun c3 => ?_) (fun c3 => ?_) | refine gb_gt (by omega) (by omega) (fun c3 => ?_) (fun c3 => ?_) | refine gb_le (by omega) (by omega) (fun c3 => ?_) (fun c3 => ?_) | refine gb_eq (by omega) (by omega) (fun c3 => ?_) (fun c3 => ?_) | refine gb_ne (by omega) (by omega) (fun c3 => ?_) (fun c3 => ?_)
          · exact ten (by rw [decide_eq_false (show ¬ v6 = prev.length from c3), Bool.and_false]; rfl)
          repeat (first | refine gi_con ?_ | refine gi_bip (Nat.le_of_ble_eq_true rfl) ?_ | refine gi_sip (Nat.le_of_ble_eq_true rfl) ?_ | refine gi_ldc ?_ | refine gi_add ?_ | refine gi_inc rfl ?_ | refine gi_sub (by omega) ?_ | refine gi_mul ?_ | refine go_nx rfl ?_)
          first | refine gb_lt (by omega) (by omega) (fun c4 => ?_) (fun c4 => ?_) | refine gb_ge (by omega) (by omega) (fun c4 => ?_) (fun c4 => ?_) | refine gb_gt (by omega) (by omega) (fun c4 => ?_) (fun c4 => ?_) | refine gb_le (by omega) (by omega) (fun c4 => ?_) (fun c4 => ?_) | refine gb_eq (by omega) (by omega) (fun c4 => ?_) (fun c4 => ?_) | refine gb_ne (by omega) (by omega) (fun c4 => ?_) (fun c4 => ?_)
          · exact nine (by rw [decide_eq_true (by omega), decide_eq_true (show v6 = prev.length from c3), decide_eq_true (show len = 1 by omega)]; rfl)
          repeat (first | refine gi_con ?_ | refine gi_bip (Nat.le_of_ble_eq_true rfl) ?_ | refine gi_sip (Nat.le_of_ble_eq_true rfl) ?_ | refine gi_ldc ?_ | refine gi_add ?_ | refine gi_inc rfl ?_ | refine gi_sub (by omega) ?_ | refine gi_mul ?_ | refine go_nx rfl ?_)
          refine go_step ?_
          refine g_callV (by decide) (by decide) (Nat.le_of_ble_eq_true rfl) (Nat.le_of_ble_eq_true rfl) (mSt_rcv hm) (by omega) (Nat.le_of_ble_eq_true rfl) rfl ?_
          rw [Nat.add_assoc]
          refine sp_mat2 hm hw (by omega) ?_
          have := hw.2.2.2.1 (p + 1)
          repeat (first | refine gi_con ?_ | refine gi_bip (Nat.le_of_ble_eq_true rfl) ?_ | refine gi_sip (Nat.le_of_ble_eq_true rfl) ?_ | refine gi_ldc ?_ | refine gi_add ?_ | refine gi_inc rfl ?_ | refine gi_sub (by omega) ?_ | refine gi_mul ?_ | refine go_nx rfl ?_)
          first | refine gb_lt (by omega) (by omega) (fun c5 => ?_) (fun c5 => ?_) | refine gb_ge (by omega) (by omega) (fun c5 => ?_) (fun c5 => ?_) | refine gb_gt (by omega) (by omega) (fun c5 => ?_) (fun c5 => ?_) | refine gb_le (by omega) (by omega) (fun c5 => ?_) (fun c5 => ?_) | refine gb_eq (by omega) (by omega) (fun c5 => ?_) (fun c5 => ?_) | refine gb_ne (by omega) (by omega) (fun c5 => ?_) (fun c5 => ?_)
          · exact ten (by rw [decide_eq_false (show ¬ len = 1 by omega), decide_eq_true c5]; simp)
          refine go_jp rfl ?_
          exact nine (by rw [decide_eq_true (by omega), decide_eq_true (show v6 = prev.length from c3), decide_eq_false c5]; simp)
        · omega
      | succ k ih =>
        intro i v6 hk hv6 hf
        rw [q_fw] at hf
        have hB := hw.2.2.2.1 (p + 1 + i)
        have six : (B (p + 1 + i) < 48 ∨ 57 < B (p + 1 + i) ∨ 1000 < v6) → mm_Go E d 120 (mm_blk 120 6) [.ref o, .int (nI (b + v)), .int (nI (b + p)), .int (nI (b + q_ne B p)), .int (q_t row), .int (nI prev.length), .int (nI v6), .int (nI (b + (p + 1 + i)))] [] h Q := by
          intro e
          rw [if_pos e] at hf
          rw [hf] at hq
          repeat (first | refine gi_con ?_ | refine gi_bip (Nat.le_of_ble_eq_true rfl) ?_ | refine gi_sip (Nat.le_of_ble_eq_true rfl) ?_ | refine gi_ldc ?_ | refine gi_add ?_ | refine gi_inc rfl ?_ | refine gi_sub (by omega) ?_ | refine gi_mul ?_ | refine go_nx rfl ?_)
          refine go_rt rfl ?_
          exact hq
        repeat (first | refine gi_con ?_ | refine gi_bip (Nat.le_of_ble_eq_true rfl) ?_ | refine gi_sip (Nat.le_of_ble_eq_true rfl) ?_ | refine gi_ldc ?_ | refine gi_add ?_ | refine gi_inc rfl ?_ | refine gi_sub (by omega) ?_ | refine gi_mul ?_ | refine go_nx rfl ?_)
        first | refine gb_lt (by omega) (by omega) (fun c1 => ?_) (fun c1 => ?_) | refine gb_ge (by omega) (by omega) (fun c1 => ?_) (fun c1 => ?_) | refine gb_gt (by omega) (by omega) (fun c1 => ?_) (fun c1 => ?_) | refine gb_le (by omega) (by omega) (fun c1 => ?_) (fun c1 => ?_) | refine gb_eq (by omega) (by omega) (fun c1 => ?_) (fun c1 => ?_) | refine gb_ne (by omega) (by omega) (fun c1 => ?_) (fun c1 => ?_)
        · omega
        repeat (first | refine gi_con ?_ | refine gi_bip (Nat.le_of_ble_eq_true rfl) ?_ | refine gi_sip (Nat.le_of_ble_eq_true rfl) ?_ | refine gi_ldc ?_ | refine gi_add ?_ | refine gi_inc rfl ?_ | refine gi_sub (by omega) ?_ | refine gi_mul ?_ | refine go_nx rfl ?_)
        refine go_step ?_
        refine g_callV (by decide) (by decide) (Nat.le_of_ble_eq_true rfl) (Nat.le_of_ble_eq_true rfl) (mSt_rcv hm) (by omega) (Nat.le_of_ble_eq_true rfl) rfl ?_
        refine sp_mat2 hm hw (by omega) ?_
        repeat (first | refine gi_con ?_ | refine gi_bip (Nat.le_of_ble_eq_true rfl) ?_ | refine gi_sip (Nat.le_of_ble_eq_true rfl) ?_ | refine gi_ldc ?_ | refine gi_add ?_ | refine gi_inc rfl ?_ | refine gi_sub (by omega) ?_ | refine gi_mul ?_ | refine go_nx rfl ?_)
        first | refine gb_lt (by omega) (by omega) (fun c2 => ?_) (fun c2 => ?_) | refine gb_ge (by omega) (by omega) (fun c2 => ?_) (fun c2 => ?_) | refine gb_gt (by omega) (by omega) (fun c2 => ?_) (fun c2 => ?_) | refine gb_le (by omega) (by omega) (fun c2 => ?_) (fun c2 => ?_) | refine gb_eq (by omega) (by omega) (fun c2 => ?_) (fun c2 => ?_) | refine gb_ne (by omega) (by omega) (fun c2 => ?_) (fun c2 => ?_)
        · exact six (by omega)
        repeat (first | refine gi_con ?_ | refine gi_bip (Nat.le_of_ble_eq_true rfl) ?_ | refine gi_sip (Nat.le_of_ble_eq_true rfl) ?_ | refine gi_ldc ?_ | refine gi_add ?_ | refine gi_inc rfl ?_ | refine gi_sub (by omega) ?_ | refine gi_mul ?_ | refine go_nx rfl ?_)
        refine go_step ?_
        refine g_callV (by decide) (by decide) (Nat.le_of_ble_eq_true rfl) (Nat.le_of_ble_eq_true rfl) (mSt_rcv hm) (by omega) (Nat.le_of_ble_eq_true rfl) rfl ?_
        refine sp_mat2 hm hw (by omega) ?_
        repeat (first | refine gi_con ?_ | refine gi_bip (Nat.le_of_ble_eq_true rfl) ?_ | refine gi_sip (Nat.le_of_ble_eq_true rfl) ?_ | refine gi_ldc ?_ | refine gi_add ?_ | refine gi_inc rfl ?_ | refine gi_sub (by omega) ?_ | refine gi_mul ?_ | refine go_nx rfl ?_)
        first | refine gb_lt (by omega) (by omega) (fun c3 => ?_) (fun c3 => ?_) | refine gb_ge (by omega) (by omega) (fun c3 => ?_) (fun c3 => ?_) | refine gb_gt (by omega) (by omega) (fun c3 => ?_) (fun c3 => ?_) | refine gb_le (by omega) (by omega) (fun c3 => ?_) (fun c3 => ?_) | refine gb_eq (by omega) (by omega) (fun c3 => ?_) (fun c3 => ?_) | refine gb_ne (by omega) (by omega) (fun c3 => ?_) (fun c3 => ?_)
        · exact six (by omega)
        repeat (first | refine gi_con ?_ | refine gi_bip (Nat.le_of_ble_eq_true rfl) ?_ | refine gi_sip (Nat.le_of_ble_eq_true rfl) ?_ | refine gi_ldc ?_ | refine gi_add ?_ | refine gi_inc rfl ?_ | refine gi_sub (by omega) ?_ | refine gi_mul ?_ | refine go_nx rfl ?_)
        first | refine gb_lt (by omega) (by omega) (fun c4 => ?_) (fun c4 => ?_) | refine gb_ge (by omega) (by omega) (fun c4 => ?_) (fun c4 => ?_) | refine gb_gt (by omega) (by omega) (fun c4 => ?_) (fun c4 => ?_) | refine gb_le (by omega) (by omega) (fun c4 => ?_) (fun c4 => ?_) | refine gb_eq (by omega) (by omega) (fun c4 => ?_) (fun c4 => ?_) | refine gb_ne (by omega) (by omega) (fun c4 => ?_) (fun c4 => ?_)
        · rw [if_neg (by omega)] at hf
          repeat (first | refine gi_con ?_ | refine gi_bip (Nat.le_of_ble_eq_true rfl) ?_ | refine gi_sip (Nat.le_of_ble_eq_true rfl) ?_ | refine gi_ldc ?_ | refine gi_add ?_ | refine gi_inc rfl ?_ | refine gi_sub (by omega) ?_ | refine gi_mul ?_ | refine go_nx rfl ?_)
          refine go_step ?_
          refine g_callV (by decide) (by decide) (Nat.le_of_ble_eq_true rfl) (Nat.le_of_ble_eq_true rfl) (mSt_rcv hm) (by omega) (Nat.le_of_ble_eq_true rfl) rfl ?_
          refine sp_mat2 hm hw (by omega) ?_
          repeat (first | refine gi_con ?_ | refine gi_bip (Nat.le_of_ble_eq_true rfl) ?_ | refine gi_sip (Nat.le_of_ble_eq_true rfl) ?_ | refine gi_ldc ?_ | refine gi_add ?_ | refine gi_inc rfl ?_ | refine gi_sub (by omega) ?_ | refine gi_mul ?_ | refine go_nx rfl ?_)
          refine go_jp rfl ?_
          exact ih (i + 1) _ (by omega) (by omega) hf
        · refine go_jp rfl ?_
          exact six (by omega)
    repeat (first | refine gi_con ?_ | refine gi_bip (Nat.le_of_ble_eq_true rfl) ?_ | refine gi_sip (Nat.le_of_ble_eq_true rfl) ?_ | refine gi_ldc ?_ | refine gi_add ?_ | refine gi_inc rfl ?_ | refine gi_sub (by omega) ?_ | refine gi_mul ?_ | refine go_nx rfl ?_)
    refine go_jp rfl ?_
    exact loop len 0 0 (by omega) (by omega) rfl
  · rw [c, if_neg (by decide)] at hq
    have loop : ∀ (l : List Nat) (x : Nat) (x7 : Value), q_run B p x l → (∀ y ∈ l, q_ok B n y ∧ y < p) → Q (some (.int (q_t (l.all (fun x => !q_same B x B p))))) h → mm_Go E d 120 (mm_blk 120 1) [.ref o, .int (nI (b + v)), .int (nI (b + p)), .int (nI (b + q_ne B p)), .int (q_t row), .int (nI prev.length), .int (nI (b + x)), x7] [] h Q := by
      intro l
      induction l with
      | nil =>
        intro x x7 hx hl hq
        cases hx
        repeat (first | refine gi_con ?_ | refine gi_bip (Nat.le_of_ble_eq_true rfl) ?_ | refine gi_sip (Nat.le_of_ble_eq_true rfl) ?_ | refine gi_ldc ?_ | refine gi_add ?_ | refine gi_inc rfl ?_ | refine gi_sub (by omega) ?_ | refine gi_mul ?_ | refine go_nx rfl ?_)
        first | refine gb_lt (by omega) (by omega) (fun c1 => ?_) (fun c1 => ?_) | refine gb_ge (by omega) (by omega) (fun c1 => ?_) (fun c1 => ?_) | refine gb_gt (by omega) (by omega) (fun c1 => ?_) (fun c1 => ?_) | refine gb_le (by omega) (by omega) (fun c1 => ?_) (fun c1 => ?_) | refine gb_eq (by omega) (by omega) (fun c1 => ?_) (fun c1 => ?_) | refine gb_ne (by omega) (by omega) (fun c1 => ?_) (fun c1 => ?_)
        · repeat (first | refine gi_con ?_ | refine gi_bip (Nat.le_of_ble_eq_true rfl) ?_ | refine gi_sip (Nat.le_of_ble_eq_true rfl) ?_ | refine gi_ldc ?_ | refine gi_add ?_ | refine gi_inc rfl ?_ | refine gi_sub (by omega) ?_ | refine gi_mul ?_ | refine go_nx rfl ?_)
          refine go_rt rfl ?_
          exact hq
        · omega
      | cons y l ih =>
        intro x x7 hx hl hq
        obtain ⟨hx1, hx2⟩ := hx
        subst hx1
        obtain ⟨hy1, hy2⟩ := hl y List.mem_cons_self
        have hny := q_ne_is hw.2.2 (show y ≤ 2000 by omega)
        have hy3 := hy1.2.1
        rw [List.all_cons] at hq
        repeat (first | refine gi_con ?_ | refine gi_bip (Nat.le_of_ble_eq_true rfl) ?_ | refine gi_sip (Nat.le_of_ble_eq_true rfl) ?_ | refine gi_ldc ?_ | refine gi_add ?_ | refine gi_inc rfl ?_ | refine gi_sub (by omega) ?_ | refine gi_mul ?_ | refine go_nx rfl ?_)
        first | refine gb_lt (by omega) (by omega) (fun c1 => ?_) (fun c1 => ?_) | refine gb_ge (by omega) (by omega) (fun c1 => ?_) (fun c1 => ?_) | refine gb_gt (by omega) (by omega) (fun c1 => ?_) (fun c1 => ?_) | refine gb_le (by omega) (by omega) (fun c1 => ?_) (fun c1 => ?_) | refine gb_eq (by omega) (by omega) (fun c1 => ?_) (fun c1 => ?_) | refine gb_ne (by omega) (by omega) (fun c1 => ?_) (fun c1 => ?_)
        · omega
        repeat (first | refine gi_con ?_ | refine gi_bip (Nat.le_of_ble_eq_true rfl) ?_ | refine gi_sip (Nat.le_of_ble_eq_true rfl) ?_ | refine gi_ldc ?_ | refine gi_add ?_ | refine gi_inc rfl ?_ | refine gi_sub (by omega) ?_ | refine gi_mul ?_ | refine go_nx rfl ?_)
        refine go_step ?_
        refine g_callV (by decide) (by decide) (Nat.le_of_ble_eq_true rfl) (Nat.le_of_ble_eq_true rfl) (mSt_rcv hm) (by omega) (Nat.le_of_ble_eq_true rfl) rfl ?_
        refine sp_malike (n := q_ne B y - (y + 1)) (m := q_ne B p - (p + 1)) (A := fun i => B (y + 1 + i)) (B := fun i => B (p + 1 + i)) hm (fun j hj => ?_) (fun j hj => ?_) ?_ ?_ (fun j hj => ?_) (fun j hj => ?_) (by omega) (by omega) ?_
        · rw [Nat.add_assoc, Nat.add_assoc, hw.1 _ (by omega), Nat.add_assoc]
        · rw [Nat.add_assoc, Nat.add_assoc, hw.1 _ (by omega), Nat.add_assoc]
        · show B (y + 1 + (q_ne B y - (y + 1))) = 0
          rw [show y + 1 + (q_ne B y - (y + 1)) = q_ne B y by omega]
          exact hny.2.1
        · show B (p + 1 + (q_ne B p - (p + 1))) = 0
          rw [show p + 1 + (q_ne B p - (p + 1)) = q_ne B p by omega]
          exact hnp.2.1
        · exact hny.2.2 _ (by omega) (by omega)
        · exact hnp.2.2 _ (by omega) (by omega)
        · repeat (first | refine gi_con ?_ | refine gi_bip (Nat.le_of_ble_eq_true rfl) ?_ | refine gi_sip (Nat.le_of_ble_eq_true rfl) ?_ | refine gi_ldc ?_ | refine gi_add ?_ | refine gi_inc rfl ?_ | refine gi_sub (by omega) ?_ | refine gi_mul ?_ | refine go_nx rfl ?_)
          first | refine gt_eq (fun c2 => ?_) (fun c2 => ?_) | refine gt_ne (fun c2 => ?_) (fun c2 => ?_)
          · rw [show q_same B y B p = false from c2, Bool.not_false, Bool.true_and] at hq
            repeat (first | refine gi_con ?_ | refine gi_bip (Nat.le_of_ble_eq_true rfl) ?_ | refine gi_sip (Nat.le_of_ble_eq_true rfl) ?_ | refine gi_ldc ?_ | refine gi_add ?_ | refine gi_inc rfl ?_ | refine gi_sub (by omega) ?_ | refine gi_mul ?_ | refine go_nx rfl ?_)
            refine go_step ?_
            refine g_callV (by decide) (by decide) (Nat.le_of_ble_eq_true rfl) (Nat.le_of_ble_eq_true rfl) (mSt_rcv hm) (by omega) (Nat.le_of_ble_eq_true rfl) rfl ?_
            refine sp_mnext (by omega) hm hw hy1 ?_
            repeat (first | refine gi_con ?_ | refine gi_bip (Nat.le_of_ble_eq_true rfl) ?_ | refine gi_sip (Nat.le_of_ble_eq_true rfl) ?_ | refine gi_ldc ?_ | refine gi_add ?_ | refine gi_inc rfl ?_ | refine gi_sub (by omega) ?_ | refine gi_mul ?_ | refine go_nx rfl ?_)
            refine go_jp rfl ?_
            exact ih _ _ hx2 (fun z hz => hl z (List.mem_cons_of_mem _ hz)) hq
          · rw [show q_same B y B p = true from c2] at hq
            repeat (first | refine gi_con ?_ | refine gi_bip (Nat.le_of_ble_eq_true rfl) ?_ | refine gi_sip (Nat.le_of_ble_eq_true rfl) ?_ | refine gi_ldc ?_ | refine gi_add ?_ | refine gi_inc rfl ?_ | refine gi_sub (by omega) ?_ | refine gi_mul ?_ | refine go_nx rfl ?_)
            refine go_rt rfl ?_
            exact hq
    repeat (first | refine gi_con ?_ | refine gi_bip (Nat.le_of_ble_eq_true rfl) ?_ | refine gi_sip (Nat.le_of_ble_eq_true rfl) ?_ | refine gi_ldc ?_ | refine gi_add ?_ | refine gi_inc rfl ?_ | refine gi_sub (by omega) ?_ | refine gi_mul ?_ | refine go_nx rfl ?_)
    refine go_jp rfl ?_
    rw [Nat.add_assoc]
    exact loop prev (v + 4) _ hrun hprev hq
end M
end
section
/-! THE REFERENCE: isValue, isBox, isDocument -/
theorem q_box_le {u : Nat → Bool} {B : Nat → Nat} : ∀ {k v stop : Nat} {row : Bool}, q_box u B k v stop row = true → v + q_sz B v ≤ stop ∧ 5 ≤ q_sz B v := by
  intro k
  cases k with
  | zero => intro v stop row h; cases h
  | succ k =>
    intro v stop row h
    unfold q_box at h
    simp only [Bool.and_eq_true, decide_eq_true_eq] at h
    exact ⟨h.1.1.2, h.1.1.1.2⟩
theorem q_vok_ok {u : Nat → Bool} {B : Nat → Nat} {k p last : Nat} (hne : q_ne B p < last) (h : q_vok (q_box u B k) B p last = true) : q_next B p ≤ last ∧ (B p = 3 ∨ B p = 4 → 5 ≤ q_sz B (q_val B p)) := by
  unfold q_vok at h
  have hv : q_val B p ≤ last := hne
  unfold q_next q_ln
  by_cases h16 : B p = 16
  · rw [if_pos h16] at h ⊢
    exact ⟨of_decide_eq_true h, fun q => by omega⟩
  rw [if_neg h16] at h ⊢
  by_cases h18 : B p = 18
  · rw [if_pos h18] at h ⊢
    exact ⟨of_decide_eq_true h, fun q => by omega⟩
  rw [if_neg h18] at h ⊢
  by_cases h8 : B p = 8
  · rw [if_pos h8] at h ⊢
    rw [Bool.and_eq_true, decide_eq_true_eq] at h
    exact ⟨h.1, fun q => by omega⟩
  rw [if_neg h8] at h ⊢
  by_cases h2 : B p = 2
  · rw [if_pos h2] at h ⊢
    simp only [Bool.and_eq_true, decide_eq_true_eq] at h
    exact ⟨by omega, fun q => by omega⟩
  rw [if_neg h2] at h ⊢
  by_cases h10 : B p = 10
  · rw [if_neg (by omega)]
    exact ⟨hv, fun q => by omega⟩
  rw [if_neg h10] at h
  by_cases h3 : B p = 3
  · rw [if_pos h3] at h
    rw [if_pos (Or.inl h3)]
    exact ⟨(q_box_le h).1, fun _ => (q_box_le h).2⟩
  rw [if_neg h3] at h
  by_cases h4 : B p = 4
  · rw [if_pos h4] at h
    rw [if_pos (Or.inr h4)]
    exact ⟨(q_box_le h).1, fun _ => (q_box_le h).2⟩
  rw [if_neg h4] at h
  cases h
/-- is the text of a value right -/
def q_tx (B : Nat → Nat) (p : Nat) : Bool := if B p = 2 then q_utf B (q_val B p + 3 + q_sz B (q_val B p)) (q_val B p + 3 + q_sz B (q_val B p) - (q_val B p + 4)) (q_val B p + 4) else true
theorem q_vok_i {B : Nat → Nat} {p last : Nat} {vb : Nat → Nat → Bool → Bool} (h1 : B p ≠ 16) (h2 : B p ≠ 18) (h3 : B p ≠ 8) (h4 : B p ≠ 2) (h5 : B p ≠ 10) : q_vok vb B p last = if B p = 3 then vb (q_val B p) last false else if B p = 4 then vb (q_val B p) last true else false := by
  unfold q_vok
  rw [if_neg h1, if_neg h2, if_neg h3, if_neg h4, if_neg h5]
section M
variable {E : mmE} {d : Nat} {h : mmH} {Q : Option Value → mmH → Prop} {o st b n : Nat} {R B : Nat → Nat}
theorem sp_misval {p last deep : Nat} {vb : Nat → Nat → Bool → Bool} (hd : 3 ≤ d) (hm : mSt h o st R) (hw : mW R b n B) (hne : q_ne B p < last) (hln : last < n) (hdp : deep < 100)
    (hbox : ∀ (row : Bool) (Q' : Option Value → mmH → Prop), Q' (some (.int (q_t (vb (q_val B p) last row)))) h → mm_Go E (d - 1) 119 (mm_blk 119 0) [.ref o, .int (nI (b + q_val B p)), .int (nI (b + last)), .int (nI (deep + 1)), .int (q_t row), mm_un, mm_un, mm_un, mm_un, mm_un] [] h Q')
    (hq : Q (some (.int (q_t (q_vok vb B p last && q_tx B p)))) h) : mm_Go E d 126 (mm_blk 126 0) [.ref o, .int (nI (B p)), .int (nI (b + q_val B p)), .int (nI (b + last)), .int (nI deep)] [] h Q := by
  have w2 := hw.2.1
  have hrn := hw.2.2.1
  have hBp := hw.2.2.2.1 p
  have hv : q_val B p ≤ last := hne
  have one : B p = 16 ∨ B p = 18 → mm_Go E d 126 (mm_blk 126 1) [.ref o, .int (nI (B p)), .int (nI (b + q_val B p)), .int (nI (b + last)), .int (nI deep)] [] h Q := by
    intro hk
    rw [show q_tx B p = true from by unfold q_tx; rw [if_neg (by omega)], Bool.and_true] at hq
    unfold q_vok at hq
    repeat (first | refine gi_con ?_ | refine gi_bip (Nat.le_of_ble_eq_true rfl) ?_ | refine gi_sip (Nat.le_of_ble_eq_true rfl) ?_ | refine gi_ldc ?_ | refine gi_add ?_ | refine gi_inc rfl ?_ | refine gi_sub (by omega) ?_ | refine gi_mul ?_ | refine go_nx rfl ?_)
    first | refine gb_lt (by omega) (by omega) (fun c => ?_) (fun c => ?_) | refine gb_ge (by omega) (by omega) (fun c => ?_) (fun c => ?_) | refine gb_gt (by omega) (by omega) (fun c => ?_) (fun c => ?_) | refine gb_le (by omega) (by omega) (fun c => ?_) (fun c => ?_) | refine gb_eq (by omega) (by omega) (fun c => ?_) (fun c => ?_) | refine gb_ne (by omega) (by omega) (fun c => ?_) (fun c => ?_)
    · rw [if_neg c, if_pos (hk.resolve_left c)] at hq
      repeat (first | refine gi_con ?_ | refine gi_bip (Nat.le_of_ble_eq_true rfl) ?_ | refine gi_sip (Nat.le_of_ble_eq_true rfl) ?_ | refine gi_ldc ?_ | refine gi_add ?_ | refine gi_inc rfl ?_ | refine gi_sub (by omega) ?_ | refine gi_mul ?_ | refine go_nx rfl ?_)
      refine go_jp rfl ?_
      first | refine gb_lt (by omega) (by omega) (fun c2 => ?_) (fun c2 => ?_) | refine gb_ge (by omega) (by omega) (fun c2 => ?_) (fun c2 => ?_) | refine gb_gt (by omega) (by omega) (fun c2 => ?_) (fun c2 => ?_) | refine gb_le (by omega) (by omega) (fun c2 => ?_) (fun c2 => ?_) | refine gb_eq (by omega) (by omega) (fun c2 => ?_) (fun c2 => ?_) | refine gb_ne (by omega) (by omega) (fun c2 => ?_) (fun c2 => ?_)
      · rw [decide_eq_false (by omega)] at hq
        repeat (first | refine gi_con ?_ | refine gi_bip (Nat.le_of_ble_eq_true rfl) ?_ | refine gi_sip (Nat.le_of_ble_eq_true rfl) ?_ | refine gi_ldc ?_ | refine gi_add ?_ | refine gi_inc rfl ?_ | refine gi_sub (by omega) ?_ | refine gi_mul ?_ | refine go_nx rfl ?_)
        refine go_jp rfl ?_
        refine go_rt rfl ?_
        exact hq
      · rw [decide_eq_true (by omega)] at hq
        repeat (first | refine gi_con ?_ | refine gi_bip (Nat.le_of_ble_eq_true rfl) ?_ | refine gi_sip (Nat.le_of_ble_eq_true rfl) ?_ | refine gi_ldc ?_ | refine gi_add ?_ | refine gi_inc rfl ?_ | refine gi_sub (by omega) ?_ | refine gi_mul ?_ | refine go_nx rfl ?_)
        refine go_jp rfl ?_
        refine go_rt rfl ?_
        exact hq
    · rw [if_pos c] at hq
      repeat (first | refine gi_con ?_ | refine gi_bip (Nat.le_of_ble_eq_true rfl) ?_ | refine gi_sip (Nat.le_of_ble_eq_true rfl) ?_ | refine gi_ldc ?_ | refine gi_add ?_ | refine gi_inc rfl ?_ | refine gi_sub (by omega) ?_ | refine gi_mul ?_ | refine go_nx rfl ?_)
      refine go_jp rfl ?_
      first | refine gb_lt (by omega) (by omega) (fun c2 => ?_) (fun c2 => ?_) | refine gb_ge (by omega) (by omega) (fun c2 => ?_) (fun c2 => ?_) | refine gb_gt (by omega) (by omega) (fun c2 => ?_) (fun c2 => ?_) | refine gb_le (by omega) (by omega) (fun c2 => ?_) (fun c2 => ?_) | refine gb_eq (by omega) (by omega) (fun c2 => ?_) (fun c2 => ?_) | refine gb_ne (by omega) (by omega) (fun c2 => ?_) (fun c2 => ?_)
      · rw [decide_eq_false (by omega)] at hq
        repeat (first | refine gi_con ?_ | refine gi_bip (Nat.le_of_ble_eq_true rfl) ?_ | refine gi_sip (Nat.le_of_ble_eq_true rfl) ?_ | refine gi_ldc ?_ | refine gi_add ?_ | refine gi_inc rfl ?_ | refine gi_sub (by omega) ?_ | refine gi_mul ?_ | refine go_nx rfl ?_)
        refine go_jp rfl ?_
        refine go_rt rfl ?_
        exact hq
      · rw [decide_eq_true (by omega)] at hq
        repeat (first | refine gi_con ?_ | refine gi_bip (Nat.le_of_ble_eq_true rfl) ?_ | refine gi_sip (Nat.le_of_ble_eq_true rfl) ?_ | refine gi_ldc ?_ | refine gi_add ?_ | refine gi_inc rfl ?_ | refine gi_sub (by omega) ?_ | refine gi_mul ?_ | refine go_nx rfl ?_)
        refine go_jp rfl ?_
        refine go_rt rfl ?_
        exact hq
  repeat (first | refine gi_con ?_ | refine gi_bip (Nat.le_of_ble_eq_true rfl) ?_ | refine gi_sip (Nat.le_of_ble_eq_true rfl) ?_ | refine gi_ldc ?_ | refine gi_add ?_ | refine gi_inc rfl ?_ | refine gi_sub (by omega) ?_ | refine gi_mul ?_ | refine go_nx rfl ?_)
  first | refine gb_lt (by omega) (by omega) (fun c1 => ?_) (fun c1 => ?_) | refine gb_ge (by omega) (by omega) (fun c1 => ?_) (fun c1 => ?_) | refine gb_gt (by omega) (by omega) (fun c1 => ?_) (fun c1 => ?_) | refine gb_le (by omega) (by omega) (fun c1 => ?_) (fun c1 => ?_) | refine gb_eq (by omega) (by omega) (fun c1 => ?_) (fun c1 => ?_) | refine gb_ne (by omega) (by omega) (fun c1 => ?_) (fun c1 => ?_)
  · exact one (Or.inl c1)
  repeat (first | refine gi_con ?_ | refine gi_bip (Nat.le_of_ble_eq_true rfl) ?_ | refine gi_sip (Nat.le_of_ble_eq_true rfl) ?_ | refine gi_ldc ?_ | refine gi_add ?_ | refine gi_inc rfl ?_ | refine gi_sub (by omega) ?_ | refine gi_mul ?_ | refine go_nx rfl ?_)
  first | refine gb_lt (by omega) (by omega) (fun c2 => ?_) (fun c2 => ?_) | refine gb_ge (by omega) (by omega) (fun c2 => ?_) (fun c2 => ?_) | refine gb_gt (by omega) (by omega) (fun c2 => ?_) (fun c2 => ?_) | refine gb_le (by omega) (by omega) (fun c2 => ?_) (fun c2 => ?_) | refine gb_eq (by omega) (by omega) (fun c2 => ?_) (fun c2 => ?_) | refine gb_ne (by omega) (by omega) (fun c2 => ?_) (fun c2 => ?_)
  · repeat (first | refine gi_con ?_ | refine gi_bip (Nat.le_of_ble_eq_true rfl) ?_ | refine gi_sip (Nat.le_of_ble_eq_true rfl) ?_ | refine gi_ldc ?_ | refine gi_add ?_ | refine gi_inc rfl ?_ | refine gi_sub (by omega) ?_ | refine gi_mul ?_ | refine go_nx rfl ?_)
    first | refine gb_lt (by omega) (by omega) (fun c3 => ?_) (fun c3 => ?_) | refine gb_ge (by omega) (by omega) (fun c3 => ?_) (fun c3 => ?_) | refine gb_gt (by omega) (by omega) (fun c3 => ?_) (fun c3 => ?_) | refine gb_le (by omega) (by omega) (fun c3 => ?_) (fun c3 => ?_) | refine gb_eq (by omega) (by omega) (fun c3 => ?_) (fun c3 => ?_) | refine gb_ne (by omega) (by omega) (fun c3 => ?_) (fun c3 => ?_)
    · repeat (first | refine gi_con ?_ | refine gi_bip (Nat.le_of_ble_eq_true rfl) ?_ | refine gi_sip (Nat.le_of_ble_eq_true rfl) ?_ | refine gi_ldc ?_ | refine gi_add ?_ | refine gi_inc rfl ?_ | refine gi_sub (by omega) ?_ | refine gi_mul ?_ | refine go_nx rfl ?_)
      first | refine gb_lt (by omega) (by omega) (fun c4 => ?_) (fun c4 => ?_) | refine gb_ge (by omega) (by omega) (fun c4 => ?_) (fun c4 => ?_) | refine gb_gt (by omega) (by omega) (fun c4 => ?_) (fun c4 => ?_) | refine gb_le (by omega) (by omega) (fun c4 => ?_) (fun c4 => ?_) | refine gb_eq (by omega) (by omega) (fun c4 => ?_) (fun c4 => ?_) | refine gb_ne (by omega) (by omega) (fun c4 => ?_) (fun c4 => ?_)
      · have seventeen : (q_vok vb B p last && q_tx B p) = false → mm_Go E d 126 (mm_blk 126 17) [.ref o, .int (nI (B p)), .int (nI (b + q_val B p)), .int (nI (b + last)), .int (nI deep)] [] h Q := by
          intro e
          rw [e] at hq
          repeat (first | refine gi_con ?_ | refine gi_bip (Nat.le_of_ble_eq_true rfl) ?_ | refine gi_sip (Nat.le_of_ble_eq_true rfl) ?_ | refine gi_ldc ?_ | refine gi_add ?_ | refine gi_inc rfl ?_ | refine gi_sub (by omega) ?_ | refine gi_mul ?_ | refine go_nx rfl ?_)
          refine go_jp rfl ?_
          refine go_rt rfl ?_
          exact hq
        have sixteen : (q_vok vb B p last && q_tx B p) = true → mm_Go E d 126 (mm_blk 126 16) [.ref o, .int (nI (B p)), .int (nI (b + q_val B p)), .int (nI (b + last)), .int (nI deep)] [] h Q := by
          intro e
          rw [e] at hq
          repeat (first | refine gi_con ?_ | refine gi_bip (Nat.le_of_ble_eq_true rfl) ?_ | refine gi_sip (Nat.le_of_ble_eq_true rfl) ?_ | refine gi_ldc ?_ | refine gi_add ?_ | refine gi_inc rfl ?_ | refine gi_sub (by omega) ?_ | refine gi_mul ?_ | refine go_nx rfl ?_)
          refine go_jp rfl ?_
          refine go_rt rfl ?_
          exact hq
        have htx : q_tx B p = true := by unfold q_tx; rw [if_neg c4]
        rw [htx, Bool.and_true] at sixteen seventeen
        repeat (first | refine gi_con ?_ | refine gi_bip (Nat.le_of_ble_eq_true rfl) ?_ | refine gi_sip (Nat.le_of_ble_eq_true rfl) ?_ | refine gi_ldc ?_ | refine gi_add ?_ | refine gi_inc rfl ?_ | refine gi_sub (by omega) ?_ | refine gi_mul ?_ | refine go_nx rfl ?_)
        first | refine gb_lt (by omega) (by omega) (fun c5 => ?_) (fun c5 => ?_) | refine gb_ge (by omega) (by omega) (fun c5 => ?_) (fun c5 => ?_) | refine gb_gt (by omega) (by omega) (fun c5 => ?_) (fun c5 => ?_) | refine gb_le (by omega) (by omega) (fun c5 => ?_) (fun c5 => ?_) | refine gb_eq (by omega) (by omega) (fun c5 => ?_) (fun c5 => ?_) | refine gb_ne (by omega) (by omega) (fun c5 => ?_) (fun c5 => ?_)
        · exact sixteen (by unfold q_vok; rw [if_neg c1, if_neg c2, if_neg c3, if_neg c4, if_pos c5])
        · have e := q_vok_i (last := last) (vb := vb) c1 c2 c3 c4 c5
          have tail : ∀ (row : Bool), q_vok vb B p last = vb (q_val B p) last row → mm_Go E d 126 (mm_blk 126 15) [.ref o, .int (nI (B p)), .int (nI (b + q_val B p)), .int (nI (b + last)), .int (nI deep)] [.int (q_t row), .int (nI (deep + 1)), .int (nI (b + last)), .int (nI (b + q_val B p)), .ref o] h Q := by
            intro row hrow
            refine go_step ?_
            refine g_callV (by decide) (by decide) (Nat.le_of_ble_eq_true rfl) (Nat.le_of_ble_eq_true rfl) (mSt_rcv hm) (by omega) (Nat.le_of_ble_eq_true rfl) rfl ?_
            refine hbox row _ ?_
            repeat (first | refine gi_con ?_ | refine gi_bip (Nat.le_of_ble_eq_true rfl) ?_ | refine gi_sip (Nat.le_of_ble_eq_true rfl) ?_ | refine gi_ldc ?_ | refine gi_add ?_ | refine gi_inc rfl ?_ | refine gi_sub (by omega) ?_ | refine gi_mul ?_ | refine go_nx rfl ?_)
            first | refine gt_eq (fun c8 => ?_) (fun c8 => ?_) | refine gt_ne (fun c8 => ?_) (fun c8 => ?_)
            · exact seventeen (by rw [hrow]; exact c8)
            · refine go_jp rfl ?_
              exact sixteen (by rw [hrow]; exact c8)
          have thirteen : B p = 3 ∨ B p = 4 → mm_Go E d 126 (mm_blk 126 13) [.ref o, .int (nI (B p)), .int (nI (b + q_val B p)), .int (nI (b + last)), .int (nI deep)] [] h Q := by
            intro hk
            repeat (first | refine gi_con ?_ | refine gi_bip (Nat.le_of_ble_eq_true rfl) ?_ | refine gi_sip (Nat.le_of_ble_eq_true rfl) ?_ | refine gi_ldc ?_ | refine gi_add ?_ | refine gi_inc rfl ?_ | refine gi_sub (by omega) ?_ | refine gi_mul ?_ | refine go_nx rfl ?_)
            first | refine gb_lt (by omega) (by omega) (fun c7 => ?_) (fun c7 => ?_) | refine gb_ge (by omega) (by omega) (fun c7 => ?_) (fun c7 => ?_) | refine gb_gt (by omega) (by omega) (fun c7 => ?_) (fun c7 => ?_) | refine gb_le (by omega) (by omega) (fun c7 => ?_) (fun c7 => ?_) | refine gb_eq (by omega) (by omega) (fun c7 => ?_) (fun c7 => ?_) | refine gb_ne (by omega) (by omega) (fun c7 => ?_) (fun c7 => ?_)
            · rw [if_pos (hk.resolve_right c7)] at e
              repeat (first | refine gi_con ?_ | refine gi_bip (Nat.le_of_ble_eq_true rfl) ?_ | refine gi_sip (Nat.le_of_ble_eq_true rfl) ?_ | refine gi_ldc ?_ | refine gi_add ?_ | refine gi_inc rfl ?_ | refine gi_sub (by omega) ?_ | refine gi_mul ?_ | refine go_nx rfl ?_)
              refine go_jp rfl ?_
              exact tail false e
            · rw [if_neg (by omega), if_pos c7] at e
              repeat (first | refine gi_con ?_ | refine gi_bip (Nat.le_of_ble_eq_true rfl) ?_ | refine gi_sip (Nat.le_of_ble_eq_true rfl) ?_ | refine gi_ldc ?_ | refine gi_add ?_ | refine gi_inc rfl ?_ | refine gi_sub (by omega) ?_ | refine gi_mul ?_ | refine go_nx rfl ?_)
              refine go_jp rfl ?_
              exact tail true e
          repeat (first | refine gi_con ?_ | refine gi_bip (Nat.le_of_ble_eq_true rfl) ?_ | refine gi_sip (Nat.le_of_ble_eq_true rfl) ?_ | refine gi_ldc ?_ | refine gi_add ?_ | refine gi_inc rfl ?_ | refine gi_sub (by omega) ?_ | refine gi_mul ?_ | refine go_nx rfl ?_)
          first | refine gb_lt (by omega) (by omega) (fun c6 => ?_) (fun c6 => ?_) | refine gb_ge (by omega) (by omega) (fun c6 => ?_) (fun c6 => ?_) | refine gb_gt (by omega) (by omega) (fun c6 => ?_) (fun c6 => ?_) | refine gb_le (by omega) (by omega) (fun c6 => ?_) (fun c6 => ?_) | refine gb_eq (by omega) (by omega) (fun c6 => ?_) (fun c6 => ?_) | refine gb_ne (by omega) (by omega) (fun c6 => ?_) (fun c6 => ?_)
          · exact thirteen (Or.inl c6)
          repeat (first | refine gi_con ?_ | refine gi_bip (Nat.le_of_ble_eq_true rfl) ?_ | refine gi_sip (Nat.le_of_ble_eq_true rfl) ?_ | refine gi_ldc ?_ | refine gi_add ?_ | refine gi_inc rfl ?_ | refine gi_sub (by omega) ?_ | refine gi_mul ?_ | refine go_nx rfl ?_)
          first | refine gb_lt (by omega) (by omega) (fun c7 => ?_) (fun c7 => ?_) | refine gb_ge (by omega) (by omega) (fun c7 => ?_) (fun c7 => ?_) | refine gb_gt (by omega) (by omega) (fun c7 => ?_) (fun c7 => ?_) | refine gb_le (by omega) (by omega) (fun c7 => ?_) (fun c7 => ?_) | refine gb_eq (by omega) (by omega) (fun c7 => ?_) (fun c7 => ?_) | refine gb_ne (by omega) (by omega) (fun c7 => ?_) (fun c7 => ?_)
          · exact seventeen (by rw [e, if_neg c6, if_neg c7])
          · refine go_jp rfl ?_
            exact thirteen (Or.inr c7)
      · have hs := q_sz_lt hw.2.2.2.1 (q_val B p)
        have e : q_vok vb B p last = (decide (1 ≤ q_sz B (q_val B p)) && decide (q_val B p + 4 + q_sz B (q_val B p) ≤ last) && decide (B (q_val B p + 3 + q_sz B (q_val B p)) = 0)) := by
          unfold q_vok
          rw [if_neg c1, if_neg c2, if_neg c3, if_pos c4]
        have etx : q_tx B p = q_utf B (q_val B p + 3 + q_sz B (q_val B p)) (q_val B p + 3 + q_sz B (q_val B p) - (q_val B p + 4)) (q_val B p + 4) := by
          unfold q_tx
          rw [if_pos c4]
        have ten : (q_vok vb B p last && q_tx B p) = false → mm_Go E d 126 (mm_blk 126 10) [.ref o, .int (nI (B p)), .int (nI (b + q_val B p)), .int (nI (b + last)), .int (nI deep)] [] h Q := by
          intro e
          rw [e] at hq
          repeat (first | refine gi_con ?_ | refine gi_bip (Nat.le_of_ble_eq_true rfl) ?_ | refine gi_sip (Nat.le_of_ble_eq_true rfl) ?_ | refine gi_ldc ?_ | refine gi_add ?_ | refine gi_inc rfl ?_ | refine gi_sub (by omega) ?_ | refine gi_mul ?_ | refine go_nx rfl ?_)
          refine go_jp rfl ?_
          refine go_rt rfl ?_
          exact hq
        repeat (first | refine gi_con ?_ | refine gi_bip (Nat.le_of_ble_eq_true rfl) ?_ | refine gi_sip (Nat.le_of_ble_eq_true rfl) ?_ | refine gi_ldc ?_ | refine gi_add ?_ | refine gi_inc rfl ?_ | refine gi_sub (by omega) ?_ | refine gi_mul ?_ | refine go_nx rfl ?_)
        first | refine gb_lt (by omega) (by omega) (fun c5 => ?_) (fun c5 => ?_) | refine gb_ge (by omega) (by omega) (fun c5 => ?_) (fun c5 => ?_) | refine gb_gt (by omega) (by omega) (fun c5 => ?_) (fun c5 => ?_) | refine gb_le (by omega) (by omega) (fun c5 => ?_) (fun c5 => ?_) | refine gb_eq (by omega) (by omega) (fun c5 => ?_) (fun c5 => ?_) | refine gb_ne (by omega) (by omega) (fun c5 => ?_) (fun c5 => ?_)
        · refine ten ?_
          rw [e]
          by_cases h1 : 1 ≤ q_sz B (q_val B p)
          · rw [decide_eq_false (show ¬ q_val B p + 4 + q_sz B (q_val B p) ≤ last by omega), Bool.and_false]
            rfl
          · rw [decide_eq_false h1]
            rfl
        repeat (first | refine gi_con ?_ | refine gi_bip (Nat.le_of_ble_eq_true rfl) ?_ | refine gi_sip (Nat.le_of_ble_eq_true rfl) ?_ | refine gi_ldc ?_ | refine gi_add ?_ | refine gi_inc rfl ?_ | refine gi_sub (by omega) ?_ | refine gi_mul ?_ | refine go_nx rfl ?_)
        refine go_step ?_
        refine g_callV (by decide) (by decide) (Nat.le_of_ble_eq_true rfl) (Nat.le_of_ble_eq_true rfl) (mSt_rcv hm) (by omega) (Nat.le_of_ble_eq_true rfl) rfl ?_
        refine sp_mwh (by omega) hm hw (by omega) ?_
        by_cases hbig : 2 ^ 31 ≤ q_sz B (q_val B p)
        · refine gn_zle hbig hs ?_
          exact ten (by rw [e, decide_eq_false (show ¬ q_val B p + 4 + q_sz B (q_val B p) ≤ last by omega), Bool.and_false]; rfl)
        repeat (first | refine gi_con ?_ | refine gi_bip (Nat.le_of_ble_eq_true rfl) ?_ | refine gi_sip (Nat.le_of_ble_eq_true rfl) ?_ | refine gi_ldc ?_ | refine gi_add ?_ | refine gi_inc rfl ?_ | refine gi_sub (by omega) ?_ | refine gi_mul ?_ | refine go_nx rfl ?_)
        first | refine gz_eq (by omega) (fun c6 => ?_) (fun c6 => ?_) | refine gz_ne (by omega) (fun c6 => ?_) (fun c6 => ?_) | refine gz_le (by omega) (fun c6 => ?_) (fun c6 => ?_) | refine gz_gt (by omega) (fun c6 => ?_) (fun c6 => ?_) | refine gz_lt (by omega) (fun c6 => ?_) (fun c6 => ?_) | refine gz_ge (by omega) (fun c6 => ?_) (fun c6 => ?_)
        · exact ten (by rw [e, decide_eq_false (by omega)]; rfl)
        repeat (first | refine gi_con ?_ | refine gi_bip (Nat.le_of_ble_eq_true rfl) ?_ | refine gi_sip (Nat.le_of_ble_eq_true rfl) ?_ | refine gi_ldc ?_ | refine gi_add ?_ | refine gi_inc rfl ?_ | refine gi_sub (by omega) ?_ | refine gi_mul ?_ | refine go_nx rfl ?_)
        refine go_step ?_
        refine g_callV (by decide) (by decide) (Nat.le_of_ble_eq_true rfl) (Nat.le_of_ble_eq_true rfl) (mSt_rcv hm) (by omega) (Nat.le_of_ble_eq_true rfl) rfl ?_
        refine sp_mwh (by omega) hm hw (by omega) ?_
        repeat (first | refine gi_con ?_ | refine gi_bip (Nat.le_of_ble_eq_true rfl) ?_ | refine gi_sip (Nat.le_of_ble_eq_true rfl) ?_ | refine gi_ldc ?_ | refine gi_add ?_ | refine gi_inc rfl ?_ | refine gi_sub (by omega) ?_ | refine gi_mul ?_ | refine go_nx rfl ?_)
        first | refine gb_lt (by omega) (by omega) (fun c7 => ?_) (fun c7 => ?_) | refine gb_ge (by omega) (by omega) (fun c7 => ?_) (fun c7 => ?_) | refine gb_gt (by omega) (by omega) (fun c7 => ?_) (fun c7 => ?_) | refine gb_le (by omega) (by omega) (fun c7 => ?_) (fun c7 => ?_) | refine gb_eq (by omega) (by omega) (fun c7 => ?_) (fun c7 => ?_) | refine gb_ne (by omega) (by omega) (fun c7 => ?_) (fun c7 => ?_)
        · exact ten (by rw [e, decide_eq_false (show ¬ q_val B p + 4 + q_sz B (q_val B p) ≤ last by omega), Bool.and_false]; rfl)
        repeat (first | refine gi_con ?_ | refine gi_bip (Nat.le_of_ble_eq_true rfl) ?_ | refine gi_sip (Nat.le_of_ble_eq_true rfl) ?_ | refine gi_ldc ?_ | refine gi_add ?_ | refine gi_inc rfl ?_ | refine gi_sub (by omega) ?_ | refine gi_mul ?_ | refine go_nx rfl ?_)
        refine gm_gs hm rfl ?_
        repeat (first | refine gi_con ?_ | refine gi_bip (Nat.le_of_ble_eq_true rfl) ?_ | refine gi_sip (Nat.le_of_ble_eq_true rfl) ?_ | refine gi_ldc ?_ | refine gi_add ?_ | refine gi_inc rfl ?_ | refine gi_sub (by omega) ?_ | refine gi_mul ?_ | refine go_nx rfl ?_)
        refine go_step ?_
        refine g_callV (by decide) (by decide) (Nat.le_of_ble_eq_true rfl) (Nat.le_of_ble_eq_true rfl) (mSt_rcv hm) (by omega) (Nat.le_of_ble_eq_true rfl) rfl ?_
        refine sp_mwh (by omega) hm hw (by omega) ?_
        repeat (first | refine gi_con ?_ | refine gi_bip (Nat.le_of_ble_eq_true rfl) ?_ | refine gi_sip (Nat.le_of_ble_eq_true rfl) ?_ | refine gi_ldc ?_ | refine gi_add ?_ | refine gi_inc rfl ?_ | refine gi_sub (by omega) ?_ | refine gi_mul ?_ | refine go_nx rfl ?_)
        refine gm_ld hm (by omega) ?_
        rw [show b + q_val B p + 3 + q_sz B (q_val B p) = b + (q_val B p + 3 + q_sz B (q_val B p)) by omega, hw.1 _ (by omega)]
        refine gs_ne (hw.2.2.2.1 _) (fun c8 => ?_) (fun c8 => ?_)
        · exact ten (by rw [e, decide_eq_false c8, Bool.and_false]; rfl)
        repeat (first | refine gi_con ?_ | refine gi_bip (Nat.le_of_ble_eq_true rfl) ?_ | refine gi_sip (Nat.le_of_ble_eq_true rfl) ?_ | refine gi_ldc ?_ | refine gi_add ?_ | refine gi_inc rfl ?_ | refine gi_sub (by omega) ?_ | refine gi_mul ?_ | refine go_nx rfl ?_)
        refine go_step ?_
        refine g_callV (by decide) (by decide) (Nat.le_of_ble_eq_true rfl) (Nat.le_of_ble_eq_true rfl) (mSt_rcv hm) (by omega) (Nat.le_of_ble_eq_true rfl) rfl ?_
        refine sp_mwh (by omega) hm hw (by omega) ?_
        repeat (first | refine gi_con ?_ | refine gi_bip (Nat.le_of_ble_eq_true rfl) ?_ | refine gi_sip (Nat.le_of_ble_eq_true rfl) ?_ | refine gi_ldc ?_ | refine gi_add ?_ | refine gi_inc rfl ?_ | refine gi_sub (by omega) ?_ | refine gi_mul ?_ | refine go_nx rfl ?_)
        refine go_step ?_
        refine g_callV (by decide) (by decide) (Nat.le_of_ble_eq_true rfl) (Nat.le_of_ble_eq_true rfl) (mSt_rcv hm) (by omega) (Nat.le_of_ble_eq_true rfl) rfl ?_
        rw [show b + q_val B p + 3 + q_sz B (q_val B p) = b + (q_val B p + 3 + q_sz B (q_val B p)) by omega, Nat.add_assoc b (q_val B p) 4]
        refine sp_mtext (by omega) hm (fun j hj => hw.1 j (by omega)) (by omega) (by omega) hw.2.2.2.1 ?_
        rw [← etx]
        repeat (first | refine gi_con ?_ | refine gi_bip (Nat.le_of_ble_eq_true rfl) ?_ | refine gi_sip (Nat.le_of_ble_eq_true rfl) ?_ | refine gi_ldc ?_ | refine gi_add ?_ | refine gi_inc rfl ?_ | refine gi_sub (by omega) ?_ | refine gi_mul ?_ | refine go_nx rfl ?_)
        first | refine gt_eq (fun c9 => ?_) (fun c9 => ?_) | refine gt_ne (fun c9 => ?_) (fun c9 => ?_)
        · exact ten (by rw [c9, Bool.and_false])
        · rw [e, c9, decide_eq_true (by omega), decide_eq_true (by omega), decide_eq_true c8] at hq
          repeat (first | refine gi_con ?_ | refine gi_bip (Nat.le_of_ble_eq_true rfl) ?_ | refine gi_sip (Nat.le_of_ble_eq_true rfl) ?_ | refine gi_ldc ?_ | refine gi_add ?_ | refine gi_inc rfl ?_ | refine gi_sub (by omega) ?_ | refine gi_mul ?_ | refine go_nx rfl ?_)
          refine go_jp rfl ?_
          refine go_rt rfl ?_
          exact hq
    · have e : q_vok vb B p last = (decide (q_val B p + 1 ≤ last) && decide (B (q_val B p) < 2)) := by
        unfold q_vok
        rw [if_neg c1, if_neg c2, if_pos c3]
      rw [show q_tx B p = true from by unfold q_tx; rw [if_neg (by omega)], Bool.and_true, e] at hq
      repeat (first | refine gi_con ?_ | refine gi_bip (Nat.le_of_ble_eq_true rfl) ?_ | refine gi_sip (Nat.le_of_ble_eq_true rfl) ?_ | refine gi_ldc ?_ | refine gi_add ?_ | refine gi_inc rfl ?_ | refine gi_sub (by omega) ?_ | refine gi_mul ?_ | refine go_nx rfl ?_)
      first | refine gb_lt (by omega) (by omega) (fun c4 => ?_) (fun c4 => ?_) | refine gb_ge (by omega) (by omega) (fun c4 => ?_) (fun c4 => ?_) | refine gb_gt (by omega) (by omega) (fun c4 => ?_) (fun c4 => ?_) | refine gb_le (by omega) (by omega) (fun c4 => ?_) (fun c4 => ?_) | refine gb_eq (by omega) (by omega) (fun c4 => ?_) (fun c4 => ?_) | refine gb_ne (by omega) (by omega) (fun c4 => ?_) (fun c4 => ?_)
      · rw [decide_eq_false (by omega)] at hq
        repeat (first | refine gi_con ?_ | refine gi_bip (Nat.le_of_ble_eq_true rfl) ?_ | refine gi_sip (Nat.le_of_ble_eq_true rfl) ?_ | refine gi_ldc ?_ | refine gi_add ?_ | refine gi_inc rfl ?_ | refine gi_sub (by omega) ?_ | refine gi_mul ?_ | refine go_nx rfl ?_)
        refine go_jp rfl ?_
        refine go_rt rfl ?_
        exact hq
      repeat (first | refine gi_con ?_ | refine gi_bip (Nat.le_of_ble_eq_true rfl) ?_ | refine gi_sip (Nat.le_of_ble_eq_true rfl) ?_ | refine gi_ldc ?_ | refine gi_add ?_ | refine gi_inc rfl ?_ | refine gi_sub (by omega) ?_ | refine gi_mul ?_ | refine go_nx rfl ?_)
      refine go_step ?_
      refine g_callV (by decide) (by decide) (Nat.le_of_ble_eq_true rfl) (Nat.le_of_ble_eq_true rfl) (mSt_rcv hm) (by omega) (Nat.le_of_ble_eq_true rfl) rfl ?_
      refine sp_mat2 hm hw (by omega) ?_
      have := hw.2.2.2.1 (q_val B p)
      repeat (first | refine gi_con ?_ | refine gi_bip (Nat.le_of_ble_eq_true rfl) ?_ | refine gi_sip (Nat.le_of_ble_eq_true rfl) ?_ | refine gi_ldc ?_ | refine gi_add ?_ | refine gi_inc rfl ?_ | refine gi_sub (by omega) ?_ | refine gi_mul ?_ | refine go_nx rfl ?_)
      first | refine gb_lt (by omega) (by omega) (fun c5 => ?_) (fun c5 => ?_) | refine gb_ge (by omega) (by omega) (fun c5 => ?_) (fun c5 => ?_) | refine gb_gt (by omega) (by omega) (fun c5 => ?_) (fun c5 => ?_) | refine gb_le (by omega) (by omega) (fun c5 => ?_) (fun c5 => ?_) | refine gb_eq (by omega) (by omega) (fun c5 => ?_) (fun c5 => ?_) | refine gb_ne (by omega) (by omega) (fun c5 => ?_) (fun c5 => ?_)
      · rw [decide_eq_false (show ¬ B (q_val B p) < 2 by omega), Bool.and_false] at hq
        repeat (first | refine gi_con ?_ | refine gi_bip (Nat.le_of_ble_eq_true rfl) ?_ | refine gi_sip (Nat.le_of_ble_eq_true rfl) ?_ | refine gi_ldc ?_ | refine gi_add ?_ | refine gi_inc rfl ?_ | refine gi_sub (by omega) ?_ | refine gi_mul ?_ | refine go_nx rfl ?_)
        refine go_jp rfl ?_
        refine go_rt rfl ?_
        exact hq
      · rw [decide_eq_true (by omega), decide_eq_true c5] at hq
        repeat (first | refine gi_con ?_ | refine gi_bip (Nat.le_of_ble_eq_true rfl) ?_ | refine gi_sip (Nat.le_of_ble_eq_true rfl) ?_ | refine gi_ldc ?_ | refine gi_add ?_ | refine gi_inc rfl ?_ | refine gi_sub (by omega) ?_ | refine gi_mul ?_ | refine go_nx rfl ?_)
        refine go_jp rfl ?_
        refine go_rt rfl ?_
        exact hq
  · refine go_jp rfl ?_
    exact one (Or.inr c2)
theorem q_u8_tx (B : Nat → Nat) (p : Nat) : q_u8 B p = (q_utf B (q_ne B p) (q_ne B p - (p + 1)) (p + 1) && q_tx B p) := rfl
theorem sp_misbox : ∀ (k d : Nat) (v stop : Nat) (row : Bool) (Q : Option Value → mmH → Prop), 2 * k + 6 ≤ d → k ≤ 16 → mSt h o st R → mW R b n B → v ≤ stop → stop ≤ n → Q (some (.int (q_t (q_box (q_u8 B) B k v stop row)))) h → mm_Go E d 119 (mm_blk 119 0) [.ref o, .int (nI (b + v)), .int (nI (b + stop)), .int (nI (17 - k)), .int (q_t row), mm_un, mm_un, mm_un, mm_un, mm_un] [] h Q := by
  intro k
  induction k with
  | zero =>
    intro d v stop row Q hd hk hm hw hv hst hq
    have w2 := hw.2.1
    have one : mm_Go E d 119 (mm_blk 119 1) [.ref o, .int (nI (b + v)), .int (nI (b + stop)), .int (nI (17 - 0)), .int (q_t row), mm_un, mm_un, mm_un, mm_un, mm_un] [] h Q := by
      repeat (first | refine gi_con ?_ | refine gi_bip (Nat.le_of_ble_eq_true rfl) ?_ | refine gi_sip (Nat.le_of_ble_eq_true rfl) ?_ | refine gi_ldc ?_ | refine gi_add ?_ | refine gi_inc rfl ?_ | refine gi_sub (by omega) ?_ | refine gi_mul ?_ | refine go_nx rfl ?_)
      refine go_rt rfl ?_
      exact hq
    repeat (first | refine gi_con ?_ | refine gi_bip (Nat.le_of_ble_eq_true rfl) ?_ | refine gi_sip (Nat.le_of_ble_eq_true rfl) ?_ | refine gi_ldc ?_ | refine gi_add ?_ | refine gi_inc rfl ?_ | refine gi_sub (by omega) ?_ | refine gi_mul ?_ | refine go_nx rfl ?_)
    first | refine gb_lt (by omega) (by omega) (fun c => ?_) (fun c => ?_) | refine gb_ge (by omega) (by omega) (fun c => ?_) (fun c => ?_) | refine gb_gt (by omega) (by omega) (fun c => ?_) (fun c => ?_) | refine gb_le (by omega) (by omega) (fun c => ?_) (fun c => ?_) | refine gb_eq (by omega) (by omega) (fun c => ?_) (fun c => ?_) | refine gb_ne (by omega) (by omega) (fun c => ?_) (fun c => ?_)
    · exact one
    repeat (first | refine gi_con ?_ | refine gi_bip (Nat.le_of_ble_eq_true rfl) ?_ | refine gi_sip (Nat.le_of_ble_eq_true rfl) ?_ | refine gi_ldc ?_ | refine gi_add ?_ | refine gi_inc rfl ?_ | refine gi_sub (by omega) ?_ | refine gi_mul ?_ | refine go_nx rfl ?_)
    first | refine gb_lt (by omega) (by omega) (fun c => ?_) (fun c => ?_) | refine gb_ge (by omega) (by omega) (fun c => ?_) (fun c => ?_) | refine gb_gt (by omega) (by omega) (fun c => ?_) (fun c => ?_) | refine gb_le (by omega) (by omega) (fun c => ?_) (fun c => ?_) | refine gb_eq (by omega) (by omega) (fun c => ?_) (fun c => ?_) | refine gb_ne (by omega) (by omega) (fun c => ?_) (fun c => ?_)
    · omega
    · refine go_jp rfl ?_
      exact one
  | succ k ih =>
    intro d v stop row Q hd hk hm hw hv hst hq
    have w2 := hw.2.1
    have hrn := hw.2.2.1
    have hs := q_sz_lt hw.2.2.2.1 v
    unfold q_box at hq
    have one : q_box (q_u8 B) B (k + 1) v stop row = false → mm_Go E d 119 (mm_blk 119 1) [.ref o, .int (nI (b + v)), .int (nI (b + stop)), .int (nI (17 - (k + 1))), .int (q_t row), mm_un, mm_un, mm_un, mm_un, mm_un] [] h Q := by
      intro e
      unfold q_box at e
      rw [e] at hq
      repeat (first | refine gi_con ?_ | refine gi_bip (Nat.le_of_ble_eq_true rfl) ?_ | refine gi_sip (Nat.le_of_ble_eq_true rfl) ?_ | refine gi_ldc ?_ | refine gi_add ?_ | refine gi_inc rfl ?_ | refine gi_sub (by omega) ?_ | refine gi_mul ?_ | refine go_nx rfl ?_)
      refine go_rt rfl ?_
      exact hq
    have three : q_box (q_u8 B) B (k + 1) v stop row = false → mm_Go E d 119 (mm_blk 119 3) [.ref o, .int (nI (b + v)), .int (nI (b + stop)), .int (nI (17 - (k + 1))), .int (q_t row), .int (nI (q_sz B v)), mm_un, mm_un, mm_un, mm_un] [] h Q := by
      intro e
      unfold q_box at e
      rw [e] at hq
      repeat (first | refine gi_con ?_ | refine gi_bip (Nat.le_of_ble_eq_true rfl) ?_ | refine gi_sip (Nat.le_of_ble_eq_true rfl) ?_ | refine gi_ldc ?_ | refine gi_add ?_ | refine gi_inc rfl ?_ | refine gi_sub (by omega) ?_ | refine gi_mul ?_ | refine go_nx rfl ?_)
      refine go_rt rfl ?_
      exact hq
    repeat (first | refine gi_con ?_ | refine gi_bip (Nat.le_of_ble_eq_true rfl) ?_ | refine gi_sip (Nat.le_of_ble_eq_true rfl) ?_ | refine gi_ldc ?_ | refine gi_add ?_ | refine gi_inc rfl ?_ | refine gi_sub (by omega) ?_ | refine gi_mul ?_ | refine go_nx rfl ?_)
    first | refine gb_lt (by omega) (by omega) (fun c1 => ?_) (fun c1 => ?_) | refine gb_ge (by omega) (by omega) (fun c1 => ?_) (fun c1 => ?_) | refine gb_gt (by omega) (by omega) (fun c1 => ?_) (fun c1 => ?_) | refine gb_le (by omega) (by omega) (fun c1 => ?_) (fun c1 => ?_) | refine gb_eq (by omega) (by omega) (fun c1 => ?_) (fun c1 => ?_) | refine gb_ne (by omega) (by omega) (fun c1 => ?_) (fun c1 => ?_)
    · exact one (by unfold q_box; rw [decide_eq_false (by omega)]; rfl)
    repeat (first | refine gi_con ?_ | refine gi_bip (Nat.le_of_ble_eq_true rfl) ?_ | refine gi_sip (Nat.le_of_ble_eq_true rfl) ?_ | refine gi_ldc ?_ | refine gi_add ?_ | refine gi_inc rfl ?_ | refine gi_sub (by omega) ?_ | refine gi_mul ?_ | refine go_nx rfl ?_)
    first | refine gb_lt (by omega) (by omega) (fun c2 => ?_) (fun c2 => ?_) | refine gb_ge (by omega) (by omega) (fun c2 => ?_) (fun c2 => ?_) | refine gb_gt (by omega) (by omega) (fun c2 => ?_) (fun c2 => ?_) | refine gb_le (by omega) (by omega) (fun c2 => ?_) (fun c2 => ?_) | refine gb_eq (by omega) (by omega) (fun c2 => ?_) (fun c2 => ?_) | refine gb_ne (by omega) (by omega) (fun c2 => ?_) (fun c2 => ?_)
    · repeat (first | refine gi_con ?_ | refine gi_bip (Nat.le_of_ble_eq_true rfl) ?_ | refine gi_sip (Nat.le_of_ble_eq_true rfl) ?_ | refine gi_ldc ?_ | refine gi_add ?_ | refine gi_inc rfl ?_ | refine gi_sub (by omega) ?_ | refine gi_mul ?_ | refine go_nx rfl ?_)
      refine go_step ?_
      refine g_callV (by decide) (by decide) (Nat.le_of_ble_eq_true rfl) (Nat.le_of_ble_eq_true rfl) (mSt_rcv hm) (by omega) (Nat.le_of_ble_eq_true rfl) rfl ?_
      refine sp_mwh (by omega) hm hw (by omega) ?_
      repeat (first | refine gi_con ?_ | refine gi_bip (Nat.le_of_ble_eq_true rfl) ?_ | refine gi_sip (Nat.le_of_ble_eq_true rfl) ?_ | refine gi_ldc ?_ | refine gi_add ?_ | refine gi_inc rfl ?_ | refine gi_sub (by omega) ?_ | refine gi_mul ?_ | refine go_nx rfl ?_)
      by_cases hbig : 2 ^ 31 ≤ q_sz B v
      · refine gn_lt hbig hs (by omega) ?_
        exact three (by unfold q_box; rw [decide_eq_false (show ¬ v + q_sz B v ≤ stop by omega), Bool.and_false]; rfl)
      first | refine gb_lt (by omega) (by omega) (fun c3 => ?_) (fun c3 => ?_) | refine gb_ge (by omega) (by omega) (fun c3 => ?_) (fun c3 => ?_) | refine gb_gt (by omega) (by omega) (fun c3 => ?_) (fun c3 => ?_) | refine gb_le (by omega) (by omega) (fun c3 => ?_) (fun c3 => ?_) | refine gb_eq (by omega) (by omega) (fun c3 => ?_) (fun c3 => ?_) | refine gb_ne (by omega) (by omega) (fun c3 => ?_) (fun c3 => ?_)
      · exact three (by unfold q_box; rw [decide_eq_false (show ¬ 5 ≤ q_sz B v by omega), Bool.and_false]; rfl)
      repeat (first | refine gi_con ?_ | refine gi_bip (Nat.le_of_ble_eq_true rfl) ?_ | refine gi_sip (Nat.le_of_ble_eq_true rfl) ?_ | refine gi_ldc ?_ | refine gi_add ?_ | refine gi_inc rfl ?_ | refine gi_sub (by omega) ?_ | refine gi_mul ?_ | refine go_nx rfl ?_)
      first | refine gb_lt (by omega) (by omega) (fun c4 => ?_) (fun c4 => ?_) | refine gb_ge (by omega) (by omega) (fun c4 => ?_) (fun c4 => ?_) | refine gb_gt (by omega) (by omega) (fun c4 => ?_) (fun c4 => ?_) | refine gb_le (by omega) (by omega) (fun c4 => ?_) (fun c4 => ?_) | refine gb_eq (by omega) (by omega) (fun c4 => ?_) (fun c4 => ?_) | refine gb_ne (by omega) (by omega) (fun c4 => ?_) (fun c4 => ?_)
      · exact three (by unfold q_box; rw [decide_eq_false (show ¬ v + q_sz B v ≤ stop by omega), Bool.and_false]; rfl)
      repeat (first | refine gi_con ?_ | refine gi_bip (Nat.le_of_ble_eq_true rfl) ?_ | refine gi_sip (Nat.le_of_ble_eq_true rfl) ?_ | refine gi_ldc ?_ | refine gi_add ?_ | refine gi_inc rfl ?_ | refine gi_sub (by omega) ?_ | refine gi_mul ?_ | refine go_nx rfl ?_)
      refine gm_gs hm rfl ?_
      repeat (first | refine gi_con ?_ | refine gi_bip (Nat.le_of_ble_eq_true rfl) ?_ | refine gi_sip (Nat.le_of_ble_eq_true rfl) ?_ | refine gi_ldc ?_ | refine gi_add ?_ | refine gi_inc rfl ?_ | refine gi_sub (by omega) ?_ | refine gi_mul ?_ | refine go_nx rfl ?_)
      refine gm_ld hm (by omega) ?_
      rw [show b + v + q_sz B v - 1 = b + q_last B v by unfold q_last; omega, hw.1 _ (by unfold q_last; omega)]
      refine gs_eq (hw.2.2.2.1 _) (fun c5 => ?_) (fun c5 => ?_)
      · rw [decide_eq_true (show v + 5 ≤ stop by omega), decide_eq_true (show 5 ≤ q_sz B v by omega), decide_eq_true (show v + q_sz B v ≤ stop by omega), decide_eq_true c5, Bool.true_and, Bool.true_and, Bool.true_and, Bool.true_and] at hq
        have hlast : q_last B v < stop := by unfold q_last; omega
        have loop : ∀ (f p : Nat) (prev : List Nat) (x9 : Value), q_last B v < f + p → p ≤ q_last B v → q_run B p (v + 4) prev → (∀ x ∈ prev, q_ok B n x ∧ x < p) → 2 * prev.length ≤ p → Q (some (.int (q_t (q_ch (q_u8 B) (q_box (q_u8 B) B k) B row (q_last B v) f prev p)))) h → mm_Go E d 119 (mm_blk 119 5) [.ref o, .int (nI (b + v)), .int (nI (b + stop)), .int (nI (17 - (k + 1))), .int (q_t row), .int (nI (q_sz B v)), .int (nI (b + q_last B v)), .int (nI (b + p)), .int (nI prev.length), x9] [] h Q := by
          intro f
          induction f with
          | zero => intro p prev x9 hf hp; omega
          | succ f ihf =>
            intro p prev x9 hf hp hrun hprev hlen hq
            unfold q_ch at hq
            repeat (first | refine gi_con ?_ | refine gi_bip (Nat.le_of_ble_eq_true rfl) ?_ | refine gi_sip (Nat.le_of_ble_eq_true rfl) ?_ | refine gi_ldc ?_ | refine gi_add ?_ | refine gi_inc rfl ?_ | refine gi_sub (by omega) ?_ | refine gi_mul ?_ | refine go_nx rfl ?_)
            first | refine gb_lt (by omega) (by omega) (fun c6 => ?_) (fun c6 => ?_) | refine gb_ge (by omega) (by omega) (fun c6 => ?_) (fun c6 => ?_) | refine gb_gt (by omega) (by omega) (fun c6 => ?_) (fun c6 => ?_) | refine gb_le (by omega) (by omega) (fun c6 => ?_) (fun c6 => ?_) | refine gb_eq (by omega) (by omega) (fun c6 => ?_) (fun c6 => ?_) | refine gb_ne (by omega) (by omega) (fun c6 => ?_) (fun c6 => ?_)
            · rw [if_neg (by omega), decide_eq_true (by omega)] at hq
              repeat (first | refine gi_con ?_ | refine gi_bip (Nat.le_of_ble_eq_true rfl) ?_ | refine gi_sip (Nat.le_of_ble_eq_true rfl) ?_ | refine gi_ldc ?_ | refine gi_add ?_ | refine gi_inc rfl ?_ | refine gi_sub (by omega) ?_ | refine gi_mul ?_ | refine go_nx rfl ?_)
              refine go_rt rfl ?_
              exact hq
            rw [if_pos (by omega)] at hq
            have hnp := q_ne_is hw.2.2 (show p ≤ 2000 by omega)
            have hneL := q_ne_le hw.2.2 (show p + 1 ≤ n by omega)
            have eight : ∀ (x9 : Value), q_el (q_u8 B) (q_box (q_u8 B) B k) B row (q_last B v) prev p = false → mm_Go E d 119 (mm_blk 119 8) [.ref o, .int (nI (b + v)), .int (nI (b + stop)), .int (nI (17 - (k + 1))), .int (q_t row), .int (nI (q_sz B v)), .int (nI (b + q_last B v)), .int (nI (b + p)), .int (nI prev.length), x9] [] h Q := by
              intro x9 e
              rw [e] at hq
              repeat (first | refine gi_con ?_ | refine gi_bip (Nat.le_of_ble_eq_true rfl) ?_ | refine gi_sip (Nat.le_of_ble_eq_true rfl) ?_ | refine gi_ldc ?_ | refine gi_add ?_ | refine gi_inc rfl ?_ | refine gi_sub (by omega) ?_ | refine gi_mul ?_ | refine go_nx rfl ?_)
              refine go_rt rfl ?_
              exact hq
            have seven : ∀ e, (q_last B v ≤ e ∧ q_last B v ≤ q_ne B p ∨ e = q_ne B p) → e ≤ q_last B v → mm_Go E d 119 (mm_blk 119 7) [.ref o, .int (nI (b + v)), .int (nI (b + stop)), .int (nI (17 - (k + 1))), .int (q_t row), .int (nI (q_sz B v)), .int (nI (b + q_last B v)), .int (nI (b + p)), .int (nI prev.length), .int (nI (b + e))] [] h Q := by
              intro e he hel
              repeat (first | refine gi_con ?_ | refine gi_bip (Nat.le_of_ble_eq_true rfl) ?_ | refine gi_sip (Nat.le_of_ble_eq_true rfl) ?_ | refine gi_ldc ?_ | refine gi_add ?_ | refine gi_inc rfl ?_ | refine gi_sub (by omega) ?_ | refine gi_mul ?_ | refine go_nx rfl ?_)
              first | refine gb_lt (by omega) (by omega) (fun c7 => ?_) (fun c7 => ?_) | refine gb_ge (by omega) (by omega) (fun c7 => ?_) (fun c7 => ?_) | refine gb_gt (by omega) (by omega) (fun c7 => ?_) (fun c7 => ?_) | refine gb_le (by omega) (by omega) (fun c7 => ?_) (fun c7 => ?_) | refine gb_eq (by omega) (by omega) (fun c7 => ?_) (fun c7 => ?_) | refine gb_ne (by omega) (by omega) (fun c7 => ?_) (fun c7 => ?_)
              · exact eight _ (by unfold q_el; rw [decide_eq_false (by omega)]; rfl)
              have hee : e = q_ne B p := he.resolve_left (by omega)
              subst hee
              repeat (first | refine gi_con ?_ | refine gi_bip (Nat.le_of_ble_eq_true rfl) ?_ | refine gi_sip (Nat.le_of_ble_eq_true rfl) ?_ | refine gi_ldc ?_ | refine gi_add ?_ | refine gi_inc rfl ?_ | refine gi_sub (by omega) ?_ | refine gi_mul ?_ | refine go_nx rfl ?_)
              refine go_step ?_
              refine g_callV (by decide) (by decide) (Nat.le_of_ble_eq_true rfl) (Nat.le_of_ble_eq_true rfl) (mSt_rcv hm) (by omega) (Nat.le_of_ble_eq_true rfl) rfl ?_
              rw [Nat.add_assoc]
              refine sp_mtext (by omega) hm (fun j hj => hw.1 j (by omega)) (by omega) (by omega) hw.2.2.2.1 ?_
              repeat (first | refine gi_con ?_ | refine gi_bip (Nat.le_of_ble_eq_true rfl) ?_ | refine gi_sip (Nat.le_of_ble_eq_true rfl) ?_ | refine gi_ldc ?_ | refine gi_add ?_ | refine gi_inc rfl ?_ | refine gi_sub (by omega) ?_ | refine gi_mul ?_ | refine go_nx rfl ?_)
              first | refine gt_eq (fun c8 => ?_) (fun c8 => ?_) | refine gt_ne (fun c8 => ?_) (fun c8 => ?_)
              · exact eight _ (by unfold q_el; rw [q_u8_tx, c8, Bool.false_and, Bool.and_false])
              repeat (first | refine gi_con ?_ | refine gi_bip (Nat.le_of_ble_eq_true rfl) ?_ | refine gi_sip (Nat.le_of_ble_eq_true rfl) ?_ | refine gi_ldc ?_ | refine gi_add ?_ | refine gi_inc rfl ?_ | refine gi_sub (by omega) ?_ | refine gi_mul ?_ | refine go_nx rfl ?_)
              refine go_step ?_
              refine g_callV (by decide) (by decide) (Nat.le_of_ble_eq_true rfl) (Nat.le_of_ble_eq_true rfl) (mSt_rcv hm) (by omega) (Nat.le_of_ble_eq_true rfl) rfl ?_
              refine sp_misname (by omega) hm hw (by omega) (by omega) hrun hprev (by omega) ?_
              repeat (first | refine gi_con ?_ | refine gi_bip (Nat.le_of_ble_eq_true rfl) ?_ | refine gi_sip (Nat.le_of_ble_eq_true rfl) ?_ | refine gi_ldc ?_ | refine gi_add ?_ | refine gi_inc rfl ?_ | refine gi_sub (by omega) ?_ | refine gi_mul ?_ | refine go_nx rfl ?_)
              first | refine gt_eq (fun c9 => ?_) (fun c9 => ?_) | refine gt_ne (fun c9 => ?_) (fun c9 => ?_)
              · exact eight _ (by unfold q_el; rw [c9, Bool.and_false]; rfl)
              repeat (first | refine gi_con ?_ | refine gi_bip (Nat.le_of_ble_eq_true rfl) ?_ | refine gi_sip (Nat.le_of_ble_eq_true rfl) ?_ | refine gi_ldc ?_ | refine gi_add ?_ | refine gi_inc rfl ?_ | refine gi_sub (by omega) ?_ | refine gi_mul ?_ | refine go_nx rfl ?_)
              refine go_step ?_
              refine g_callV (by decide) (by decide) (Nat.le_of_ble_eq_true rfl) (Nat.le_of_ble_eq_true rfl) (mSt_rcv hm) (by omega) (Nat.le_of_ble_eq_true rfl) rfl ?_
              refine sp_mat2 hm hw (by omega) ?_
              repeat (first | refine gi_con ?_ | refine gi_bip (Nat.le_of_ble_eq_true rfl) ?_ | refine gi_sip (Nat.le_of_ble_eq_true rfl) ?_ | refine gi_ldc ?_ | refine gi_add ?_ | refine gi_inc rfl ?_ | refine gi_sub (by omega) ?_ | refine gi_mul ?_ | refine go_nx rfl ?_)
              refine go_step ?_
              refine g_callV (by decide) (by decide) (Nat.le_of_ble_eq_true rfl) (Nat.le_of_ble_eq_true rfl) (mSt_rcv hm) (by omega) (Nat.le_of_ble_eq_true rfl) rfl ?_
              refine sp_misval (vb := q_box (q_u8 B) B k) (by omega) hm hw (by omega) (by omega) (by omega) (fun row' Q' hq' => ?_) ?_
              · rw [show 17 - (k + 1) + 1 = 17 - k by omega]
                exact ih (d - 1 - 1) (q_val B p) (q_last B v) row' Q' (by omega) (by omega) hm hw (by unfold q_val; omega) (by omega) hq'
              have he2 : q_el (q_u8 B) (q_box (q_u8 B) B k) B row (q_last B v) prev p = (q_vok (q_box (q_u8 B) B k) B p (q_last B v) && q_tx B p) := by
                unfold q_el
                rw [q_u8_tx, c8, c9, decide_eq_true (by omega), Bool.true_and, Bool.true_and, Bool.true_and]
              repeat (first | refine gi_con ?_ | refine gi_bip (Nat.le_of_ble_eq_true rfl) ?_ | refine gi_sip (Nat.le_of_ble_eq_true rfl) ?_ | refine gi_ldc ?_ | refine gi_add ?_ | refine gi_inc rfl ?_ | refine gi_sub (by omega) ?_ | refine gi_mul ?_ | refine go_nx rfl ?_)
              first | refine gt_eq (fun c10 => ?_) (fun c10 => ?_) | refine gt_ne (fun c10 => ?_) (fun c10 => ?_)
              · rw [he2, c10, Bool.true_and] at hq
                rw [Bool.and_eq_true] at c10
                have hvk := q_vok_ok (show q_ne B p < q_last B v by omega) c10.1
                have hok : q_ok B n p := ⟨by omega, by omega, by omega, hvk.2⟩
                obtain ⟨i1, i2, i3⟩ := q_ok_in hw.2.2 hok
                repeat (first | refine gi_con ?_ | refine gi_bip (Nat.le_of_ble_eq_true rfl) ?_ | refine gi_sip (Nat.le_of_ble_eq_true rfl) ?_ | refine gi_ldc ?_ | refine gi_add ?_ | refine gi_inc rfl ?_ | refine gi_sub (by omega) ?_ | refine gi_mul ?_ | refine go_nx rfl ?_)
                refine go_step ?_
                refine g_callV (by decide) (by decide) (Nat.le_of_ble_eq_true rfl) (Nat.le_of_ble_eq_true rfl) (mSt_rcv hm) (by omega) (Nat.le_of_ble_eq_true rfl) rfl ?_
                refine sp_mat2 hm hw (by omega) ?_
                repeat (first | refine gi_con ?_ | refine gi_bip (Nat.le_of_ble_eq_true rfl) ?_ | refine gi_sip (Nat.le_of_ble_eq_true rfl) ?_ | refine gi_ldc ?_ | refine gi_add ?_ | refine gi_inc rfl ?_ | refine gi_sub (by omega) ?_ | refine gi_mul ?_ | refine go_nx rfl ?_)
                refine go_step ?_
                refine g_callV (by decide) (by decide) (Nat.le_of_ble_eq_true rfl) (Nat.le_of_ble_eq_true rfl) (mSt_rcv hm) (by omega) (Nat.le_of_ble_eq_true rfl) rfl ?_
                refine sp_mbeh (k := q_val B p) (by omega) hm hw (hw.2.2.2.1 p) (by omega) i3 ?_
                repeat (first | refine gi_con ?_ | refine gi_bip (Nat.le_of_ble_eq_true rfl) ?_ | refine gi_sip (Nat.le_of_ble_eq_true rfl) ?_ | refine gi_ldc ?_ | refine gi_add ?_ | refine gi_inc rfl ?_ | refine gi_sub (by omega) ?_ | refine gi_mul ?_ | refine go_nx rfl ?_)
                refine go_jp rfl ?_
                have e1 : b + q_val B p + q_ln B (B p) (q_val B p) = b + q_next B p := by unfold q_next; omega
                rw [e1]
                have hl2 : (prev ++ [p]).length = prev.length + 1 := by rw [List.length_append]; rfl
                have := ihf (q_next B p) (prev ++ [p]) (.int (nI (b + q_ne B p))) (by omega) (by omega) (q_run_snoc hrun) (fun x hx => ?_) (by rw [hl2]; omega) hq
                · rw [hl2] at this
                  exact this
                · rcases List.mem_append.mp hx with hx | hx
                  · exact ⟨(hprev x hx).1, by have := (hprev x hx).2; omega⟩
                  · rw [List.mem_singleton.mp hx]
                    exact ⟨hok, by omega⟩
              · refine go_jp rfl ?_
                exact eight _ (by rw [he2]; exact c10)
            have scan : ∀ (g e : Nat), g + e = q_last B v → p + 1 ≤ e → e ≤ q_ne B p → mm_Go E d 119 (mm_blk 119 6) [.ref o, .int (nI (b + v)), .int (nI (b + stop)), .int (nI (17 - (k + 1))), .int (q_t row), .int (nI (q_sz B v)), .int (nI (b + q_last B v)), .int (nI (b + p)), .int (nI prev.length), .int (nI (b + e))] [] h Q := by
              intro g
              induction g with
              | zero =>
                intro e hg he1 he2
                repeat (first | refine gi_con ?_ | refine gi_bip (Nat.le_of_ble_eq_true rfl) ?_ | refine gi_sip (Nat.le_of_ble_eq_true rfl) ?_ | refine gi_ldc ?_ | refine gi_add ?_ | refine gi_inc rfl ?_ | refine gi_sub (by omega) ?_ | refine gi_mul ?_ | refine go_nx rfl ?_)
                first | refine gb_lt (by omega) (by omega) (fun c7 => ?_) (fun c7 => ?_) | refine gb_ge (by omega) (by omega) (fun c7 => ?_) (fun c7 => ?_) | refine gb_gt (by omega) (by omega) (fun c7 => ?_) (fun c7 => ?_) | refine gb_le (by omega) (by omega) (fun c7 => ?_) (fun c7 => ?_) | refine gb_eq (by omega) (by omega) (fun c7 => ?_) (fun c7 => ?_) | refine gb_ne (by omega) (by omega) (fun c7 => ?_) (fun c7 => ?_)
                · exact seven e (Or.inl ⟨by omega, by omega⟩) (by omega)
                · omega
              | succ g ihg =>
                intro e hg he1 he2
                repeat (first | refine gi_con ?_ | refine gi_bip (Nat.le_of_ble_eq_true rfl) ?_ | refine gi_sip (Nat.le_of_ble_eq_true rfl) ?_ | refine gi_ldc ?_ | refine gi_add ?_ | refine gi_inc rfl ?_ | refine gi_sub (by omega) ?_ | refine gi_mul ?_ | refine go_nx rfl ?_)
                first | refine gb_lt (by omega) (by omega) (fun c7 => ?_) (fun c7 => ?_) | refine gb_ge (by omega) (by omega) (fun c7 => ?_) (fun c7 => ?_) | refine gb_gt (by omega) (by omega) (fun c7 => ?_) (fun c7 => ?_) | refine gb_le (by omega) (by omega) (fun c7 => ?_) (fun c7 => ?_) | refine gb_eq (by omega) (by omega) (fun c7 => ?_) (fun c7 => ?_) | refine gb_ne (by omega) (by omega) (fun c7 => ?_) (fun c7 => ?_)
                · omega
                repeat (first | refine gi_con ?_ | refine gi_bip (Nat.le_of_ble_eq_true rfl) ?_ | refine gi_sip (Nat.le_of_ble_eq_true rfl) ?_ | refine gi_ldc ?_ | refine gi_add ?_ | refine gi_inc rfl ?_ | refine gi_sub (by omega) ?_ | refine gi_mul ?_ | refine go_nx rfl ?_)
                refine gm_gs hm rfl ?_
                repeat (first | refine gi_con ?_ | refine gi_bip (Nat.le_of_ble_eq_true rfl) ?_ | refine gi_sip (Nat.le_of_ble_eq_true rfl) ?_ | refine gi_ldc ?_ | refine gi_add ?_ | refine gi_inc rfl ?_ | refine gi_sub (by omega) ?_ | refine gi_mul ?_ | refine go_nx rfl ?_)
                refine gm_ld hm (by omega) ?_
                rw [hw.1 _ (by omega)]
                refine gs_eq (hw.2.2.2.1 _) (fun c8 => ?_) (fun c8 => ?_)
                · refine seven e (Or.inr ?_) (by omega)
                  by_cases hlt : e < q_ne B p
                  · exact absurd c8 (hnp.2.2 e he1 hlt)
                  · omega
                · repeat (first | refine gi_con ?_ | refine gi_bip (Nat.le_of_ble_eq_true rfl) ?_ | refine gi_sip (Nat.le_of_ble_eq_true rfl) ?_ | refine gi_ldc ?_ | refine gi_add ?_ | refine gi_inc rfl ?_ | refine gi_sub (by omega) ?_ | refine gi_mul ?_ | refine go_nx rfl ?_)
                  refine go_jp rfl ?_
                  rw [Nat.add_assoc]
                  refine ihg (e + 1) (by omega) (by omega) ?_
                  by_cases hlt : e < q_ne B p
                  · exact hlt
                  · exact absurd (show B e = 0 by rw [show e = q_ne B p by omega]; exact hnp.2.1) c8
            repeat (first | refine gi_con ?_ | refine gi_bip (Nat.le_of_ble_eq_true rfl) ?_ | refine gi_sip (Nat.le_of_ble_eq_true rfl) ?_ | refine gi_ldc ?_ | refine gi_add ?_ | refine gi_inc rfl ?_ | refine gi_sub (by omega) ?_ | refine gi_mul ?_ | refine go_nx rfl ?_)
            refine go_jp rfl ?_
            rw [Nat.add_assoc]
            exact scan (q_last B v - (p + 1)) (p + 1) (by omega) (by omega) (by omega)
        repeat (first | refine gi_con ?_ | refine gi_bip (Nat.le_of_ble_eq_true rfl) ?_ | refine gi_sip (Nat.le_of_ble_eq_true rfl) ?_ | refine gi_ldc ?_ | refine gi_add ?_ | refine gi_inc rfl ?_ | refine gi_sub (by omega) ?_ | refine gi_mul ?_ | refine go_nx rfl ?_)
        refine go_jp rfl ?_
        rw [show b + v + q_sz B v - 1 = b + q_last B v by unfold q_last; omega, Nat.add_assoc]
        exact loop 2001 (v + 4) [] _ (by omega) (by unfold q_last; omega) rfl (fun x hx => by cases hx) (by simp) hq
      · refine go_jp rfl ?_
        exact three (by unfold q_box; rw [decide_eq_false c5, Bool.and_false]; rfl)
    · omega
theorem sp_misdoc (hd : 40 ≤ d) (hm : mSt h o st R) (hw : mW R 20000 n B) (hq : Q (some (.int (q_t (q_doc B n)))) h) : mm_Go E d 117 (mm_blk 117 0) [.ref o, .int (nI n)] [] h Q := by
  have w2 := hw.2.1
  have hs := q_sz_lt hw.2.2.2.1 0
  have one : q_doc B n = false → mm_Go E d 117 (mm_blk 117 1) [.ref o, .int (nI n)] [] h Q := by
    intro e
    rw [e] at hq
    repeat (first | refine gi_con ?_ | refine gi_bip (Nat.le_of_ble_eq_true rfl) ?_ | refine gi_sip (Nat.le_of_ble_eq_true rfl) ?_ | refine gi_ldc ?_ | refine gi_add ?_ | refine gi_inc rfl ?_ | refine gi_sub (by omega) ?_ | refine gi_mul ?_ | refine go_nx rfl ?_)
    refine go_jp rfl ?_
    refine go_rt rfl ?_
    exact hq
  unfold q_doc at one hq
  repeat (first | refine gi_con ?_ | refine gi_bip (Nat.le_of_ble_eq_true rfl) ?_ | refine gi_sip (Nat.le_of_ble_eq_true rfl) ?_ | refine gi_ldc ?_ | refine gi_add ?_ | refine gi_inc rfl ?_ | refine gi_sub (by omega) ?_ | refine gi_mul ?_ | refine go_nx rfl ?_)
  first | refine gb_lt (by omega) (by omega) (fun c1 => ?_) (fun c1 => ?_) | refine gb_ge (by omega) (by omega) (fun c1 => ?_) (fun c1 => ?_) | refine gb_gt (by omega) (by omega) (fun c1 => ?_) (fun c1 => ?_) | refine gb_le (by omega) (by omega) (fun c1 => ?_) (fun c1 => ?_) | refine gb_eq (by omega) (by omega) (fun c1 => ?_) (fun c1 => ?_) | refine gb_ne (by omega) (by omega) (fun c1 => ?_) (fun c1 => ?_)
  · refine one ?_
    by_cases e : q_sz B 0 = n
    · rw [decide_eq_true e, Bool.true_and]
      unfold q_box
      rw [decide_eq_false (show ¬ 0 + 5 ≤ n by omega)]
      rfl
    · rw [decide_eq_false e]
      rfl
  repeat (first | refine gi_con ?_ | refine gi_bip (Nat.le_of_ble_eq_true rfl) ?_ | refine gi_sip (Nat.le_of_ble_eq_true rfl) ?_ | refine gi_ldc ?_ | refine gi_add ?_ | refine gi_inc rfl ?_ | refine gi_sub (by omega) ?_ | refine gi_mul ?_ | refine go_nx rfl ?_)
  refine go_step ?_
  refine g_callV (by decide) (by decide) (Nat.le_of_ble_eq_true rfl) (Nat.le_of_ble_eq_true rfl) (mSt_rcv hm) (by omega) (Nat.le_of_ble_eq_true rfl) rfl ?_
  refine sp_mwh (v := 0) (by omega) hm hw (by omega) ?_
  repeat (first | refine gi_con ?_ | refine gi_bip (Nat.le_of_ble_eq_true rfl) ?_ | refine gi_sip (Nat.le_of_ble_eq_true rfl) ?_ | refine gi_ldc ?_ | refine gi_add ?_ | refine gi_inc rfl ?_ | refine gi_sub (by omega) ?_ | refine gi_mul ?_ | refine go_nx rfl ?_)
  refine go_br (c := decide (¬ nI (q_sz B 0) = nI n)) rfl (fun c => ?_) (fun c => ?_)
  · exact one (by rw [decide_eq_false (fun q => of_decide_eq_true c (by rw [q]))]; rfl)
  · have e : q_sz B 0 = n := by
      have c1 := Classical.not_not.mp (of_decide_eq_false c)
      have c2 := congrArg (fun x : Int32 => x.toBitVec.toNat) c1
      rw [pk_tn hs, pk_tn (by omega)] at c2
      exact c2
    rw [decide_eq_true e, Bool.true_and] at hq one
    repeat (first | refine gi_con ?_ | refine gi_bip (Nat.le_of_ble_eq_true rfl) ?_ | refine gi_sip (Nat.le_of_ble_eq_true rfl) ?_ | refine gi_ldc ?_ | refine gi_add ?_ | refine gi_inc rfl ?_ | refine gi_sub (by omega) ?_ | refine gi_mul ?_ | refine go_nx rfl ?_)
    refine go_step ?_
    refine g_callV (by decide) (by decide) (Nat.le_of_ble_eq_true rfl) (Nat.le_of_ble_eq_true rfl) (mSt_rcv hm) (by omega) (Nat.le_of_ble_eq_true rfl) rfl ?_
    refine sp_misbox (b := 20000) 16 (d - 1) 0 n false _ (by omega) (by omega) hm hw (by omega) (by omega) ?_
    repeat (first | refine gi_con ?_ | refine gi_bip (Nat.le_of_ble_eq_true rfl) ?_ | refine gi_sip (Nat.le_of_ble_eq_true rfl) ?_ | refine gi_ldc ?_ | refine gi_add ?_ | refine gi_inc rfl ?_ | refine gi_sub (by omega) ?_ | refine gi_mul ?_ | refine go_nx rfl ?_)
    first | refine gt_eq (fun c3 => ?_) (fun c3 => ?_) | refine gt_ne (fun c3 => ?_) (fun c3 => ?_)
    · exact one c3
    · rw [c3] at hq
      repeat (first | refine gi_con ?_ | refine gi_bip (Nat.le_of_ble_eq_true rfl) ?_ | refine gi_sip (Nat.le_of_ble_eq_true rfl) ?_ | refine gi_ldc ?_ | refine gi_add ?_ | refine gi_inc rfl ?_ | refine gi_sub (by omega) ?_ | refine gi_mul ?_ | refine go_nx rfl ?_)
      refine go_jp rfl ?_
      refine go_rt rfl ?_
      exact hq
end M
end
section
/-! VALID DOCUMENTS: walking over elements -/
/-- a right chain of elements goes on at p, the i-th -/
def q_at (u : Nat → Bool) (k : Nat) (B : Nat → Nat) (row : Bool) (last p i : Nat) : Prop := ∃ f prev, prev.length = i ∧ q_ch u (q_box u B k) B row last f prev p = true
section W
variable {u : Nat → Bool} {k : Nat} {B : Nat → Nat} {row : Bool} {last p i v stop : Nat}
theorem q_at_le (h : q_at u k B row last p i) : p ≤ last := by
  obtain ⟨f, prev, -, h⟩ := h
  cases f with
  | zero => cases h
  | succ f =>
    unfold q_ch at h
    split at h
    · omega
    · exact Nat.le_of_eq (of_decide_eq_true h)
theorem q_at_el (h : q_at u k B row last p i) (hp : p < last) : q_ne B p < last ∧ q_vok (q_box u B k) B p last = true ∧ u p = true ∧ (row = true → q_dec B (p + 1) (q_ne B p + 1) (q_ne B p) i = true) ∧ q_at u k B row last (q_next B p) (i + 1) := by
  obtain ⟨f, prev, hl, h⟩ := h
  cases f with
  | zero => cases h
  | succ f =>
    unfold q_ch at h
    rw [if_pos hp, Bool.and_eq_true] at h
    obtain ⟨h1, h2⟩ := h
    unfold q_el at h1
    simp only [Bool.and_eq_true, decide_eq_true_eq] at h1
    obtain ⟨⟨⟨h3, h4⟩, h5⟩, h6⟩ := h1
    refine ⟨h3, h5, h6, fun hr => ?_, f, prev ++ [p], by rw [List.length_append, hl]; rfl, h2⟩
    unfold q_nm at h4
    rw [if_pos hr, hl] at h4
    exact h4
theorem q_box_at (h : q_box u B (k + 1) v stop row = true) : v + 5 ≤ stop ∧ 5 ≤ q_sz B v ∧ v + q_sz B v ≤ stop ∧ q_at u k B row (q_last B v) (v + 4) 0 := by
  unfold q_box at h
  simp only [Bool.and_eq_true, decide_eq_true_eq] at h
  exact ⟨h.1.1.1.1, h.1.1.1.2, h.1.1.2, 2001, [], rfl, h.2⟩
theorem q_box_pos (h : q_box u B k v stop row = true) : 1 ≤ k := by
  cases k with
  | zero => cases h
  | succ k => omega
theorem q_at_box (h : q_vok (q_box u B k) B p last = true) : (B p = 3 → q_box u B k (q_val B p) last false = true) ∧ (B p = 4 → q_box u B k (q_val B p) last true = true) := by
  unfold q_vok at h
  refine ⟨fun q => ?_, fun q => ?_⟩
  · rw [if_neg (by omega), if_neg (by omega), if_neg (by omega), if_neg (by omega), if_neg (by omega), if_pos q] at h
    exact h
  · rw [if_neg (by omega), if_neg (by omega), if_neg (by omega), if_neg (by omega), if_neg (by omega), if_neg (by omega), if_pos q] at h
    exact h
theorem q_vok_kind (h : q_vok (q_box u B k) B p last = true) : B p = 16 ∨ B p = 18 ∨ B p = 8 ∨ B p = 2 ∨ B p = 10 ∨ B p = 3 ∨ B p = 4 := by
  unfold q_vok at h
  by_cases h1 : B p = 16
  · exact Or.inl h1
  by_cases h2 : B p = 18
  · exact Or.inr (Or.inl h2)
  by_cases h3 : B p = 8
  · exact Or.inr (Or.inr (Or.inl h3))
  by_cases h4 : B p = 2
  · exact Or.inr (Or.inr (Or.inr (Or.inl h4)))
  by_cases h5 : B p = 10
  · exact Or.inr (Or.inr (Or.inr (Or.inr (Or.inl h5))))
  by_cases h6 : B p = 3
  · exact Or.inr (Or.inr (Or.inr (Or.inr (Or.inr (Or.inl h6)))))
  by_cases h7 : B p = 4
  · exact Or.inr (Or.inr (Or.inr (Or.inr (Or.inr (Or.inr h7)))))
  rw [if_neg h1, if_neg h2, if_neg h3, if_neg h4, if_neg h5, if_neg h6, if_neg h7] at h
  cases h
theorem q_at_ok {n : Nat} (h : q_at u k B row last p i) (hp : p < last) (hl : last ≤ n) : q_ok B n p := by
  obtain ⟨h1, h2, -⟩ := q_at_el h hp
  have := q_vok_ok h1 h2
  exact ⟨by omega, by omega, by omega, this.2⟩
end W
/-! THE REFERENCE'S STATE: I its numbers, C its rows, at the cells ad, over a heap h -/
def uf {α : Type} (f : Nat → α) (k : Nat) (x : α) : Nat → α := fun j => if j = k then x else f j
theorem uf_at {α : Type} (f : Nat → α) (k : Nat) (x : α) : uf f k x k = x := if_pos rfl
theorem uf_ne {α : Type} {f : Nat → α} {k j : Nat} {x : α} (h : j ≠ k) : uf f k x j = f j := if_neg h
def mKs : List Nat := [1, 5, 6, 7, 8, 12, 13, 14, 15, 17]
def mTag (k : Nat) : Nat := if k = 1 then 0 else if k = 5 then 2 else 1
def mLen (k : Nat) : Nat := if k = 1 then 22100 else if k < 12 then 8 else if k < 14 then 120 else if k = 14 then 3 else if k = 15 then 24000 else 8000
def mFl (I : Nat → Int32) (ad : Nat → Nat) : List Value := [.int (I 0), .ref (ad 1), .int (I 2), .int (I 3), .int (I 4), .ref (ad 5), .ref (ad 6), .ref (ad 7), .ref (ad 8), .int (I 9), .int (I 10), .int (I 11), .ref (ad 12), .ref (ad 13), .ref (ad 14), .ref (ad 15), .int (I 16), .ref (ad 17)]
def mH (h : mmH) (o : Nat) (ad : Nat → Nat) (I : Nat → Int32) (C : Nat → Nat → Int32) : mmH := (h.1, h.2.1, fun a => if a = o then some (.inr (10, mFl I ad)) else match mKs.find? (fun k => ad k == a) with
  | some k => some (.inl (mTag k, mLen k, .inl (C k)))
  | none => h.2.2 a)
def mD (o : Nat) (ad : Nat → Nat) : Prop := (∀ k ∈ mKs, ad k ≠ o) ∧ ∀ k ∈ mKs, ∀ j ∈ mKs, ad k = ad j → k = j
section MH
variable {h : mmH} {o : Nat} {ad : Nat → Nat} {I : Nat → Int32} {C : Nat → Nat → Int32} {k : Nat}
theorem mH_o : (mH h o ad I C).2.2 o = some (.inr (10, mFl I ad)) := if_pos rfl
theorem mH_find (hD : mD o ad) (hk : k ∈ mKs) : mKs.find? (fun j => ad j == ad k) = some k := by
  cases hf : mKs.find? (fun j => ad j == ad k) with
  | none =>
    have := List.find?_eq_none.mp hf k hk
    simp at this
  | some j =>
    have h1 := List.find?_some hf
    have h2 := List.mem_of_find?_eq_some hf
    rw [hD.2 j h2 k hk (by simpa using h1)]
theorem mH_a (hD : mD o ad) (hk : k ∈ mKs) : (mH h o ad I C).2.2 (ad k) = some (.inl (mTag k, mLen k, .inl (C k))) := by
  show (if ad k = o then _ else _) = _
  rw [if_neg (hD.1 k hk), mH_find hD hk]
theorem mH_other {a : Nat} (h1 : a ≠ o) (h2 : ∀ k ∈ mKs, a ≠ ad k) : (mH h o ad I C).2.2 a = h.2.2 a := by
  show (if a = o then _ else _) = _
  rw [if_neg h1]
  have : mKs.find? (fun j => ad j == a) = none := by
    rw [List.find?_eq_none]
    intro j hj
    simpa using (h2 j hj).symm
  rw [this]
theorem mH_put {v : Int32} (hk : k ∈ [0, 2, 3, 4, 9, 10, 11, 16]) : mm_set (mH h o ad I C) o (.inr (10, (mFl I ad).set k (.int v))) = mH h o ad (uf I k v) C := by
  have e : (mFl I ad).set k (.int v) = mFl (uf I k v) ad := by
    simp only [List.mem_cons, List.not_mem_nil, or_false] at hk
    rcases hk with rfl | rfl | rfl | rfl | rfl | rfl | rfl | rfl <;> rfl
  rw [e]
  refine Prod.ext rfl (Prod.ext rfl ?_)
  funext a
  show va_up (mH h o ad I C).2.2 o _ a = _
  unfold va_up
  by_cases ha : a = o
  · rw [if_pos ha, ha, mH_o]
  · rw [if_neg ha]
    show (if a = o then _ else _) = (if a = o then _ else _)
    rw [if_neg ha, if_neg ha]
theorem mH_arr {f : Nat → Int32} (hD : mD o ad) (hk : k ∈ mKs) : mm_set (mH h o ad I C) (ad k) (.inl (mTag k, mLen k, .inl f)) = mH h o ad I (uf C k f) := by
  refine Prod.ext rfl (Prod.ext rfl ?_)
  funext a
  show va_up (mH h o ad I C).2.2 (ad k) _ a = _
  unfold va_up
  by_cases ha : a = ad k
  · rw [if_pos ha, ha, mH_a hD hk, uf_at]
  · rw [if_neg ha]
    show (if a = o then _ else _) = (if a = o then _ else _)
    by_cases ho : a = o
    · rw [if_pos ho, if_pos ho]
    · rw [if_neg ho, if_neg ho]
      cases hf : mKs.find? (fun k => ad k == a) with
      | none => rfl
      | some j =>
        have h1 := List.find?_some hf
        have h2 : ad j = a := by simpa using h1
        have h3 : j ≠ k := fun q => ha (by rw [← h2, q])
        dsimp only
        rw [uf_ne h3]
theorem mH_st {R : Nat → Nat} (hD : mD o ad) (hC : ∀ j, j < 22100 → C 1 j = sb_b (R j)) (hR : ∀ j, R j < 256) : mSt (mH h o ad I C) o (ad 1) R := ⟨⟨_, mH_o, rfl⟩, ⟨C 1, mH_a hD (by decide), hC⟩, hR⟩
theorem mH_rcv {E : mmE} : mm_rcv E (mH h o ad I C) 11 (some (.ref o)) = true := by
  unfold mm_rcv
  dsimp only
  rw [if_neg (by decide), mH_o]
  rfl
section GO
variable {E : mmE} {d m pc idx : Nat} {is : List mmI} {L S : List Value} {Q : Option Value → mmH → Prop} {ex : List Nat}
theorem gm_get (v : Value) (h0 : mm_k0 ex = 10) (hv : (mFl I ad)[mm_k1 ex]? = some v) (hg : mm_Go E d m is L (v :: S) (mH h o ad I C) Q) : mm_Go E d m ((pc, .getfield idx, ex) :: is) L (.ref o :: S) (mH h o ad I C) Q := gf_get v (by rw [h0]; exact mH_o) (by rw [h0]; decide) hv hg
theorem gm_put {x : Int32} (k : Nat) (h0 : mm_k0 ex = 10) (h1 : mm_k1 ex = k) (hk : k ∈ [0, 2, 3, 4, 9, 10, 11, 16]) (hf : mm_fit (mm_k2 ex) (.int x) = true) (hg : mm_Go E d m is L S (mH h o ad (uf I k x) C) Q) : mm_Go E d m ((pc, .putfield idx, ex) :: is) L (.int x :: .ref o :: S) (mH h o ad I C) Q := by
  subst h1
  refine go_nx (L' := L) (S' := S) (h' := mm_set (mH h o ad I C) o (.inr (10, (mFl I ad).set (mm_k1 ex) (.int x)))) ?_ ?_
  · show (match (mH h o ad I C).2.2 o with
      | some (.inr (ci, fs)) => if ci = mm_k0 ex ∧ mm_k1 ex < fs.length ∧ mm_fit (mm_k2 ex) (.int x) = true then mm_nx L S (mm_set (mH h o ad I C) o (.inr (ci, fs.set (mm_k1 ex) (.int x)))) else mm_bad
      | _ => mm_bad) = _
    rw [mH_o]
    refine if_pos ⟨h0.symm, ?_, hf⟩
    simp only [List.mem_cons, List.not_mem_nil, or_false] at hk
    show mm_k1 ex < 18
    omega
  · rw [mH_put hk]
    exact hg
theorem gm_ild {i : Nat} (hD : mD o ad) (hk : k ∈ mKs) (ht : mTag k = 1) (hi : i < mLen k) (hl : mLen k < 2 ^ 31) (hg : mm_Go E d m is L (.int (C k i) :: S) (mH h o ad I C) Q) : mm_Go E d m ((pc, .iaload, ex) :: is) L (.int (nI i) :: .ref (ad k) :: S) (mH h o ad I C) Q := by
  refine go_nx (L' := L) (S' := .int (C k i) :: S) (h' := mH h o ad I C) ?_ hg
  have ha : mm_aI E (mH h o ad I C) (ad k) = some (mTag k, mLen k, C k) := by unfold mm_aI; rw [mH_a hD hk]
  show (match mm_aI E (mH h o ad I C) (ad k) with
    | some (t, n, f) => if t = 1 ∧ mm_in (nI i) n = true then mm_nx L (.int (f (nI i).toNatClampNeg) :: S) (mH h o ad I C) else mm_bad
    | none => mm_bad) = _
  rw [ha]
  dsimp only
  rw [if_pos ⟨ht, decide_eq_true (vp_in_nI hi hl)⟩, nI_clamp (by omega)]
theorem gm_bld {i : Nat} (hD : mD o ad) (hk : k ∈ mKs) (ht : mTag k = 0 ∨ mTag k = 2) (hi : i < mLen k) (hl : mLen k < 2 ^ 31) (hg : mm_Go E d m is L (.int (C k i) :: S) (mH h o ad I C) Q) : mm_Go E d m ((pc, .baload, ex) :: is) L (.int (nI i) :: .ref (ad k) :: S) (mH h o ad I C) Q := by
  have ha : mm_aI E (mH h o ad I C) (ad k) = some (mTag k, mLen k, C k) := by unfold mm_aI; rw [mH_a hD hk]
  refine go_step (g_bald ha ht (decide_eq_true (vp_in_nI hi hl)) ?_)
  rw [nI_clamp (by omega)]
  exact hg
theorem up_uf {f : Nat → Int32} {i : Nat} {x : Int32} : upd f i x = uf f i x := rfl
theorem gm_ist {i : Nat} {x : Int32} (hD : mD o ad) (hk : k ∈ mKs) (ht : mTag k = 1) (hi : i < mLen k) (hl : mLen k < 2 ^ 31) (hg : mm_Go E d m is L S (mH h o ad I (uf C k (uf (C k) i x))) Q) : mm_Go E d m ((pc, .iastore, ex) :: is) L (.int x :: .int (nI i) :: .ref (ad k) :: S) (mH h o ad I C) Q := by
  refine go_nx (L' := L) (S' := S) (h' := mm_set (mH h o ad I C) (ad k) (.inl (mTag k, mLen k, .inl (upd (C k) i x)))) ?_ ?_
  · show (match (mH h o ad I C).2.2 (ad k) with
      | some (.inl (t, n, .inl f)) => if t = 1 ∧ mm_in (nI i) n = true then mm_nx L S (mm_set (mH h o ad I C) (ad k) (.inl (t, n, .inl (upd f (nI i).toNatClampNeg x)))) else mm_bad
      | _ => mm_bad) = _
    rw [mH_a hD hk]
    dsimp only
    rw [if_pos ⟨ht, decide_eq_true (vp_in_nI hi hl)⟩, nI_clamp (by omega)]
  · rw [up_uf, mH_arr hD hk]
    exact hg
theorem gm_bst {i : Nat} {x : Int32} (hD : mD o ad) (hk : k ∈ mKs) (ht : mTag k = 0 ∨ mTag k = 2) (hi : i < mLen k) (hl : mLen k < 2 ^ 31) (hg : mm_Go E d m is L S (mH h o ad I (uf C k (uf (C k) i (mm_nar (mTag k) x)))) Q) : mm_Go E d m ((pc, .bastore, ex) :: is) L (.int x :: .int (nI i) :: .ref (ad k) :: S) (mH h o ad I C) Q := by
  refine go_nx (L' := L) (S' := S) (h' := mm_set (mH h o ad I C) (ad k) (.inl (mTag k, mLen k, .inl (upd (C k) i (mm_nar (mTag k) x))))) ?_ ?_
  · show (match (mH h o ad I C).2.2 (ad k) with
      | some (.inl (t, n, .inl f)) => if (t = 0 ∨ t = 2) ∧ mm_in (nI i) n = true then mm_nx L S (mm_set (mH h o ad I C) (ad k) (.inl (t, n, .inl (upd f (nI i).toNatClampNeg (mm_nar t x))))) else mm_bad
      | _ => mm_bad) = _
    rw [mH_a hD hk]
    dsimp only
    rw [if_pos ⟨ht, decide_eq_true (vp_in_nI hi hl)⟩, nI_clamp (by omega)]
  · rw [up_uf, mH_arr hD hk]
    exact hg
end GO
end MH
end
section
/-! WORDS: the names that begin with $ -/
def q_wl : List (List Nat) := [[36, 97, 110, 100], [36, 111, 114], [36, 110, 111, 114], [36, 101, 113], [36, 110, 101], [36, 105, 110], [36, 110, 105, 110], [36, 108, 116], [36, 108, 116, 101], [36, 103, 116], [36, 103, 116, 101], [36, 101, 120, 105, 115, 116, 115], [36, 115, 105, 122, 101], [36, 101, 108, 101, 109], [36, 110, 111, 116]]
def q_isn (B : Nat → Nat) (p : Nat) (T : List Nat) : Bool := q_isw B (p + 1) (q_ne B p) T.length (fun i => T.getD i 0)
/-- 0 a name without $, 1 one that says nothing, 2 + j the word j -/
def q_word (B : Nat → Nat) (p : Nat) : Nat := if q_ne B p ≤ p + 1 ∨ B (p + 1) ≠ 36 then 0 else match q_wl.findIdx? (q_isn B p) with
  | some j => j + 2
  | none => 1
theorem q_isn_inj {B : Nat → Nat} {p : Nat} {T U : List Nat} (h1 : q_isn B p T = true) (h2 : q_isn B p U = true) : T = U := by
  obtain ⟨a1, a2⟩ := q_isw_iff.mp h1
  obtain ⟨b1, b2⟩ := q_isw_iff.mp h2
  refine List.ext_getElem (by omega) (fun i h3 h4 => ?_)
  have := (a2 i h3).symm.trans (b2 i h4)
  rw [List.getD_eq_getElem?_getD, List.getD_eq_getElem?_getD, List.getElem?_eq_getElem h3, List.getElem?_eq_getElem h4] at this
  exact this
theorem q_wl_ok : ∀ j, j < 15 → (∀ c ∈ q_wl.getD j [], 0 < c ∧ c < 256) ∧ (q_wl.getD j []).length ≤ 7 ∧ 2 < (q_wl.getD j []).length ∧ (q_wl.getD j []).getD 0 0 = 36 := by decide +kernel
theorem q_wl_inj : ∀ i, i < 15 → ∀ j, j < 15 → q_wl.getD i [] = q_wl.getD j [] → i = j := by decide +kernel
theorem q_isn_word {B : Nat → Nat} {p : Nat} (j : Nat) (hj : j < 15) : q_isn B p (q_wl.getD j []) = decide (q_word B p = j + 2) := by
  have hlen : q_wl.length = 15 := rfl
  have hgj : q_wl[j]? = some (q_wl.getD j []) := by rw [List.getD_eq_getElem?_getD, List.getElem?_eq_getElem (by omega)]; rfl
  by_cases h : q_isn B p (q_wl.getD j []) = true
  · rw [h]
    symm
    rw [decide_eq_true_eq]
    obtain ⟨a1, a2⟩ := q_isw_iff.mp h
    obtain ⟨-, -, b3, b4⟩ := q_wl_ok j hj
    have a3 := a2 0 (by omega)
    rw [b4] at a3
    unfold q_word
    rw [if_neg (by
      intro q
      rcases q with q | q
      · omega
      · exact q a3)]
    cases hf : q_wl.findIdx? (q_isn B p) with
    | none =>
      have := List.findIdx?_eq_none_iff.mp hf _ (List.mem_of_getElem? hgj)
      rw [h] at this
      cases this
    | some i =>
      obtain ⟨hi, h1, -⟩ := List.findIdx?_eq_some_iff_getElem.mp hf
      have h2 : q_wl.getD i [] = q_wl[i] := by rw [List.getD_eq_getElem?_getD, List.getElem?_eq_getElem hi]; rfl
      have h3 := q_isn_inj h (h2 ▸ h1)
      have := q_wl_inj j hj i (by omega) h3
      dsimp only
      omega
  · rw [Bool.not_eq_true] at h
    rw [h]
    symm
    rw [decide_eq_false_iff_not]
    intro q
    unfold q_word at q
    split at q
    · omega
    · split at q
      · rename_i i hf
        obtain ⟨hi, h1, -⟩ := List.findIdx?_eq_some_iff_getElem.mp hf
        have : i = j := by omega
        subst this
        have h2 : q_wl.getD i [] = q_wl[i] := by rw [List.getD_eq_getElem?_getD, List.getElem?_eq_getElem hi]; rfl
        rw [h2] at h
        exact absurd (h1.symm.trans h) (by decide)
      · omega
/-- the reference's numbers of the words of conditions -/
def q_nof (w : Nat) : Nat := if w = 5 then 1 else if w = 7 then 2 else if w = 9 then 3 else if w = 10 then 4 else if w = 11 then 5 else if w = 12 then 6 else if w = 15 then 7 else if w = 16 then 8 else if w = 13 then 9 else if w = 14 then 10 else if w = 6 then 11 else if w = 8 then 12 else 0
section M
variable {E : mmE} {d : Nat} {h : mmH} {Q : Option Value → mmH → Prop} {o st b n : Nat} {R B : Nat → Nat}
theorem sp_misn {p w : Nat} (j : Nat) (hj : j < 15) (hd : 1 ≤ d) (hm : mSt h o st R) (hw : mW R b n B) (hne : q_ne B p < n) (hp : p ≤ 2000) (he : q_enc (q_wl.getD j []) = w) (hq : Q (some (.int (q_t (decide (q_word B p = j + 2))))) h) : mm_Go E d 131 (mm_blk 131 0) [.ref o, .int (nI (b + p)), .long (lN w), mm_un, mm_un, mm_un, mm_un] [] h Q := by
  have w2 := hw.2.1
  obtain ⟨a1, a2, a3⟩ := q_ne_is hw.2.2 hp
  obtain ⟨b1, b2, -⟩ := q_wl_ok j hj
  refine sp_mnamed (e := q_ne B p) (q_wl.getD j []) hd hm (fun i hi => hw.1 i (by omega)) a1 (by omega) a2 a3 b1 b2 he ?_
  rw [← q_isn_word j hj] at hq
  exact hq
def q_join (B : Nat → Nat) (p : Nat) : Bool := decide (q_word B p = 2) || (decide (q_word B p = 3) || decide (q_word B p = 4))
theorem sp_misjoin {p : Nat} (hd : 2 ≤ d) (hm : mSt h o st R) (hw : mW R b n B) (hne : q_ne B p < n) (hp : p ≤ 2000) (hq : Q (some (.int (q_t (q_join B p)))) h) : mm_Go E d 130 (mm_blk 130 0) [.ref o, .int (nI (b + p))] [] h Q := by
  unfold q_join at hq
  repeat (first | refine gi_con ?_ | refine gi_bip (Nat.le_of_ble_eq_true rfl) ?_ | refine gi_sip (Nat.le_of_ble_eq_true rfl) ?_ | refine gi_ldc ?_ | refine gi_add ?_ | refine gi_inc rfl ?_ | refine gi_sub (by omega) ?_ | refine gi_mul ?_ | refine go_nx rfl ?_)
  refine go_step ?_
  refine g_callV (by decide) (by decide) (Nat.le_of_ble_eq_true rfl) (Nat.le_of_ble_eq_true rfl) (mSt_rcv hm) (by omega) (Nat.le_of_ble_eq_true rfl) rfl ?_
  refine sp_misn 0 (by omega) (by omega) hm hw hne hp rfl ?_
  repeat (first | refine gi_con ?_ | refine gi_bip (Nat.le_of_ble_eq_true rfl) ?_ | refine gi_sip (Nat.le_of_ble_eq_true rfl) ?_ | refine gi_ldc ?_ | refine gi_add ?_ | refine gi_inc rfl ?_ | refine gi_sub (by omega) ?_ | refine gi_mul ?_ | refine go_nx rfl ?_)
  first | refine gt_eq (fun c1 => ?_) (fun c1 => ?_) | refine gt_ne (fun c1 => ?_) (fun c1 => ?_)
  · rw [c1] at hq
    repeat (first | refine gi_con ?_ | refine gi_bip (Nat.le_of_ble_eq_true rfl) ?_ | refine gi_sip (Nat.le_of_ble_eq_true rfl) ?_ | refine gi_ldc ?_ | refine gi_add ?_ | refine gi_inc rfl ?_ | refine gi_sub (by omega) ?_ | refine gi_mul ?_ | refine go_nx rfl ?_)
    refine go_jp rfl ?_
    refine go_rt rfl ?_
    exact hq
  rw [c1, Bool.false_or] at hq
  repeat (first | refine gi_con ?_ | refine gi_bip (Nat.le_of_ble_eq_true rfl) ?_ | refine gi_sip (Nat.le_of_ble_eq_true rfl) ?_ | refine gi_ldc ?_ | refine gi_add ?_ | refine gi_inc rfl ?_ | refine gi_sub (by omega) ?_ | refine gi_mul ?_ | refine go_nx rfl ?_)
  refine go_step ?_
  refine g_callV (by decide) (by decide) (Nat.le_of_ble_eq_true rfl) (Nat.le_of_ble_eq_true rfl) (mSt_rcv hm) (by omega) (Nat.le_of_ble_eq_true rfl) rfl ?_
  refine sp_misn 1 (by omega) (by omega) hm hw hne hp rfl ?_
  repeat (first | refine gi_con ?_ | refine gi_bip (Nat.le_of_ble_eq_true rfl) ?_ | refine gi_sip (Nat.le_of_ble_eq_true rfl) ?_ | refine gi_ldc ?_ | refine gi_add ?_ | refine gi_inc rfl ?_ | refine gi_sub (by omega) ?_ | refine gi_mul ?_ | refine go_nx rfl ?_)
  first | refine gt_eq (fun c2 => ?_) (fun c2 => ?_) | refine gt_ne (fun c2 => ?_) (fun c2 => ?_)
  · rw [c2] at hq
    repeat (first | refine gi_con ?_ | refine gi_bip (Nat.le_of_ble_eq_true rfl) ?_ | refine gi_sip (Nat.le_of_ble_eq_true rfl) ?_ | refine gi_ldc ?_ | refine gi_add ?_ | refine gi_inc rfl ?_ | refine gi_sub (by omega) ?_ | refine gi_mul ?_ | refine go_nx rfl ?_)
    refine go_jp rfl ?_
    refine go_rt rfl ?_
    exact hq
  rw [c2, Bool.false_or] at hq
  repeat (first | refine gi_con ?_ | refine gi_bip (Nat.le_of_ble_eq_true rfl) ?_ | refine gi_sip (Nat.le_of_ble_eq_true rfl) ?_ | refine gi_ldc ?_ | refine gi_add ?_ | refine gi_inc rfl ?_ | refine gi_sub (by omega) ?_ | refine gi_mul ?_ | refine go_nx rfl ?_)
  refine go_step ?_
  refine g_callV (by decide) (by decide) (Nat.le_of_ble_eq_true rfl) (Nat.le_of_ble_eq_true rfl) (mSt_rcv hm) (by omega) (Nat.le_of_ble_eq_true rfl) rfl ?_
  refine sp_misn 2 (by omega) (by omega) hm hw hne hp rfl ?_
  repeat (first | refine gi_con ?_ | refine gi_bip (Nat.le_of_ble_eq_true rfl) ?_ | refine gi_sip (Nat.le_of_ble_eq_true rfl) ?_ | refine gi_ldc ?_ | refine gi_add ?_ | refine gi_inc rfl ?_ | refine gi_sub (by omega) ?_ | refine gi_mul ?_ | refine go_nx rfl ?_)
  first | refine gt_eq (fun c3 => ?_) (fun c3 => ?_) | refine gt_ne (fun c3 => ?_) (fun c3 => ?_)
  · rw [c3] at hq
    repeat (first | refine gi_con ?_ | refine gi_bip (Nat.le_of_ble_eq_true rfl) ?_ | refine gi_sip (Nat.le_of_ble_eq_true rfl) ?_ | refine gi_ldc ?_ | refine gi_add ?_ | refine gi_inc rfl ?_ | refine gi_sub (by omega) ?_ | refine gi_mul ?_ | refine go_nx rfl ?_)
    refine go_jp rfl ?_
    refine go_rt rfl ?_
    exact hq
  rw [c3] at hq
  refine go_jp rfl ?_
  repeat (first | refine gi_con ?_ | refine gi_bip (Nat.le_of_ble_eq_true rfl) ?_ | refine gi_sip (Nat.le_of_ble_eq_true rfl) ?_ | refine gi_ldc ?_ | refine gi_add ?_ | refine gi_inc rfl ?_ | refine gi_sub (by omega) ?_ | refine gi_mul ?_ | refine go_nx rfl ?_)
  refine go_jp rfl ?_
  refine go_rt rfl ?_
  exact hq
theorem sp_mnumberOf {p : Nat} (hd : 2 ≤ d) (hm : mSt h o st R) (hw : mW R b n B) (hne : q_ne B p < n) (hp : p ≤ 2000) (hq : Q (some (.int (nI (q_nof (q_word B p))))) h) : mm_Go E d 137 (mm_blk 137 0) [.ref o, .int (nI (b + p))] [] h Q := by
  unfold q_nof at hq
  repeat (first | refine gi_con ?_ | refine gi_bip (Nat.le_of_ble_eq_true rfl) ?_ | refine gi_sip (Nat.le_of_ble_eq_true rfl) ?_ | refine gi_ldc ?_ | refine gi_add ?_ | refine gi_inc rfl ?_ | refine gi_sub (by omega) ?_ | refine gi_mul ?_ | refine go_nx rfl ?_)
  refine go_step ?_
  refine g_callV (by decide) (by decide) (Nat.le_of_ble_eq_true rfl) (Nat.le_of_ble_eq_true rfl) (mSt_rcv hm) (by omega) (Nat.le_of_ble_eq_true rfl) rfl ?_
  refine sp_misn 3 (by omega) (by omega) hm hw hne hp rfl ?_
  repeat (first | refine gi_con ?_ | refine gi_bip (Nat.le_of_ble_eq_true rfl) ?_ | refine gi_sip (Nat.le_of_ble_eq_true rfl) ?_ | refine gi_ldc ?_ | refine gi_add ?_ | refine gi_inc rfl ?_ | refine gi_sub (by omega) ?_ | refine gi_mul ?_ | refine go_nx rfl ?_)
  refine gt_eq (fun c0 => ?_) (fun c0 => ?_)
  rotate_left
  · rw [if_pos (of_decide_eq_true c0)] at hq
    repeat (first | refine gi_con ?_ | refine gi_bip (Nat.le_of_ble_eq_true rfl) ?_ | refine gi_sip (Nat.le_of_ble_eq_true rfl) ?_ | refine gi_ldc ?_ | refine gi_add ?_ | refine gi_inc rfl ?_ | refine gi_sub (by omega) ?_ | refine gi_mul ?_ | refine go_nx rfl ?_)
    refine go_rt rfl ?_
    exact hq
  rw [if_neg (of_decide_eq_false c0)] at hq
  repeat (first | refine gi_con ?_ | refine gi_bip (Nat.le_of_ble_eq_true rfl) ?_ | refine gi_sip (Nat.le_of_ble_eq_true rfl) ?_ | refine gi_ldc ?_ | refine gi_add ?_ | refine gi_inc rfl ?_ | refine gi_sub (by omega) ?_ | refine gi_mul ?_ | refine go_nx rfl ?_)
  refine go_step ?_
  refine g_callV (by decide) (by decide) (Nat.le_of_ble_eq_true rfl) (Nat.le_of_ble_eq_true rfl) (mSt_rcv hm) (by omega) (Nat.le_of_ble_eq_true rfl) rfl ?_
  refine sp_misn 5 (by omega) (by omega) hm hw hne hp rfl ?_
  repeat (first | refine gi_con ?_ | refine gi_bip (Nat.le_of_ble_eq_true rfl) ?_ | refine gi_sip (Nat.le_of_ble_eq_true rfl) ?_ | refine gi_ldc ?_ | refine gi_add ?_ | refine gi_inc rfl ?_ | refine gi_sub (by omega) ?_ | refine gi_mul ?_ | refine go_nx rfl ?_)
  refine gt_eq (fun c1 => ?_) (fun c1 => ?_)
  rotate_left
  · rw [if_pos (of_decide_eq_true c1)] at hq
    repeat (first | refine gi_con ?_ | refine gi_bip (Nat.le_of_ble_eq_true rfl) ?_ | refine gi_sip (Nat.le_of_ble_eq_true rfl) ?_ | refine gi_ldc ?_ | refine gi_add ?_ | refine gi_inc rfl ?_ | refine gi_sub (by omega) ?_ | refine gi_mul ?_ | refine go_nx rfl ?_)
    refine go_rt rfl ?_
    exact hq
  rw [if_neg (of_decide_eq_false c1)] at hq
  repeat (first | refine gi_con ?_ | refine gi_bip (Nat.le_of_ble_eq_true rfl) ?_ | refine gi_sip (Nat.le_of_ble_eq_true rfl) ?_ | refine gi_ldc ?_ | refine gi_add ?_ | refine gi_inc rfl ?_ | refine gi_sub (by omega) ?_ | refine gi_mul ?_ | refine go_nx rfl ?_)
  refine go_step ?_
  refine g_callV (by decide) (by decide) (Nat.le_of_ble_eq_true rfl) (Nat.le_of_ble_eq_true rfl) (mSt_rcv hm) (by omega) (Nat.le_of_ble_eq_true rfl) rfl ?_
  refine sp_misn 7 (by omega) (by omega) hm hw hne hp rfl ?_
  repeat (first | refine gi_con ?_ | refine gi_bip (Nat.le_of_ble_eq_true rfl) ?_ | refine gi_sip (Nat.le_of_ble_eq_true rfl) ?_ | refine gi_ldc ?_ | refine gi_add ?_ | refine gi_inc rfl ?_ | refine gi_sub (by omega) ?_ | refine gi_mul ?_ | refine go_nx rfl ?_)
  refine gt_eq (fun c2 => ?_) (fun c2 => ?_)
  rotate_left
  · rw [if_pos (of_decide_eq_true c2)] at hq
    repeat (first | refine gi_con ?_ | refine gi_bip (Nat.le_of_ble_eq_true rfl) ?_ | refine gi_sip (Nat.le_of_ble_eq_true rfl) ?_ | refine gi_ldc ?_ | refine gi_add ?_ | refine gi_inc rfl ?_ | refine gi_sub (by omega) ?_ | refine gi_mul ?_ | refine go_nx rfl ?_)
    refine go_rt rfl ?_
    exact hq
  rw [if_neg (of_decide_eq_false c2)] at hq
  repeat (first | refine gi_con ?_ | refine gi_bip (Nat.le_of_ble_eq_true rfl) ?_ | refine gi_sip (Nat.le_of_ble_eq_true rfl) ?_ | refine gi_ldc ?_ | refine gi_add ?_ | refine gi_inc rfl ?_ | refine gi_sub (by omega) ?_ | refine gi_mul ?_ | refine go_nx rfl ?_)
  refine go_step ?_
  refine g_callV (by decide) (by decide) (Nat.le_of_ble_eq_true rfl) (Nat.le_of_ble_eq_true rfl) (mSt_rcv hm) (by omega) (Nat.le_of_ble_eq_true rfl) rfl ?_
  refine sp_misn 8 (by omega) (by omega) hm hw hne hp rfl ?_
  repeat (first | refine gi_con ?_ | refine gi_bip (Nat.le_of_ble_eq_true rfl) ?_ | refine gi_sip (Nat.le_of_ble_eq_true rfl) ?_ | refine gi_ldc ?_ | refine gi_add ?_ | refine gi_inc rfl ?_ | refine gi_sub (by omega) ?_ | refine gi_mul ?_ | refine go_nx rfl ?_)
  refine gt_eq (fun c3 => ?_) (fun c3 => ?_)
  rotate_left
  · rw [if_pos (of_decide_eq_true c3)] at hq
    repeat (first | refine gi_con ?_ | refine gi_bip (Nat.le_of_ble_eq_true rfl) ?_ | refine gi_sip (Nat.le_of_ble_eq_true rfl) ?_ | refine gi_ldc ?_ | refine gi_add ?_ | refine gi_inc rfl ?_ | refine gi_sub (by omega) ?_ | refine gi_mul ?_ | refine go_nx rfl ?_)
    refine go_rt rfl ?_
    exact hq
  rw [if_neg (of_decide_eq_false c3)] at hq
  repeat (first | refine gi_con ?_ | refine gi_bip (Nat.le_of_ble_eq_true rfl) ?_ | refine gi_sip (Nat.le_of_ble_eq_true rfl) ?_ | refine gi_ldc ?_ | refine gi_add ?_ | refine gi_inc rfl ?_ | refine gi_sub (by omega) ?_ | refine gi_mul ?_ | refine go_nx rfl ?_)
  refine go_step ?_
  refine g_callV (by decide) (by decide) (Nat.le_of_ble_eq_true rfl) (Nat.le_of_ble_eq_true rfl) (mSt_rcv hm) (by omega) (Nat.le_of_ble_eq_true rfl) rfl ?_
  refine sp_misn 9 (by omega) (by omega) hm hw hne hp rfl ?_
  repeat (first | refine gi_con ?_ | refine gi_bip (Nat.le_of_ble_eq_true rfl) ?_ | refine gi_sip (Nat.le_of_ble_eq_true rfl) ?_ | refine gi_ldc ?_ | refine gi_add ?_ | refine gi_inc rfl ?_ | refine gi_sub (by omega) ?_ | refine gi_mul ?_ | refine go_nx rfl ?_)
  refine gt_eq (fun c4 => ?_) (fun c4 => ?_)
  rotate_left
  · rw [if_pos (of_decide_eq_true c4)] at hq
    repeat (first | refine gi_con ?_ | refine gi_bip (Nat.le_of_ble_eq_true rfl) ?_ | refine gi_sip (Nat.le_of_ble_eq_true rfl) ?_ | refine gi_ldc ?_ | refine gi_add ?_ | refine gi_inc rfl ?_ | refine gi_sub (by omega) ?_ | refine gi_mul ?_ | refine go_nx rfl ?_)
    refine go_rt rfl ?_
    exact hq
  rw [if_neg (of_decide_eq_false c4)] at hq
  repeat (first | refine gi_con ?_ | refine gi_bip (Nat.le_of_ble_eq_true rfl) ?_ | refine gi_sip (Nat.le_of_ble_eq_true rfl) ?_ | refine gi_ldc ?_ | refine gi_add ?_ | refine gi_inc rfl ?_ | refine gi_sub (by omega) ?_ | refine gi_mul ?_ | refine go_nx rfl ?_)
  refine go_step ?_
  refine g_callV (by decide) (by decide) (Nat.le_of_ble_eq_true rfl) (Nat.le_of_ble_eq_true rfl) (mSt_rcv hm) (by omega) (Nat.le_of_ble_eq_true rfl) rfl ?_
  refine sp_misn 10 (by omega) (by omega) hm hw hne hp rfl ?_
  repeat (first | refine gi_con ?_ | refine gi_bip (Nat.le_of_ble_eq_true rfl) ?_ | refine gi_sip (Nat.le_of_ble_eq_true rfl) ?_ | refine gi_ldc ?_ | refine gi_add ?_ | refine gi_inc rfl ?_ | refine gi_sub (by omega) ?_ | refine gi_mul ?_ | refine go_nx rfl ?_)
  refine gt_eq (fun c5 => ?_) (fun c5 => ?_)
  rotate_left
  · rw [if_pos (of_decide_eq_true c5)] at hq
    repeat (first | refine gi_con ?_ | refine gi_bip (Nat.le_of_ble_eq_true rfl) ?_ | refine gi_sip (Nat.le_of_ble_eq_true rfl) ?_ | refine gi_ldc ?_ | refine gi_add ?_ | refine gi_inc rfl ?_ | refine gi_sub (by omega) ?_ | refine gi_mul ?_ | refine go_nx rfl ?_)
    refine go_rt rfl ?_
    exact hq
  rw [if_neg (of_decide_eq_false c5)] at hq
  repeat (first | refine gi_con ?_ | refine gi_bip (Nat.le_of_ble_eq_true rfl) ?_ | refine gi_sip (Nat.le_of_ble_eq_true rfl) ?_ | refine gi_ldc ?_ | refine gi_add ?_ | refine gi_inc rfl ?_ | refine gi_sub (by omega) ?_ | refine gi_mul ?_ | refine go_nx rfl ?_)
  refine go_step ?_
  refine g_callV (by decide) (by decide) (Nat.le_of_ble_eq_true rfl) (Nat.le_of_ble_eq_true rfl) (mSt_rcv hm) (by omega) (Nat.le_of_ble_eq_true rfl) rfl ?_
  refine sp_misn 13 (by omega) (by omega) hm hw hne hp rfl ?_
  repeat (first | refine gi_con ?_ | refine gi_bip (Nat.le_of_ble_eq_true rfl) ?_ | refine gi_sip (Nat.le_of_ble_eq_true rfl) ?_ | refine gi_ldc ?_ | refine gi_add ?_ | refine gi_inc rfl ?_ | refine gi_sub (by omega) ?_ | refine gi_mul ?_ | refine go_nx rfl ?_)
  refine gt_eq (fun c6 => ?_) (fun c6 => ?_)
  rotate_left
  · rw [if_pos (of_decide_eq_true c6)] at hq
    repeat (first | refine gi_con ?_ | refine gi_bip (Nat.le_of_ble_eq_true rfl) ?_ | refine gi_sip (Nat.le_of_ble_eq_true rfl) ?_ | refine gi_ldc ?_ | refine gi_add ?_ | refine gi_inc rfl ?_ | refine gi_sub (by omega) ?_ | refine gi_mul ?_ | refine go_nx rfl ?_)
    refine go_rt rfl ?_
    exact hq
  rw [if_neg (of_decide_eq_false c6)] at hq
  repeat (first | refine gi_con ?_ | refine gi_bip (Nat.le_of_ble_eq_true rfl) ?_ | refine gi_sip (Nat.le_of_ble_eq_true rfl) ?_ | refine gi_ldc ?_ | refine gi_add ?_ | refine gi_inc rfl ?_ | refine gi_sub (by omega) ?_ | refine gi_mul ?_ | refine go_nx rfl ?_)
  refine go_step ?_
  refine g_callV (by decide) (by decide) (Nat.le_of_ble_eq_true rfl) (Nat.le_of_ble_eq_true rfl) (mSt_rcv hm) (by omega) (Nat.le_of_ble_eq_true rfl) rfl ?_
  refine sp_misn 14 (by omega) (by omega) hm hw hne hp rfl ?_
  repeat (first | refine gi_con ?_ | refine gi_bip (Nat.le_of_ble_eq_true rfl) ?_ | refine gi_sip (Nat.le_of_ble_eq_true rfl) ?_ | refine gi_ldc ?_ | refine gi_add ?_ | refine gi_inc rfl ?_ | refine gi_sub (by omega) ?_ | refine gi_mul ?_ | refine go_nx rfl ?_)
  refine gt_eq (fun c7 => ?_) (fun c7 => ?_)
  rotate_left
  · rw [if_pos (of_decide_eq_true c7)] at hq
    repeat (first | refine gi_con ?_ | refine gi_bip (Nat.le_of_ble_eq_true rfl) ?_ | refine gi_sip (Nat.le_of_ble_eq_true rfl) ?_ | refine gi_ldc ?_ | refine gi_add ?_ | refine gi_inc rfl ?_ | refine gi_sub (by omega) ?_ | refine gi_mul ?_ | refine go_nx rfl ?_)
    refine go_rt rfl ?_
    exact hq
  rw [if_neg (of_decide_eq_false c7)] at hq
  repeat (first | refine gi_con ?_ | refine gi_bip (Nat.le_of_ble_eq_true rfl) ?_ | refine gi_sip (Nat.le_of_ble_eq_true rfl) ?_ | refine gi_ldc ?_ | refine gi_add ?_ | refine gi_inc rfl ?_ | refine gi_sub (by omega) ?_ | refine gi_mul ?_ | refine go_nx rfl ?_)
  refine go_step ?_
  refine g_callV (by decide) (by decide) (Nat.le_of_ble_eq_true rfl) (Nat.le_of_ble_eq_true rfl) (mSt_rcv hm) (by omega) (Nat.le_of_ble_eq_true rfl) rfl ?_
  refine sp_misn 11 (by omega) (by omega) hm hw hne hp rfl ?_
  repeat (first | refine gi_con ?_ | refine gi_bip (Nat.le_of_ble_eq_true rfl) ?_ | refine gi_sip (Nat.le_of_ble_eq_true rfl) ?_ | refine gi_ldc ?_ | refine gi_add ?_ | refine gi_inc rfl ?_ | refine gi_sub (by omega) ?_ | refine gi_mul ?_ | refine go_nx rfl ?_)
  refine gt_eq (fun c8 => ?_) (fun c8 => ?_)
  rotate_left
  · rw [if_pos (of_decide_eq_true c8)] at hq
    repeat (first | refine gi_con ?_ | refine gi_bip (Nat.le_of_ble_eq_true rfl) ?_ | refine gi_sip (Nat.le_of_ble_eq_true rfl) ?_ | refine gi_ldc ?_ | refine gi_add ?_ | refine gi_inc rfl ?_ | refine gi_sub (by omega) ?_ | refine gi_mul ?_ | refine go_nx rfl ?_)
    refine go_rt rfl ?_
    exact hq
  rw [if_neg (of_decide_eq_false c8)] at hq
  repeat (first | refine gi_con ?_ | refine gi_bip (Nat.le_of_ble_eq_true rfl) ?_ | refine gi_sip (Nat.le_of_ble_eq_true rfl) ?_ | refine gi_ldc ?_ | refine gi_add ?_ | refine gi_inc rfl ?_ | refine gi_sub (by omega) ?_ | refine gi_mul ?_ | refine go_nx rfl ?_)
  refine go_step ?_
  refine g_callV (by decide) (by decide) (Nat.le_of_ble_eq_true rfl) (Nat.le_of_ble_eq_true rfl) (mSt_rcv hm) (by omega) (Nat.le_of_ble_eq_true rfl) rfl ?_
  refine sp_misn 12 (by omega) (by omega) hm hw hne hp rfl ?_
  repeat (first | refine gi_con ?_ | refine gi_bip (Nat.le_of_ble_eq_true rfl) ?_ | refine gi_sip (Nat.le_of_ble_eq_true rfl) ?_ | refine gi_ldc ?_ | refine gi_add ?_ | refine gi_inc rfl ?_ | refine gi_sub (by omega) ?_ | refine gi_mul ?_ | refine go_nx rfl ?_)
  refine gt_eq (fun c9 => ?_) (fun c9 => ?_)
  rotate_left
  · rw [if_pos (of_decide_eq_true c9)] at hq
    repeat (first | refine gi_con ?_ | refine gi_bip (Nat.le_of_ble_eq_true rfl) ?_ | refine gi_sip (Nat.le_of_ble_eq_true rfl) ?_ | refine gi_ldc ?_ | refine gi_add ?_ | refine gi_inc rfl ?_ | refine gi_sub (by omega) ?_ | refine gi_mul ?_ | refine go_nx rfl ?_)
    refine go_rt rfl ?_
    exact hq
  rw [if_neg (of_decide_eq_false c9)] at hq
  repeat (first | refine gi_con ?_ | refine gi_bip (Nat.le_of_ble_eq_true rfl) ?_ | refine gi_sip (Nat.le_of_ble_eq_true rfl) ?_ | refine gi_ldc ?_ | refine gi_add ?_ | refine gi_inc rfl ?_ | refine gi_sub (by omega) ?_ | refine gi_mul ?_ | refine go_nx rfl ?_)
  refine go_step ?_
  refine g_callV (by decide) (by decide) (Nat.le_of_ble_eq_true rfl) (Nat.le_of_ble_eq_true rfl) (mSt_rcv hm) (by omega) (Nat.le_of_ble_eq_true rfl) rfl ?_
  refine sp_misn 4 (by omega) (by omega) hm hw hne hp rfl ?_
  repeat (first | refine gi_con ?_ | refine gi_bip (Nat.le_of_ble_eq_true rfl) ?_ | refine gi_sip (Nat.le_of_ble_eq_true rfl) ?_ | refine gi_ldc ?_ | refine gi_add ?_ | refine gi_inc rfl ?_ | refine gi_sub (by omega) ?_ | refine gi_mul ?_ | refine go_nx rfl ?_)
  refine gt_eq (fun c10 => ?_) (fun c10 => ?_)
  rotate_left
  · rw [if_pos (of_decide_eq_true c10)] at hq
    repeat (first | refine gi_con ?_ | refine gi_bip (Nat.le_of_ble_eq_true rfl) ?_ | refine gi_sip (Nat.le_of_ble_eq_true rfl) ?_ | refine gi_ldc ?_ | refine gi_add ?_ | refine gi_inc rfl ?_ | refine gi_sub (by omega) ?_ | refine gi_mul ?_ | refine go_nx rfl ?_)
    refine go_rt rfl ?_
    exact hq
  rw [if_neg (of_decide_eq_false c10)] at hq
  repeat (first | refine gi_con ?_ | refine gi_bip (Nat.le_of_ble_eq_true rfl) ?_ | refine gi_sip (Nat.le_of_ble_eq_true rfl) ?_ | refine gi_ldc ?_ | refine gi_add ?_ | refine gi_inc rfl ?_ | refine gi_sub (by omega) ?_ | refine gi_mul ?_ | refine go_nx rfl ?_)
  refine go_step ?_
  refine g_callV (by decide) (by decide) (Nat.le_of_ble_eq_true rfl) (Nat.le_of_ble_eq_true rfl) (mSt_rcv hm) (by omega) (Nat.le_of_ble_eq_true rfl) rfl ?_
  refine sp_misn 6 (by omega) (by omega) hm hw hne hp rfl ?_
  repeat (first | refine gi_con ?_ | refine gi_bip (Nat.le_of_ble_eq_true rfl) ?_ | refine gi_sip (Nat.le_of_ble_eq_true rfl) ?_ | refine gi_ldc ?_ | refine gi_add ?_ | refine gi_inc rfl ?_ | refine gi_sub (by omega) ?_ | refine gi_mul ?_ | refine go_nx rfl ?_)
  refine gt_eq (fun c11 => ?_) (fun c11 => ?_)
  · rw [if_neg (of_decide_eq_false c11)] at hq
    repeat (first | refine gi_con ?_ | refine gi_bip (Nat.le_of_ble_eq_true rfl) ?_ | refine gi_sip (Nat.le_of_ble_eq_true rfl) ?_ | refine gi_ldc ?_ | refine gi_add ?_ | refine gi_inc rfl ?_ | refine gi_sub (by omega) ?_ | refine gi_mul ?_ | refine go_nx rfl ?_)
    refine go_jp rfl ?_
    refine go_rt rfl ?_
    exact hq
  · rw [if_pos (of_decide_eq_true c11)] at hq
    repeat (first | refine gi_con ?_ | refine gi_bip (Nat.le_of_ble_eq_true rfl) ?_ | refine gi_sip (Nat.le_of_ble_eq_true rfl) ?_ | refine gi_ldc ?_ | refine gi_add ?_ | refine gi_inc rfl ?_ | refine gi_sub (by omega) ?_ | refine gi_mul ?_ | refine go_nx rfl ?_)
    refine go_jp rfl ?_
    refine go_rt rfl ?_
    exact hq
def q_cond (B : Nat → Nat) (p : Nat) : Bool := decide (B p = 3) && (decide (5 < q_sz B (q_val B p)) && decide (B (q_val B p + 5) = 36))
theorem sp_miscond {p : Nat} (hd : 2 ≤ d) (hm : mSt h o st R) (hw : mW R b n B) (hok : q_ok B n p) (hq : Q (some (.int (q_t (q_cond B p)))) h) : mm_Go E d 135 (mm_blk 135 0) [.ref o, .int (nI (b + p)), mm_un] [] h Q := by
  have w2 := hw.2.1
  obtain ⟨i1, i2, i3⟩ := q_ok_in hw.2.2 hok
  have hB := hw.2.2.2.1 p
  have hB5 := hw.2.2.2.1 (q_val B p + 5)
  have h3 := hok.2.2.1
  unfold q_cond at hq
  repeat (first | refine gi_con ?_ | refine gi_bip (Nat.le_of_ble_eq_true rfl) ?_ | refine gi_sip (Nat.le_of_ble_eq_true rfl) ?_ | refine gi_ldc ?_ | refine gi_add ?_ | refine gi_inc rfl ?_ | refine gi_sub (by omega) ?_ | refine gi_mul ?_ | refine go_nx rfl ?_)
  refine go_step ?_
  refine g_callV (by decide) (by decide) (Nat.le_of_ble_eq_true rfl) (Nat.le_of_ble_eq_true rfl) (mSt_rcv hm) (by omega) (Nat.le_of_ble_eq_true rfl) rfl ?_
  refine sp_mval (by omega) hm hw hok.2.1 ?_
  repeat (first | refine gi_con ?_ | refine gi_bip (Nat.le_of_ble_eq_true rfl) ?_ | refine gi_sip (Nat.le_of_ble_eq_true rfl) ?_ | refine gi_ldc ?_ | refine gi_add ?_ | refine gi_inc rfl ?_ | refine gi_sub (by omega) ?_ | refine gi_mul ?_ | refine go_nx rfl ?_)
  refine go_step ?_
  refine g_callV (by decide) (by decide) (Nat.le_of_ble_eq_true rfl) (Nat.le_of_ble_eq_true rfl) (mSt_rcv hm) (by omega) (Nat.le_of_ble_eq_true rfl) rfl ?_
  refine sp_mat2 hm hw hok.1 ?_
  repeat (first | refine gi_con ?_ | refine gi_bip (Nat.le_of_ble_eq_true rfl) ?_ | refine gi_sip (Nat.le_of_ble_eq_true rfl) ?_ | refine gi_ldc ?_ | refine gi_add ?_ | refine gi_inc rfl ?_ | refine gi_sub (by omega) ?_ | refine gi_mul ?_ | refine go_nx rfl ?_)
  first | refine gb_lt (by omega) (by omega) (fun c1 => ?_) (fun c1 => ?_) | refine gb_ge (by omega) (by omega) (fun c1 => ?_) (fun c1 => ?_) | refine gb_gt (by omega) (by omega) (fun c1 => ?_) (fun c1 => ?_) | refine gb_le (by omega) (by omega) (fun c1 => ?_) (fun c1 => ?_) | refine gb_eq (by omega) (by omega) (fun c1 => ?_) (fun c1 => ?_) | refine gb_ne (by omega) (by omega) (fun c1 => ?_) (fun c1 => ?_)
  · rw [decide_eq_false c1] at hq
    repeat (first | refine gi_con ?_ | refine gi_bip (Nat.le_of_ble_eq_true rfl) ?_ | refine gi_sip (Nat.le_of_ble_eq_true rfl) ?_ | refine gi_ldc ?_ | refine gi_add ?_ | refine gi_inc rfl ?_ | refine gi_sub (by omega) ?_ | refine gi_mul ?_ | refine go_nx rfl ?_)
    refine go_jp rfl ?_
    refine go_rt rfl ?_
    exact hq
  rw [decide_eq_true c1, Bool.true_and] at hq
  have hnx : q_next B p = q_val B p + q_sz B (q_val B p) := by
    unfold q_next q_ln
    rw [if_neg (by omega), if_neg (by omega), if_neg (by omega), if_neg (by omega), if_pos (Or.inl c1)]
  have hn := hw.2.2.1
  repeat (first | refine gi_con ?_ | refine gi_bip (Nat.le_of_ble_eq_true rfl) ?_ | refine gi_sip (Nat.le_of_ble_eq_true rfl) ?_ | refine gi_ldc ?_ | refine gi_add ?_ | refine gi_inc rfl ?_ | refine gi_sub (by omega) ?_ | refine gi_mul ?_ | refine go_nx rfl ?_)
  refine go_step ?_
  refine g_callV (by decide) (by decide) (Nat.le_of_ble_eq_true rfl) (Nat.le_of_ble_eq_true rfl) (mSt_rcv hm) (by omega) (Nat.le_of_ble_eq_true rfl) rfl ?_
  refine sp_mwh (by omega) hm hw (i3 (Or.inr (Or.inl c1))) ?_
  repeat (first | refine gi_con ?_ | refine gi_bip (Nat.le_of_ble_eq_true rfl) ?_ | refine gi_sip (Nat.le_of_ble_eq_true rfl) ?_ | refine gi_ldc ?_ | refine gi_add ?_ | refine gi_inc rfl ?_ | refine gi_sub (by omega) ?_ | refine gi_mul ?_ | refine go_nx rfl ?_)
  first | refine gb_lt (by omega) (by omega) (fun c2 => ?_) (fun c2 => ?_) | refine gb_ge (by omega) (by omega) (fun c2 => ?_) (fun c2 => ?_) | refine gb_gt (by omega) (by omega) (fun c2 => ?_) (fun c2 => ?_) | refine gb_le (by omega) (by omega) (fun c2 => ?_) (fun c2 => ?_) | refine gb_eq (by omega) (by omega) (fun c2 => ?_) (fun c2 => ?_) | refine gb_ne (by omega) (by omega) (fun c2 => ?_) (fun c2 => ?_)
  · rw [decide_eq_false (by omega)] at hq
    repeat (first | refine gi_con ?_ | refine gi_bip (Nat.le_of_ble_eq_true rfl) ?_ | refine gi_sip (Nat.le_of_ble_eq_true rfl) ?_ | refine gi_ldc ?_ | refine gi_add ?_ | refine gi_inc rfl ?_ | refine gi_sub (by omega) ?_ | refine gi_mul ?_ | refine go_nx rfl ?_)
    refine go_jp rfl ?_
    refine go_rt rfl ?_
    exact hq
  rw [decide_eq_true (by omega), Bool.true_and] at hq
  repeat (first | refine gi_con ?_ | refine gi_bip (Nat.le_of_ble_eq_true rfl) ?_ | refine gi_sip (Nat.le_of_ble_eq_true rfl) ?_ | refine gi_ldc ?_ | refine gi_add ?_ | refine gi_inc rfl ?_ | refine gi_sub (by omega) ?_ | refine gi_mul ?_ | refine go_nx rfl ?_)
  refine go_step ?_
  refine g_callV (by decide) (by decide) (Nat.le_of_ble_eq_true rfl) (Nat.le_of_ble_eq_true rfl) (mSt_rcv hm) (by omega) (Nat.le_of_ble_eq_true rfl) rfl ?_
  rw [Nat.add_assoc]
  refine sp_mat2 hm hw (by omega) ?_
  repeat (first | refine gi_con ?_ | refine gi_bip (Nat.le_of_ble_eq_true rfl) ?_ | refine gi_sip (Nat.le_of_ble_eq_true rfl) ?_ | refine gi_ldc ?_ | refine gi_add ?_ | refine gi_inc rfl ?_ | refine gi_sub (by omega) ?_ | refine gi_mul ?_ | refine go_nx rfl ?_)
  first | refine gb_lt (by omega) (by omega) (fun c3 => ?_) (fun c3 => ?_) | refine gb_ge (by omega) (by omega) (fun c3 => ?_) (fun c3 => ?_) | refine gb_gt (by omega) (by omega) (fun c3 => ?_) (fun c3 => ?_) | refine gb_le (by omega) (by omega) (fun c3 => ?_) (fun c3 => ?_) | refine gb_eq (by omega) (by omega) (fun c3 => ?_) (fun c3 => ?_) | refine gb_ne (by omega) (by omega) (fun c3 => ?_) (fun c3 => ?_)
  · rw [decide_eq_false c3] at hq
    repeat (first | refine gi_con ?_ | refine gi_bip (Nat.le_of_ble_eq_true rfl) ?_ | refine gi_sip (Nat.le_of_ble_eq_true rfl) ?_ | refine gi_ldc ?_ | refine gi_add ?_ | refine gi_inc rfl ?_ | refine gi_sub (by omega) ?_ | refine gi_mul ?_ | refine go_nx rfl ?_)
    refine go_jp rfl ?_
    refine go_rt rfl ?_
    exact hq
  rw [decide_eq_true c3] at hq
  repeat (first | refine gi_con ?_ | refine gi_bip (Nat.le_of_ble_eq_true rfl) ?_ | refine gi_sip (Nat.le_of_ble_eq_true rfl) ?_ | refine gi_ldc ?_ | refine gi_add ?_ | refine gi_inc rfl ?_ | refine gi_sub (by omega) ?_ | refine gi_mul ?_ | refine go_nx rfl ?_)
  refine go_jp rfl ?_
  refine go_rt rfl ?_
  exact hq
/-- the value of a number, of a truth -/
def q_num (B : Nat → Nat) (kd v : Nat) : Int64 := if kd = 16 then (nI (q_sz B v)).toInt64 else if kd = 8 then lN (B v) else lN (q_sz B v + 4294967296 * q_sz B (v + 4))
theorem q_l32 {a : Nat} (ha : a < 2 ^ 32) : ∃ x, (nI a).toInt64 = lN x ∧ x < 2 ^ 64 ∧ x % 2 ^ 32 = a := by
  obtain ⟨x, h1, h2⟩ := wb_of (nI a).toInt64
  refine ⟨x, h2, h1, ?_⟩
  have h3 := congrArg Int64.toInt32 h2
  rw [lN_i, Int32.toInt32_toInt64] at h3
  have h4 := congrArg (fun z : Int32 => z.toBitVec.toNat) h3
  have h5 : (nI a).toBitVec.toNat = (nI x).toBitVec.toNat := h4
  rw [pk_tn ha] at h5
  rw [h5]
  rfl
theorem q_l64 {a b : Nat} (ha : a < 2 ^ 32) (hb : b < 2 ^ 32) : (nI a).toInt64 * Int64.ofNat 4294967296 + ((nI b).toInt64 &&& Int64.ofNat 4294967295) = lN (b + 4294967296 * a) := by
  obtain ⟨x, h1, h2, h3⟩ := q_l32 ha
  obtain ⟨y, h4, h5, h6⟩ := q_l32 hb
  have e1 : lN (2 ^ 32 - 1) = Int64.ofNat 4294967295 := by decide
  have e2 : Int64.ofNat 4294967296 = lN 4294967296 := rfl
  rw [h1, h4, ← e1, wb_mask h5 (by decide), h6, e2, lN_mul, lN_add, wb_mod, wb_mod (b + 4294967296 * a)]
  congr 1
  omega
theorem sp_mlongAt {kd v : Nat} (hd : 2 ≤ d) (hm : mSt h o st R) (hw : mW R b n B) (hkd : kd = 16 ∧ v + 4 ≤ n ∨ kd = 8 ∧ v + 1 ≤ n ∨ kd = 18 ∧ v + 8 ≤ n) (hq : Q (some (.long (q_num B kd v))) h) : mm_Go E d 138 (mm_blk 138 0) [.ref o, .int (nI kd), .int (nI (b + v))] [] h Q := by
  have w2 := hw.2.1
  unfold q_num at hq
  repeat (first | refine gi_con ?_ | refine gi_bip (Nat.le_of_ble_eq_true rfl) ?_ | refine gi_sip (Nat.le_of_ble_eq_true rfl) ?_ | refine gi_ldc ?_ | refine gi_add ?_ | refine gi_inc rfl ?_ | refine gi_sub (by omega) ?_ | refine gi_mul ?_ | refine go_nx rfl ?_)
  first | refine gb_lt (by omega) (by omega) (fun c1 => ?_) (fun c1 => ?_) | refine gb_ge (by omega) (by omega) (fun c1 => ?_) (fun c1 => ?_) | refine gb_gt (by omega) (by omega) (fun c1 => ?_) (fun c1 => ?_) | refine gb_le (by omega) (by omega) (fun c1 => ?_) (fun c1 => ?_) | refine gb_eq (by omega) (by omega) (fun c1 => ?_) (fun c1 => ?_) | refine gb_ne (by omega) (by omega) (fun c1 => ?_) (fun c1 => ?_)
  · rw [if_neg c1] at hq
    repeat (first | refine gi_con ?_ | refine gi_bip (Nat.le_of_ble_eq_true rfl) ?_ | refine gi_sip (Nat.le_of_ble_eq_true rfl) ?_ | refine gi_ldc ?_ | refine gi_add ?_ | refine gi_inc rfl ?_ | refine gi_sub (by omega) ?_ | refine gi_mul ?_ | refine go_nx rfl ?_)
    first | refine gb_lt (by omega) (by omega) (fun c2 => ?_) (fun c2 => ?_) | refine gb_ge (by omega) (by omega) (fun c2 => ?_) (fun c2 => ?_) | refine gb_gt (by omega) (by omega) (fun c2 => ?_) (fun c2 => ?_) | refine gb_le (by omega) (by omega) (fun c2 => ?_) (fun c2 => ?_) | refine gb_eq (by omega) (by omega) (fun c2 => ?_) (fun c2 => ?_) | refine gb_ne (by omega) (by omega) (fun c2 => ?_) (fun c2 => ?_)
    · rw [if_neg c2] at hq
      repeat (first | refine gi_con ?_ | refine gi_bip (Nat.le_of_ble_eq_true rfl) ?_ | refine gi_sip (Nat.le_of_ble_eq_true rfl) ?_ | refine gi_ldc ?_ | refine gi_add ?_ | refine gi_inc rfl ?_ | refine gi_sub (by omega) ?_ | refine gi_mul ?_ | refine go_nx rfl ?_)
      refine go_step ?_
      refine g_callV (by decide) (by decide) (Nat.le_of_ble_eq_true rfl) (Nat.le_of_ble_eq_true rfl) (mSt_rcv hm) (by omega) (Nat.le_of_ble_eq_true rfl) rfl ?_
      rw [Nat.add_assoc]
      refine sp_mwh (by omega) hm hw (by omega) ?_
      repeat (first | refine gi_con ?_ | refine gi_bip (Nat.le_of_ble_eq_true rfl) ?_ | refine gi_sip (Nat.le_of_ble_eq_true rfl) ?_ | refine gi_ldc ?_ | refine gi_add ?_ | refine gi_inc rfl ?_ | refine gi_sub (by omega) ?_ | refine gi_mul ?_ | refine go_nx rfl ?_)
      refine go_step ?_
      refine g_callV (by decide) (by decide) (Nat.le_of_ble_eq_true rfl) (Nat.le_of_ble_eq_true rfl) (mSt_rcv hm) (by omega) (Nat.le_of_ble_eq_true rfl) rfl ?_
      refine sp_mwh (by omega) hm hw (by omega) ?_
      repeat (first | refine gi_con ?_ | refine gi_bip (Nat.le_of_ble_eq_true rfl) ?_ | refine gi_sip (Nat.le_of_ble_eq_true rfl) ?_ | refine gi_ldc ?_ | refine gi_add ?_ | refine gi_inc rfl ?_ | refine gi_sub (by omega) ?_ | refine gi_mul ?_ | refine go_nx rfl ?_)
      refine go_jp rfl ?_
      refine go_rt rfl ?_
      have h1 := q_sz_lt hw.2.2.2.1 v
      have h2 := q_sz_lt hw.2.2.2.1 (v + 4)
      rw [← q_l64 h2 h1] at hq
      exact hq
    · rw [if_pos c2] at hq
      repeat (first | refine gi_con ?_ | refine gi_bip (Nat.le_of_ble_eq_true rfl) ?_ | refine gi_sip (Nat.le_of_ble_eq_true rfl) ?_ | refine gi_ldc ?_ | refine gi_add ?_ | refine gi_inc rfl ?_ | refine gi_sub (by omega) ?_ | refine gi_mul ?_ | refine go_nx rfl ?_)
      refine go_step ?_
      refine g_callV (by decide) (by decide) (Nat.le_of_ble_eq_true rfl) (Nat.le_of_ble_eq_true rfl) (mSt_rcv hm) (by omega) (Nat.le_of_ble_eq_true rfl) rfl ?_
      refine sp_mat2 hm hw (by omega) ?_
      have hB := hw.2.2.2.1 v
      rw [← nI_l (by omega)] at hq
      repeat (first | refine gi_con ?_ | refine gi_bip (Nat.le_of_ble_eq_true rfl) ?_ | refine gi_sip (Nat.le_of_ble_eq_true rfl) ?_ | refine gi_ldc ?_ | refine gi_add ?_ | refine gi_inc rfl ?_ | refine gi_sub (by omega) ?_ | refine gi_mul ?_ | refine go_nx rfl ?_)
      refine go_jp rfl ?_
      refine go_rt rfl ?_
      exact hq
  · rw [if_pos c1] at hq
    repeat (first | refine gi_con ?_ | refine gi_bip (Nat.le_of_ble_eq_true rfl) ?_ | refine gi_sip (Nat.le_of_ble_eq_true rfl) ?_ | refine gi_ldc ?_ | refine gi_add ?_ | refine gi_inc rfl ?_ | refine gi_sub (by omega) ?_ | refine gi_mul ?_ | refine go_nx rfl ?_)
    refine go_step ?_
    refine g_callV (by decide) (by decide) (Nat.le_of_ble_eq_true rfl) (Nat.le_of_ble_eq_true rfl) (mSt_rcv hm) (by omega) (Nat.le_of_ble_eq_true rfl) rfl ?_
    refine sp_mwh (by omega) hm hw (by omega) ?_
    repeat (first | refine gi_con ?_ | refine gi_bip (Nat.le_of_ble_eq_true rfl) ?_ | refine gi_sip (Nat.le_of_ble_eq_true rfl) ?_ | refine gi_ldc ?_ | refine gi_add ?_ | refine gi_inc rfl ?_ | refine gi_sub (by omega) ?_ | refine gi_mul ?_ | refine go_nx rfl ?_)
    refine go_rt rfl ?_
    exact hq
end M
end
section
/-! THE FAULTS OF A FILTER -/
def q_cnt (c m : Nat) : Nat × Nat := if 100 < c + m then (5, c + m) else (0, c + m)
def q_then (r : Nat × Nat) (g : Nat → Nat × Nat) : Nat × Nat := if r.1 = 0 then g r.2 else r
def q_lp (B : Nat → Nat) (last : Nat) (body : Nat → Nat → Nat × Nat) : Nat → Nat → Nat → Nat × Nat
  | 0, _, c => (0, c)
  | f + 1, p, c => if p < last then q_then (body p c) (fun c' => q_lp B last body f (q_next B p) c') else (0, c)
/-- a path as a filter has it -/
def q_gp (B : Nat → Nat) (p : Nat) : Bool := q_steps B false (q_ne B p - (p + 1)) (p + 1) true 0
def q_ofi (B : Nat → Nat) (p : Nat) : Bool := q_cond B p && !q_join B (q_val B p + 4)
def q_good (B : Nat → Nat) (p w : Nat) : Bool :=
  if w = 7 ∨ w = 8 then decide (B p = 4) else if w = 13 then decide (B p = 8) else if w = 14 then decide (B p = 16 ∨ B p = 18) && decide (0 ≤ q_num B (B p) (q_val B p)) else if w = 15 then decide (B p = 3) else if w = 16 then q_cond B p else true
def q_flt (B : Nat → Nat) : Nat → Bool → Nat → Nat → Nat × Nat
  | 0, _, _, c => (0, c)
  | k + 1, false, v, c => q_lp B (q_last B v) (fun e c =>
      if q_word B e = 0 then (if q_gp B e = false then (3, c) else if q_cond B e = true then q_then (q_cnt c 1) (fun c => q_flt B k true (q_val B e) c) else q_cnt c 2)
      else if q_join B e = false then (1, c) else if B e ≠ 4 ∨ q_sz B (q_val B e) = 5 then (2, c) else q_then (q_cnt c 1) (fun c => q_lp B (q_last B (q_val B e)) (fun i c => if B i = 3 then q_flt B k false (q_val B i) c else (2, c)) 2001 (q_val B e + 4) c)) 2001 (v + 4) c
  | k + 1, true, v, c => q_lp B (q_last B v) (fun e c =>
      if q_nof (q_word B e) = 0 then (1, c) else if q_good B e (q_word B e) = false then (4, c) else q_then (q_cnt c 1) (fun c => if q_word B e = 16 then q_flt B k true (q_val B e) c else if q_word B e = 15 then (if q_ofi B e = true then q_flt B k true (q_val B e) c else q_flt B k false (q_val B e) c) else (0, c))) 2001 (v + 4) c
/-- while there is no fault, at most 100 are counted -/
def q_le1 (r : Nat × Nat) : Prop := r.1 ≤ 5 ∧ (r.1 = 0 → r.2 ≤ 100)
theorem q_le_cnt {c m : Nat} : q_le1 (q_cnt c m) := by
  unfold q_cnt
  split
  · exact ⟨Nat.le_refl _, fun h => Nat.noConfusion h⟩
  · exact ⟨Nat.zero_le _, fun _ => by show c + m ≤ 100; omega⟩
theorem q_le_then {r : Nat × Nat} {g : Nat → Nat × Nat} (h : q_le1 r) (hg : ∀ c, c ≤ 100 → q_le1 (g c)) : q_le1 (q_then r g) := by
  unfold q_then
  split
  · exact hg _ (h.2 ‹_›)
  · exact h
theorem q_le_0 {c : Nat} (hc : c ≤ 100) : q_le1 (0, c) := ⟨Nat.zero_le _, fun _ => hc⟩
theorem q_le_lp {B : Nat → Nat} {last : Nat} {body : Nat → Nat → Nat × Nat} (hb : ∀ p c, c ≤ 100 → q_le1 (body p c)) : ∀ f p c, c ≤ 100 → q_le1 (q_lp B last body f p c) := by
  intro f
  induction f with
  | zero => intro p c hc; exact q_le_0 hc
  | succ f ih =>
    intro p c hc
    unfold q_lp
    split
    · exact q_le_then (hb p c hc) (fun c' hc' => ih _ c' hc')
    · exact q_le_0 hc
theorem q_le_f {c x : Nat} (hx : x ≠ 0 ∧ x ≤ 5) : q_le1 (x, c) := ⟨hx.2, fun h => absurd h hx.1⟩
theorem q_flt_le (B : Nat → Nat) : ∀ k m v c, c ≤ 100 → q_le1 (q_flt B k m v c) := by
  intro k
  induction k with
  | zero => intro m v c hc; exact q_le_0 hc
  | succ k ih =>
    intro m v c hc
    cases m with
    | false =>
      unfold q_flt
      refine q_le_lp (fun e c hc => ?_) _ _ _ hc
      split
      · split
        · exact q_le_f (by decide)
        · split
          · exact q_le_then q_le_cnt (fun c hc => ih _ _ _ hc)
          · exact q_le_cnt
      · split
        · exact q_le_f (by decide)
        · split
          · exact q_le_f (by decide)
          · refine q_le_then q_le_cnt (fun c hc => q_le_lp (fun i c hc => ?_) _ _ _ hc)
            split
            · exact ih _ _ _ hc
            · exact q_le_f (by decide)
    | true =>
      unfold q_flt
      refine q_le_lp (fun e c hc => ?_) _ _ _ hc
      split
      · exact q_le_f (by decide)
      · split
        · exact q_le_f (by decide)
        · refine q_le_then q_le_cnt (fun c hc => ?_)
          split
          · exact ih _ _ _ hc
          · split
            · split
              · exact ih _ _ _ hc
              · exact ih _ _ _ hc
            · exact q_le_0 hc
/-! names as paths: the reference looks for the dollars behind dots in a walk of its own -/
theorem q_steps_sh (B : Nat → Nat) (dol : Bool) (s : Nat) : ∀ k i op st, q_steps (fun j => B (s + j)) dol k i op st = q_steps B dol k (s + i) op st := by
  intro k
  induction k with
  | zero => intro i op st; rfl
  | succ k ih =>
    intro i op st
    unfold q_steps
    rw [ih]
    rfl
def q_nd (B : Nat → Nat) : Nat → Nat → Bool
  | 0, _ => true
  | k + 1, i => !(decide (B i = 36) && decide (B (i - 1) = 46)) && q_nd B k (i + 1)
theorem q_steps_nd (B : Nat → Nat) : ∀ k i op st, (op = true ↔ B (i - 1) = 46) → q_steps B false k i op st = (q_steps B true k i op st && q_nd B k i) := by
  intro k
  induction k with
  | zero => intro i op st _; unfold q_steps q_nd; rw [Bool.and_true]
  | succ k ih =>
    intro i op st ho
    have hn := ih (i + 1) (decide (B i = 46)) (if op then st + 1 else st) (by rw [Nat.add_sub_cancel, decide_eq_true_eq])
    unfold q_steps q_nd
    by_cases h1 : B i = 0 ∨ op = true ∧ (B i = 46 ∨ B i = 36 ∧ true = false)
    · rw [if_pos h1, if_pos (h1.imp_right (fun q => ⟨q.1, Or.inl (q.2.resolve_right (fun z => Bool.noConfusion z.2))⟩))]
      rfl
    · rw [if_neg h1]
      by_cases h2 : op = true ∧ B i = 36
      · rw [if_pos (Or.inr ⟨h2.1, Or.inr ⟨h2.2, rfl⟩⟩), decide_eq_true h2.2, decide_eq_true (ho.mp h2.1)]
        simp
      · rw [if_neg (fun q => q.elim (fun q => h1 (Or.inl q)) (fun q => q.2.elim (fun z => h1 (Or.inr ⟨q.1, Or.inl z⟩)) (fun z => h2 ⟨q.1, z.1⟩))), hn]
        have : (decide (B i = 36) && decide (B (i - 1) = 46)) = false := by
          rw [Bool.and_eq_false_iff, decide_eq_false_iff_not, decide_eq_false_iff_not]
          by_cases h3 : B i = 36
          · exact Or.inr (fun z => h2 ⟨ho.mpr z, h3⟩)
          · exact Or.inl h3
        rw [this]
        rfl
theorem q_gp_is {B : Nat → Nat} {p : Nat} (h36 : B (p + 1) ≠ 36) (hu : q_utf (fun j => B (p + 1 + j)) (q_ne B p - (p + 1)) (q_ne B p - (p + 1)) 0 = true) : q_gp B p = (q_path (fun j => B (p + 1 + j)) (q_ne B p - (p + 1)) && q_nd B (q_ne B p - (p + 2)) (p + 2)) := by
  unfold q_gp q_path
  rw [hu, Bool.true_and, q_steps_sh]
  cases hk : q_ne B p - (p + 1) with
  | zero =>
    unfold q_steps
    rfl
  | succ k =>
    rw [show q_ne B p - (p + 2) = k by omega]
    unfold q_steps
    show (if B (p + 1) = 0 ∨ true = true ∧ (B (p + 1) = 46 ∨ B (p + 1) = 36 ∧ false = false) then false else _) = ((if B (p + 1) = 0 ∨ true = true ∧ (B (p + 1) = 46 ∨ B (p + 1) = 36 ∧ true = false) then false else _) && _)
    by_cases h1 : B (p + 1) = 0 ∨ B (p + 1) = 46
    · rw [if_pos (h1.imp_right (fun q => ⟨rfl, Or.inl q⟩)), if_pos (h1.imp_right (fun q => ⟨rfl, Or.inl q⟩))]
      rfl
    · rw [if_neg (show ¬ (B (p + 1) = 0 ∨ true = true ∧ (B (p + 1) = 46 ∨ B (p + 1) = 36 ∧ false = false)) from fun q => q.elim (fun q => h1 (Or.inl q)) (fun q => q.2.elim (fun z => h1 (Or.inr z)) (fun z => h36 z.1))), if_neg (show ¬ (B (p + 1) = 0 ∨ true = true ∧ (B (p + 1) = 46 ∨ B (p + 1) = 36 ∧ true = false)) from fun q => q.elim (fun q => h1 (Or.inl q)) (fun q => q.2.elim (fun z => h1 (Or.inr z)) (fun z => h36 z.1)))]
      exact q_steps_nd B k (p + 2) (decide (B (p + 1) = 46)) _ decide_eq_true_iff
/-- UTF-8 from a place on -/
theorem q_uc_sh (B : Nat → Nat) (s p : Nat) : ∀ k i v, q_uc (fun j => B (s + j)) p k i v = q_uc B (s + p) k i v := by
  intro k
  induction k with
  | zero => intro i v; rfl
  | succ k ih =>
    intro i v
    unfold q_uc
    rw [ih]
    rw [Nat.add_assoc]
theorem q_chr_sh (B : Nat → Nat) (s p e : Nat) : q_chr (fun j => B (s + j)) p e = q_chr B (s + p) (s + e) := by
  unfold q_chr
  rw [q_uc_sh, show s + e - (s + p) = e - p by omega]
theorem q_utf_sh (B : Nat → Nat) (s e : Nat) : ∀ k p, q_utf (fun j => B (s + j)) e k p = q_utf B (s + e) k (s + p) := by
  intro k
  induction k with
  | zero => intro p; rfl
  | succ k ih =>
    intro p
    unfold q_utf
    rw [q_chr_sh, ih, Nat.add_assoc]
    by_cases h : e ≤ p
    · rw [if_pos h, if_pos (by omega)]
    · rw [if_neg h, if_neg (show ¬ s + e ≤ s + p by omega)]
theorem q_u8_nm {B : Nat → Nat} {p : Nat} (hu : q_u8 B p = true) (hp : p + 1 ≤ q_ne B p) : q_utf (fun j => B (p + 1 + j)) (q_ne B p - (p + 1)) (q_ne B p - (p + 1)) 0 = true := by
  rw [q_utf_sh, show p + 1 + (q_ne B p - (p + 1)) = q_ne B p by omega]
  rw [q_u8_tx, Bool.and_eq_true] at hu
  exact hu.1
end
section
/-! THE REFERENCE: the faults of a filter -/
/-- counted and fault -/
def mI (I : Nat → Int32) (c f : Nat) : Nat → Int32 := uf (uf I 9 (nI c)) 10 (nI f)
theorem mI_9 (I : Nat → Int32) (c f x : Nat) : uf (mI I c f) 9 (nI x) = mI I x f := by
  funext j
  unfold mI uf
  by_cases h1 : j = 9
  · subst h1; rfl
  · by_cases h2 : j = 10
    · subst h2; rfl
    · rw [if_neg h1, if_neg h2, if_neg h2, if_neg h1, if_neg h1]
theorem mI_10 (I : Nat → Int32) (c f x : Nat) : uf (mI I c f) 10 (nI x) = mI I c x := by
  funext j
  unfold mI uf
  by_cases h2 : j = 10
  · rw [if_pos h2, if_pos h2]
  · rw [if_neg h2, if_neg h2, if_neg h2]
section M
variable {E : mmE} {d : Nat} {h : mmH} {Q : Option Value → mmH → Prop} {o n b : Nat} {ad : Nat → Nat} {I : Nat → Int32} {C : Nat → Nat → Int32} {R B : Nat → Nat} {c f : Nat}
theorem sp_mfails {why : Nat} (hf : f < 100) (hq : Q none (mH h o ad (mI I c (if f = 0 then why else f)) C)) : mm_Go E d 132 (mm_blk 132 0) [.ref o, .int (nI why)] [] (mH h o ad (mI I c f) C) Q := by
  repeat (first | refine gi_con ?_ | refine gi_bip (Nat.le_of_ble_eq_true rfl) ?_ | refine gi_sip (Nat.le_of_ble_eq_true rfl) ?_ | refine gi_ldc ?_ | refine gi_add ?_ | refine gi_inc rfl ?_ | refine gi_sub (by omega) ?_ | refine gi_mul ?_ | refine go_nx rfl ?_)
  refine gm_get (.int (nI f)) rfl rfl ?_
  first | refine gz_eq (by omega) (fun c1 => ?_) (fun c1 => ?_) | refine gz_ne (by omega) (fun c1 => ?_) (fun c1 => ?_) | refine gz_le (by omega) (fun c1 => ?_) (fun c1 => ?_) | refine gz_gt (by omega) (fun c1 => ?_) (fun c1 => ?_) | refine gz_lt (by omega) (fun c1 => ?_) (fun c1 => ?_) | refine gz_ge (by omega) (fun c1 => ?_) (fun c1 => ?_)
  · rw [if_neg (by omega)] at hq
    repeat (first | refine gi_con ?_ | refine gi_bip (Nat.le_of_ble_eq_true rfl) ?_ | refine gi_sip (Nat.le_of_ble_eq_true rfl) ?_ | refine gi_ldc ?_ | refine gi_add ?_ | refine gi_inc rfl ?_ | refine gi_sub (by omega) ?_ | refine gi_mul ?_ | refine go_nx rfl ?_)
    refine gm_get (.int (nI f)) rfl rfl ?_
    repeat (first | refine gi_con ?_ | refine gi_bip (Nat.le_of_ble_eq_true rfl) ?_ | refine gi_sip (Nat.le_of_ble_eq_true rfl) ?_ | refine gi_ldc ?_ | refine gi_add ?_ | refine gi_inc rfl ?_ | refine gi_sub (by omega) ?_ | refine gi_mul ?_ | refine go_nx rfl ?_)
    refine go_jp rfl ?_
    refine gm_put 10 rfl rfl (by decide) rfl ?_
    rw [mI_10]
    refine go_rt rfl ?_
    exact hq
  · rw [if_pos c1] at hq
    repeat (first | refine gi_con ?_ | refine gi_bip (Nat.le_of_ble_eq_true rfl) ?_ | refine gi_sip (Nat.le_of_ble_eq_true rfl) ?_ | refine gi_ldc ?_ | refine gi_add ?_ | refine gi_inc rfl ?_ | refine gi_sub (by omega) ?_ | refine gi_mul ?_ | refine go_nx rfl ?_)
    refine go_jp rfl ?_
    refine gm_put 10 rfl rfl (by decide) rfl ?_
    rw [mI_10]
    refine go_rt rfl ?_
    exact hq
theorem sp_mcounts {m : Nat} (hd : 1 ≤ d) (hm : m ≤ 2) (hc : c ≤ 200) (hf : f < 100) (hq : Q none (mH h o ad (mI I (c + m) (if 100 < c + m then (if f = 0 then 5 else f) else f)) C)) : mm_Go E d 133 (mm_blk 133 0) [.ref o, .int (nI m)] [] (mH h o ad (mI I c f) C) Q := by
  repeat (first | refine gi_con ?_ | refine gi_bip (Nat.le_of_ble_eq_true rfl) ?_ | refine gi_sip (Nat.le_of_ble_eq_true rfl) ?_ | refine gi_ldc ?_ | refine gi_add ?_ | refine gi_inc rfl ?_ | refine gi_sub (by omega) ?_ | refine gi_mul ?_ | refine go_nx rfl ?_)
  refine gm_get (.int (nI c)) rfl rfl ?_
  repeat (first | refine gi_con ?_ | refine gi_bip (Nat.le_of_ble_eq_true rfl) ?_ | refine gi_sip (Nat.le_of_ble_eq_true rfl) ?_ | refine gi_ldc ?_ | refine gi_add ?_ | refine gi_inc rfl ?_ | refine gi_sub (by omega) ?_ | refine gi_mul ?_ | refine go_nx rfl ?_)
  refine gm_put 9 rfl rfl (by decide) rfl ?_
  rw [mI_9]
  repeat (first | refine gi_con ?_ | refine gi_bip (Nat.le_of_ble_eq_true rfl) ?_ | refine gi_sip (Nat.le_of_ble_eq_true rfl) ?_ | refine gi_ldc ?_ | refine gi_add ?_ | refine gi_inc rfl ?_ | refine gi_sub (by omega) ?_ | refine gi_mul ?_ | refine go_nx rfl ?_)
  refine gm_get (.int (nI (c + m))) rfl rfl ?_
  repeat (first | refine gi_con ?_ | refine gi_bip (Nat.le_of_ble_eq_true rfl) ?_ | refine gi_sip (Nat.le_of_ble_eq_true rfl) ?_ | refine gi_ldc ?_ | refine gi_add ?_ | refine gi_inc rfl ?_ | refine gi_sub (by omega) ?_ | refine gi_mul ?_ | refine go_nx rfl ?_)
  first | refine gb_lt (by omega) (by omega) (fun c1 => ?_) (fun c1 => ?_) | refine gb_ge (by omega) (by omega) (fun c1 => ?_) (fun c1 => ?_) | refine gb_gt (by omega) (by omega) (fun c1 => ?_) (fun c1 => ?_) | refine gb_le (by omega) (by omega) (fun c1 => ?_) (fun c1 => ?_) | refine gb_eq (by omega) (by omega) (fun c1 => ?_) (fun c1 => ?_) | refine gb_ne (by omega) (by omega) (fun c1 => ?_) (fun c1 => ?_)
  · rw [if_neg (by omega)] at hq
    refine go_rt rfl ?_
    exact hq
  · rw [if_pos (by omega)] at hq
    repeat (first | refine gi_con ?_ | refine gi_bip (Nat.le_of_ble_eq_true rfl) ?_ | refine gi_sip (Nat.le_of_ble_eq_true rfl) ?_ | refine gi_ldc ?_ | refine gi_add ?_ | refine gi_inc rfl ?_ | refine gi_sub (by omega) ?_ | refine gi_mul ?_ | refine go_nx rfl ?_)
    refine go_step ?_
    refine g_callV (by decide) (by decide) (Nat.le_of_ble_eq_true rfl) (Nat.le_of_ble_eq_true rfl) mH_rcv (by omega) (Nat.le_of_ble_eq_true rfl) rfl ?_
    refine sp_mfails hf ?_
    repeat (first | refine gi_con ?_ | refine gi_bip (Nat.le_of_ble_eq_true rfl) ?_ | refine gi_sip (Nat.le_of_ble_eq_true rfl) ?_ | refine gi_ldc ?_ | refine gi_add ?_ | refine gi_inc rfl ?_ | refine gi_sub (by omega) ?_ | refine gi_mul ?_ | refine go_nx rfl ?_)
    refine go_jp rfl ?_
    refine go_rt rfl ?_
    exact hq
end M
end
section
/-! THE REFERENCE: lookPath, lookJoin, lookFilter, lookConditions -/
section M
variable {E : mmE} {h : mmH} {o n b : Nat} {ad : Nat → Nat} {I : Nat → Int32} {C : Nat → Nat → Int32} {R B : Nat → Nat}
/-- what is known at the end: the fault, and the count if there is none -/
def mEnd (h : mmH) (o : Nat) (ad : Nat → Nat) (I : Nat → Int32) (C : Nat → Nat → Int32) (Q : Option Value → mmH → Prop) (r : Nat × Nat) : Prop := ∀ c', (r.1 = 0 → c' = r.2) → Q none (mH h o ad (mI I c' r.1) C)
theorem mEnd_f {Q : Option Value → mmH → Prop} {x c c1 : Nat} (hq : mEnd h o ad I C Q (x, c)) (hx : x ≠ 0) : Q none (mH h o ad (mI I c1 x) C) := hq c1 (fun q => absurd q hx)
theorem sp_mlookPath {d : Nat} {Q : Option Value → mmH → Prop} {e c : Nat} {X : Nat → Nat × Nat} (hd : 5 ≤ d) (hD : mD o ad) (hC : ∀ j, j < 22100 → C 1 j = sb_b (R j)) (hR : ∀ j, R j < 256) (hw : mW R b n B) (hok : q_ok B n e) (h36 : B (e + 1) ≠ 36) (hu : q_u8 B e = true) (hc : c ≤ 100)
    (hX : q_cond B e = true → ∀ (c : Nat) (Q' : Option Value → mmH → Prop), c ≤ 100 → mEnd h o ad I C Q' (X c) → mm_Go E (d - 1) 136 (mm_blk 136 0) [.ref o, .int (nI (b + q_val B e)), mm_un, mm_un, mm_un, mm_un, mm_un] [] (mH h o ad (mI I c 0) C) Q')
    (hq : mEnd h o ad I C Q (if q_gp B e = false then (3, c) else if q_cond B e = true then q_then (q_cnt c 1) X else q_cnt c 2)) : mm_Go E d 134 (mm_blk 134 0) [.ref o, .int (nI (b + e)), mm_un, mm_un, mm_un] [] (mH h o ad (mI I c 0) C) Q := by
  have w2 := hw.2.1
  have hrn := hw.2.2.1
  have hm : ∀ I, mSt (mH h o ad I C) o (ad 1) R := fun I => mH_st hD hC hR
  have hne := q_ne_is hw.2.2 (show e ≤ 2000 by have := hok.1; omega)
  have hnl := hok.2.1
  have six : ∀ (f : Nat) (g : Bool) (x4 : Value), (f = 0 ∧ q_gp B e = true ∨ f = 3 ∧ q_gp B e = false) → mm_Go E d 134 (mm_blk 134 6) [.ref o, .int (nI (b + e)), .int (nI (q_ne B e - (e + 1))), .int (q_t g), x4] [] (mH h o ad (mI I c f) C) Q := by
    intro f g x4 hf
    have hf3 : f < 100 := by omega
    have eight : ∀ (m : Nat), m = (if q_cond B e = true then 1 else 2) → mm_Go E d 134 (mm_blk 134 8) [.ref o, .int (nI (b + e)), .int (nI (q_ne B e - (e + 1))), .int (q_t g), .int (q_t (q_cond B e))] [.int (nI m), .ref o] (mH h o ad (mI I c f) C) Q := by
      intro m hmm
      have hm2 : m ≤ 2 := by rw [hmm]; split <;> omega
      refine go_step ?_
      refine g_callV (by decide) (by decide) (Nat.le_of_ble_eq_true rfl) (Nat.le_of_ble_eq_true rfl) mH_rcv (by omega) (Nat.le_of_ble_eq_true rfl) rfl ?_
      refine sp_mcounts (by omega) hm2 (by omega) hf3 ?_
      have nine : ∀ (f2 : Nat), f2 < 100 → (q_cond B e = true → f2 ≠ 0) → f2 = (if 100 < c + m then (if f = 0 then 5 else f) else f) → mm_Go E d 134 (mm_blk 134 9) [.ref o, .int (nI (b + e)), .int (nI (q_ne B e - (e + 1))), .int (q_t g), .int (q_t (q_cond B e))] [] (mH h o ad (mI I (c + m) f2) C) Q := by
        intro f2 hf2 h1 h2
        refine go_rt rfl ?_
        rcases hf with hf | hf
        · rw [hf.2, if_neg (by decide)] at hq
          rw [hf.1, if_pos rfl] at h2
          by_cases hcd : q_cond B e = true
          · rw [if_pos hcd] at hq hmm
            subst hmm
            have h3 := h1 hcd
            have h4 : 100 < c + 1 := by
              by_cases h4 : 100 < c + 1
              · exact h4
              · rw [if_neg h4] at h2; omega
            rw [if_pos h4] at h2
            subst h2
            unfold q_then q_cnt at hq
            rw [if_pos h4, if_neg (show ¬ (5 : Nat) = 0 by decide)] at hq
            exact mEnd_f hq (by decide)
          · rw [if_neg hcd] at hq hmm
            subst hmm
            unfold q_cnt at hq
            by_cases h4 : 100 < c + 2
            · rw [if_pos h4] at h2 hq
              subst h2
              exact mEnd_f hq (by decide)
            · rw [if_neg h4] at h2 hq
              subst h2
              exact hq (c + 2) (fun _ => rfl)
        · rw [hf.2, if_pos rfl] at hq
          have : f2 = 3 := by rw [h2, hf.1]; split <;> rfl
          subst this
          exact mEnd_f hq (by decide)
      have hf2 : (if 100 < c + m then (if f = 0 then 5 else f) else f) < 100 := by
        split
        · split <;> omega
        · omega
      repeat (first | refine gi_con ?_ | refine gi_bip (Nat.le_of_ble_eq_true rfl) ?_ | refine gi_sip (Nat.le_of_ble_eq_true rfl) ?_ | refine gi_ldc ?_ | refine gi_add ?_ | refine gi_inc rfl ?_ | refine gi_sub (by omega) ?_ | refine gi_mul ?_ | refine go_nx rfl ?_)
      first | refine gt_eq (fun c1 => ?_) (fun c1 => ?_) | refine gt_ne (fun c1 => ?_) (fun c1 => ?_)
      · exact nine _ hf2 (fun q => by rw [c1] at q; cases q) rfl
      repeat (first | refine gi_con ?_ | refine gi_bip (Nat.le_of_ble_eq_true rfl) ?_ | refine gi_sip (Nat.le_of_ble_eq_true rfl) ?_ | refine gi_ldc ?_ | refine gi_add ?_ | refine gi_inc rfl ?_ | refine gi_sub (by omega) ?_ | refine gi_mul ?_ | refine go_nx rfl ?_)
      refine gm_get (.int (nI (if 100 < c + m then (if f = 0 then 5 else f) else f))) rfl rfl ?_
      first | refine gz_eq (by omega) (fun c2 => ?_) (fun c2 => ?_) | refine gz_ne (by omega) (fun c2 => ?_) (fun c2 => ?_) | refine gz_le (by omega) (fun c2 => ?_) (fun c2 => ?_) | refine gz_gt (by omega) (fun c2 => ?_) (fun c2 => ?_) | refine gz_lt (by omega) (fun c2 => ?_) (fun c2 => ?_) | refine gz_ge (by omega) (fun c2 => ?_) (fun c2 => ?_)
      · exact nine _ hf2 (fun _ => by omega) rfl
      have hf0 : f = 0 ∧ ¬ 100 < c + m := by
        by_cases h4 : 100 < c + m
        · rw [if_pos h4] at c2
          split at c2 <;> omega
        · rw [if_neg h4] at c2
          exact ⟨c2, h4⟩
      have hgp : q_gp B e = true := by
        rcases hf with hf | hf
        · exact hf.2
        · omega
      rw [if_pos c1] at hmm
      subst hmm
      rw [hgp, if_neg (by decide), if_pos c1] at hq
      unfold q_then q_cnt at hq
      rw [if_neg hf0.2, if_pos rfl] at hq
      rw [c2]
      repeat (first | refine gi_con ?_ | refine gi_bip (Nat.le_of_ble_eq_true rfl) ?_ | refine gi_sip (Nat.le_of_ble_eq_true rfl) ?_ | refine gi_ldc ?_ | refine gi_add ?_ | refine gi_inc rfl ?_ | refine gi_sub (by omega) ?_ | refine gi_mul ?_ | refine go_nx rfl ?_)
      refine go_step ?_
      refine g_callV (by decide) (by decide) (Nat.le_of_ble_eq_true rfl) (Nat.le_of_ble_eq_true rfl) mH_rcv (by omega) (Nat.le_of_ble_eq_true rfl) rfl ?_
      refine sp_mval (by omega) (hm _) hw hnl ?_
      repeat (first | refine gi_con ?_ | refine gi_bip (Nat.le_of_ble_eq_true rfl) ?_ | refine gi_sip (Nat.le_of_ble_eq_true rfl) ?_ | refine gi_ldc ?_ | refine gi_add ?_ | refine gi_inc rfl ?_ | refine gi_sub (by omega) ?_ | refine gi_mul ?_ | refine go_nx rfl ?_)
      refine go_step ?_
      refine g_callV (by decide) (by decide) (Nat.le_of_ble_eq_true rfl) (Nat.le_of_ble_eq_true rfl) mH_rcv (by omega) (Nat.le_of_ble_eq_true rfl) rfl ?_
      refine hX c1 (c + 1) _ (by omega) (fun c' hc' => ?_)
      repeat (first | refine gi_con ?_ | refine gi_bip (Nat.le_of_ble_eq_true rfl) ?_ | refine gi_sip (Nat.le_of_ble_eq_true rfl) ?_ | refine gi_ldc ?_ | refine gi_add ?_ | refine gi_inc rfl ?_ | refine gi_sub (by omega) ?_ | refine gi_mul ?_ | refine go_nx rfl ?_)
      refine go_jp rfl ?_
      refine go_rt rfl ?_
      exact hq c' hc'
    repeat (first | refine gi_con ?_ | refine gi_bip (Nat.le_of_ble_eq_true rfl) ?_ | refine gi_sip (Nat.le_of_ble_eq_true rfl) ?_ | refine gi_ldc ?_ | refine gi_add ?_ | refine gi_inc rfl ?_ | refine gi_sub (by omega) ?_ | refine gi_mul ?_ | refine go_nx rfl ?_)
    refine go_step ?_
    refine g_callV (by decide) (by decide) (Nat.le_of_ble_eq_true rfl) (Nat.le_of_ble_eq_true rfl) mH_rcv (by omega) (Nat.le_of_ble_eq_true rfl) rfl ?_
    refine sp_miscond (by omega) (hm _) hw hok ?_
    repeat (first | refine gi_con ?_ | refine gi_bip (Nat.le_of_ble_eq_true rfl) ?_ | refine gi_sip (Nat.le_of_ble_eq_true rfl) ?_ | refine gi_ldc ?_ | refine gi_add ?_ | refine gi_inc rfl ?_ | refine gi_sub (by omega) ?_ | refine gi_mul ?_ | refine go_nx rfl ?_)
    first | refine gt_eq (fun c1 => ?_) (fun c1 => ?_) | refine gt_ne (fun c1 => ?_) (fun c1 => ?_)
    · repeat (first | refine gi_con ?_ | refine gi_bip (Nat.le_of_ble_eq_true rfl) ?_ | refine gi_sip (Nat.le_of_ble_eq_true rfl) ?_ | refine gi_ldc ?_ | refine gi_add ?_ | refine gi_inc rfl ?_ | refine gi_sub (by omega) ?_ | refine gi_mul ?_ | refine go_nx rfl ?_)
      refine go_jp rfl ?_
      exact eight 2 (by rw [c1]; rfl)
    · repeat (first | refine gi_con ?_ | refine gi_bip (Nat.le_of_ble_eq_true rfl) ?_ | refine gi_sip (Nat.le_of_ble_eq_true rfl) ?_ | refine gi_ldc ?_ | refine gi_add ?_ | refine gi_inc rfl ?_ | refine gi_sub (by omega) ?_ | refine gi_mul ?_ | refine go_nx rfl ?_)
      refine go_jp rfl ?_
      exact eight 1 (by rw [c1]; rfl)
  have loop : ∀ (k i : Nat) (g : Bool), k + i = q_ne B e - (e + 2) → (g && q_nd B k (e + 2 + i)) = q_gp B e → mm_Go E d 134 (mm_blk 134 1) [.ref o, .int (nI (b + e)), .int (nI (q_ne B e - (e + 1))), .int (q_t g), .int (nI (b + (e + 2 + i)))] [] (mH h o ad (mI I c 0) C) Q := by
    intro k
    induction k with
    | zero =>
      intro i g hk hg
      unfold q_nd at hg
      rw [Bool.and_true] at hg
      repeat (first | refine gi_con ?_ | refine gi_bip (Nat.le_of_ble_eq_true rfl) ?_ | refine gi_sip (Nat.le_of_ble_eq_true rfl) ?_ | refine gi_ldc ?_ | refine gi_add ?_ | refine gi_inc rfl ?_ | refine gi_sub (by omega) ?_ | refine gi_mul ?_ | refine go_nx rfl ?_)
      first | refine gb_lt (by omega) (by omega) (fun c1 => ?_) (fun c1 => ?_) | refine gb_ge (by omega) (by omega) (fun c1 => ?_) (fun c1 => ?_) | refine gb_gt (by omega) (by omega) (fun c1 => ?_) (fun c1 => ?_) | refine gb_le (by omega) (by omega) (fun c1 => ?_) (fun c1 => ?_) | refine gb_eq (by omega) (by omega) (fun c1 => ?_) (fun c1 => ?_) | refine gb_ne (by omega) (by omega) (fun c1 => ?_) (fun c1 => ?_)
      · repeat (first | refine gi_con ?_ | refine gi_bip (Nat.le_of_ble_eq_true rfl) ?_ | refine gi_sip (Nat.le_of_ble_eq_true rfl) ?_ | refine gi_ldc ?_ | refine gi_add ?_ | refine gi_inc rfl ?_ | refine gi_sub (by omega) ?_ | refine gi_mul ?_ | refine go_nx rfl ?_)
        first | refine gt_eq (fun c2 => ?_) (fun c2 => ?_) | refine gt_ne (fun c2 => ?_) (fun c2 => ?_)
        · exact six 0 _ _ (Or.inl ⟨rfl, by rw [← hg]; exact c2⟩)
        · repeat (first | refine gi_con ?_ | refine gi_bip (Nat.le_of_ble_eq_true rfl) ?_ | refine gi_sip (Nat.le_of_ble_eq_true rfl) ?_ | refine gi_ldc ?_ | refine gi_add ?_ | refine gi_inc rfl ?_ | refine gi_sub (by omega) ?_ | refine gi_mul ?_ | refine go_nx rfl ?_)
          refine go_step ?_
          refine g_callV (by decide) (by decide) (Nat.le_of_ble_eq_true rfl) (Nat.le_of_ble_eq_true rfl) mH_rcv (by omega) (Nat.le_of_ble_eq_true rfl) rfl ?_
          refine sp_mfails (by omega) ?_
          repeat (first | refine gi_con ?_ | refine gi_bip (Nat.le_of_ble_eq_true rfl) ?_ | refine gi_sip (Nat.le_of_ble_eq_true rfl) ?_ | refine gi_ldc ?_ | refine gi_add ?_ | refine gi_inc rfl ?_ | refine gi_sub (by omega) ?_ | refine gi_mul ?_ | refine go_nx rfl ?_)
          refine go_jp rfl ?_
          exact six 3 _ _ (Or.inr ⟨rfl, by rw [← hg]; exact c2⟩)
      · omega
    | succ k ih =>
      intro i g hk hg
      unfold q_nd at hg
      have hB1 := hw.2.2.2.1 (e + 2 + i)
      have hB2 := hw.2.2.2.1 (e + 2 + i - 1)
      have four : ∀ g2 : Bool, (g && !(decide (B (e + 2 + i) = 36) && decide (B (e + 2 + i - 1) = 46))) = g2 → mm_Go E d 134 (mm_blk 134 4) [.ref o, .int (nI (b + e)), .int (nI (q_ne B e - (e + 1))), .int (q_t g), .int (nI (b + (e + 2 + i)))] [.int (q_t g2)] (mH h o ad (mI I c 0) C) Q := by
        intro g2 hg2
        rw [← Bool.and_assoc, hg2] at hg
        repeat (first | refine gi_con ?_ | refine gi_bip (Nat.le_of_ble_eq_true rfl) ?_ | refine gi_sip (Nat.le_of_ble_eq_true rfl) ?_ | refine gi_ldc ?_ | refine gi_add ?_ | refine gi_inc rfl ?_ | refine gi_sub (by omega) ?_ | refine gi_mul ?_ | refine go_nx rfl ?_)
        refine go_jp rfl ?_
        exact ih (i + 1) g2 (by omega) hg
      have three : (g && !(decide (B (e + 2 + i) = 36) && decide (B (e + 2 + i - 1) = 46))) = false → mm_Go E d 134 (mm_blk 134 3) [.ref o, .int (nI (b + e)), .int (nI (q_ne B e - (e + 1))), .int (q_t g), .int (nI (b + (e + 2 + i)))] [] (mH h o ad (mI I c 0) C) Q := by
        intro hh
        repeat (first | refine gi_con ?_ | refine gi_bip (Nat.le_of_ble_eq_true rfl) ?_ | refine gi_sip (Nat.le_of_ble_eq_true rfl) ?_ | refine gi_ldc ?_ | refine gi_add ?_ | refine gi_inc rfl ?_ | refine gi_sub (by omega) ?_ | refine gi_mul ?_ | refine go_nx rfl ?_)
        refine go_jp rfl ?_
        exact four false hh
      have two : (g && !(decide (B (e + 2 + i) = 36) && decide (B (e + 2 + i - 1) = 46))) = true → mm_Go E d 134 (mm_blk 134 2) [.ref o, .int (nI (b + e)), .int (nI (q_ne B e - (e + 1))), .int (q_t g), .int (nI (b + (e + 2 + i)))] [] (mH h o ad (mI I c 0) C) Q := by
        intro hh
        repeat (first | refine gi_con ?_ | refine gi_bip (Nat.le_of_ble_eq_true rfl) ?_ | refine gi_sip (Nat.le_of_ble_eq_true rfl) ?_ | refine gi_ldc ?_ | refine gi_add ?_ | refine gi_inc rfl ?_ | refine gi_sub (by omega) ?_ | refine gi_mul ?_ | refine go_nx rfl ?_)
        refine go_jp rfl ?_
        exact four true hh
      repeat (first | refine gi_con ?_ | refine gi_bip (Nat.le_of_ble_eq_true rfl) ?_ | refine gi_sip (Nat.le_of_ble_eq_true rfl) ?_ | refine gi_ldc ?_ | refine gi_add ?_ | refine gi_inc rfl ?_ | refine gi_sub (by omega) ?_ | refine gi_mul ?_ | refine go_nx rfl ?_)
      first | refine gb_lt (by omega) (by omega) (fun c1 => ?_) (fun c1 => ?_) | refine gb_ge (by omega) (by omega) (fun c1 => ?_) (fun c1 => ?_) | refine gb_gt (by omega) (by omega) (fun c1 => ?_) (fun c1 => ?_) | refine gb_le (by omega) (by omega) (fun c1 => ?_) (fun c1 => ?_) | refine gb_eq (by omega) (by omega) (fun c1 => ?_) (fun c1 => ?_) | refine gb_ne (by omega) (by omega) (fun c1 => ?_) (fun c1 => ?_)
      · omega
      repeat (first | refine gi_con ?_ | refine gi_bip (Nat.le_of_ble_eq_true rfl) ?_ | refine gi_sip (Nat.le_of_ble_eq_true rfl) ?_ | refine gi_ldc ?_ | refine gi_add ?_ | refine gi_inc rfl ?_ | refine gi_sub (by omega) ?_ | refine gi_mul ?_ | refine go_nx rfl ?_)
      first | refine gt_eq (fun c2 => ?_) (fun c2 => ?_) | refine gt_ne (fun c2 => ?_) (fun c2 => ?_)
      · exact three (by rw [c2]; rfl)
      repeat (first | refine gi_con ?_ | refine gi_bip (Nat.le_of_ble_eq_true rfl) ?_ | refine gi_sip (Nat.le_of_ble_eq_true rfl) ?_ | refine gi_ldc ?_ | refine gi_add ?_ | refine gi_inc rfl ?_ | refine gi_sub (by omega) ?_ | refine gi_mul ?_ | refine go_nx rfl ?_)
      refine go_step ?_
      refine g_callV (by decide) (by decide) (Nat.le_of_ble_eq_true rfl) (Nat.le_of_ble_eq_true rfl) mH_rcv (by omega) (Nat.le_of_ble_eq_true rfl) rfl ?_
      refine sp_mat2 (hm _) hw (by omega) ?_
      repeat (first | refine gi_con ?_ | refine gi_bip (Nat.le_of_ble_eq_true rfl) ?_ | refine gi_sip (Nat.le_of_ble_eq_true rfl) ?_ | refine gi_ldc ?_ | refine gi_add ?_ | refine gi_inc rfl ?_ | refine gi_sub (by omega) ?_ | refine gi_mul ?_ | refine go_nx rfl ?_)
      first | refine gb_lt (by omega) (by omega) (fun c3 => ?_) (fun c3 => ?_) | refine gb_ge (by omega) (by omega) (fun c3 => ?_) (fun c3 => ?_) | refine gb_gt (by omega) (by omega) (fun c3 => ?_) (fun c3 => ?_) | refine gb_le (by omega) (by omega) (fun c3 => ?_) (fun c3 => ?_) | refine gb_eq (by omega) (by omega) (fun c3 => ?_) (fun c3 => ?_) | refine gb_ne (by omega) (by omega) (fun c3 => ?_) (fun c3 => ?_)
      · exact two (by rw [c2, decide_eq_false c3]; rfl)
      repeat (first | refine gi_con ?_ | refine gi_bip (Nat.le_of_ble_eq_true rfl) ?_ | refine gi_sip (Nat.le_of_ble_eq_true rfl) ?_ | refine gi_ldc ?_ | refine gi_add ?_ | refine gi_inc rfl ?_ | refine gi_sub (by omega) ?_ | refine gi_mul ?_ | refine go_nx rfl ?_)
      refine go_step ?_
      refine g_callV (by decide) (by decide) (Nat.le_of_ble_eq_true rfl) (Nat.le_of_ble_eq_true rfl) mH_rcv (by omega) (Nat.le_of_ble_eq_true rfl) rfl ?_
      rw [show b + (e + 2 + i) - 1 = b + (e + 2 + i - 1) by omega]
      refine sp_mat2 (hm _) hw (by omega) ?_
      repeat (first | refine gi_con ?_ | refine gi_bip (Nat.le_of_ble_eq_true rfl) ?_ | refine gi_sip (Nat.le_of_ble_eq_true rfl) ?_ | refine gi_ldc ?_ | refine gi_add ?_ | refine gi_inc rfl ?_ | refine gi_sub (by omega) ?_ | refine gi_mul ?_ | refine go_nx rfl ?_)
      first | refine gb_lt (by omega) (by omega) (fun c4 => ?_) (fun c4 => ?_) | refine gb_ge (by omega) (by omega) (fun c4 => ?_) (fun c4 => ?_) | refine gb_gt (by omega) (by omega) (fun c4 => ?_) (fun c4 => ?_) | refine gb_le (by omega) (by omega) (fun c4 => ?_) (fun c4 => ?_) | refine gb_eq (by omega) (by omega) (fun c4 => ?_) (fun c4 => ?_) | refine gb_ne (by omega) (by omega) (fun c4 => ?_) (fun c4 => ?_)
      · exact three (by rw [decide_eq_true c3, decide_eq_true c4]; simp)
      · refine go_jp rfl ?_
        exact two (by rw [c2, decide_eq_false c4]; simp)
  repeat (first | refine gi_con ?_ | refine gi_bip (Nat.le_of_ble_eq_true rfl) ?_ | refine gi_sip (Nat.le_of_ble_eq_true rfl) ?_ | refine gi_ldc ?_ | refine gi_add ?_ | refine gi_inc rfl ?_ | refine gi_sub (by omega) ?_ | refine gi_mul ?_ | refine go_nx rfl ?_)
  refine go_step ?_
  refine g_callV (by decide) (by decide) (Nat.le_of_ble_eq_true rfl) (Nat.le_of_ble_eq_true rfl) mH_rcv (by omega) (Nat.le_of_ble_eq_true rfl) rfl ?_
  refine sp_mne (hm _) hw hnl ?_
  repeat (first | refine gi_con ?_ | refine gi_bip (Nat.le_of_ble_eq_true rfl) ?_ | refine gi_sip (Nat.le_of_ble_eq_true rfl) ?_ | refine gi_ldc ?_ | refine gi_add ?_ | refine gi_inc rfl ?_ | refine gi_sub (by omega) ?_ | refine gi_mul ?_ | refine go_nx rfl ?_)
  refine go_step ?_
  refine g_callV (by decide) (by decide) (Nat.le_of_ble_eq_true rfl) (Nat.le_of_ble_eq_true rfl) mH_rcv (by omega) (Nat.le_of_ble_eq_true rfl) rfl ?_
  rw [show b + q_ne B e - (b + e) - 1 = q_ne B e - (e + 1) by omega]
  refine sp_mpath (B := fun j => B (e + 1 + j)) (by omega) (hm _) (fun j hj => ?_) (by omega) (fun j => hw.2.2.2.1 _) ?_
  · rw [Nat.add_assoc b e 1, Nat.add_assoc, hw.1 _ (by omega)]
  repeat (first | refine gi_con ?_ | refine gi_bip (Nat.le_of_ble_eq_true rfl) ?_ | refine gi_sip (Nat.le_of_ble_eq_true rfl) ?_ | refine gi_ldc ?_ | refine gi_add ?_ | refine gi_inc rfl ?_ | refine gi_sub (by omega) ?_ | refine gi_mul ?_ | refine go_nx rfl ?_)
  refine go_jp rfl ?_
  rw [show b + e + 2 = b + (e + 2 + 0) by omega]
  exact loop (q_ne B e - (e + 2)) 0 _ (by omega) (q_gp_is h36 (q_u8_nm hu hne.1)).symm
end M
end
section
section M
variable {E : mmE} {h : mmH} {o n b : Nat} {ad : Nat → Nat} {I : Nat → Int32} {C : Nat → Nat → Int32} {R B : Nat → Nat}
theorem q_word_0 {e : Nat} (hr : q_row B n) (he : e ≤ 2000) : q_word B e = 0 ↔ B (e + 1) ≠ 36 := by
  obtain ⟨h1, h2, h3⟩ := q_ne_is hr he
  unfold q_word
  by_cases h : B (e + 1) = 36
  · rw [if_neg (by
      intro q
      rcases q with q | q
      · have : q_ne B e = e + 1 := by omega
        rw [this, h] at h2
        cases h2
      · exact q h)]
    refine ⟨fun q => ?_, fun q => absurd h q⟩
    split at q <;> omega
  · rw [if_pos (Or.inr h)]
    exact ⟨fun _ => h, fun _ => rfl⟩
theorem q_join_0 {e : Nat} (h : q_word B e = 0) : q_join B e = false := by
  unfold q_join
  rw [h]
  rfl
theorem sp_mlookJoin {d : Nat} {Q : Option Value → mmH → Prop} {e c lev last : Nat} {X : Nat → Nat → Nat × Nat} (hd : 5 ≤ d) (hD : mD o ad) (hC : ∀ j, j < 22100 → C 1 j = sb_b (R j)) (hR : ∀ j, R j < 256) (hw : mW R b n B) (hok : q_ok B n e) (hln : last ≤ n) (hbx : B e = 4 → q_box (q_u8 B) B lev (q_val B e) last true = true) (hc : c ≤ 100)
    (hle : ∀ i c, c ≤ 100 → q_le1 (X i c))
    (hX : ∀ (i c : Nat) (Q' : Option Value → mmH → Prop), B i = 3 → q_ok B n i → (∃ lev', lev = lev' + 2 ∧ q_box (q_u8 B) B (lev' + 1) (q_val B i) (q_last B (q_val B e)) false = true) → q_last B (q_val B e) ≤ n → c ≤ 100 → mEnd h o ad I C Q' (X i c) → mm_Go E (d - 1) 127 (mm_blk 127 0) [.ref o, .int (nI (b + q_val B i)), mm_un] [] (mH h o ad (mI I c 0) C) Q')
    (hq : mEnd h o ad I C Q (if q_join B e = false then (1, c) else if B e ≠ 4 ∨ q_sz B (q_val B e) = 5 then (2, c) else q_then (q_cnt c 1) (fun c => q_lp B (q_last B (q_val B e)) (fun i c => if B i = 3 then X i c else (2, c)) 2001 (q_val B e + 4) c))) : mm_Go E d 129 (mm_blk 129 0) [.ref o, .int (nI (b + e)), mm_un, mm_un] [] (mH h o ad (mI I c 0) C) Q := by
  have w2 := hw.2.1
  have hrn := hw.2.2.1
  have hm : ∀ I, mSt (mH h o ad I C) o (ad 1) R := fun I => mH_st hD hC hR
  have hne := q_ne_is hw.2.2 (show e ≤ 2000 by have := hok.1; omega)
  obtain ⟨i1, i2, i3⟩ := q_ok_in hw.2.2 hok
  have hBe := hw.2.2.2.1 e
  have gone : ∀ (f c1 : Nat) (x3 : Value), 0 < f → f < 100 → Q none (mH h o ad (mI I c1 f) C) → mm_Go E d 129 (mm_blk 129 4) [.ref o, .int (nI (b + e)), .int (nI (b + q_val B e)), x3] [] (mH h o ad (mI I c1 f) C) Q := by
    intro f c1 x3 h1 h2 hq
    repeat (first | refine gi_con ?_ | refine gi_bip (Nat.le_of_ble_eq_true rfl) ?_ | refine gi_sip (Nat.le_of_ble_eq_true rfl) ?_ | refine gi_ldc ?_ | refine gi_add ?_ | refine gi_inc rfl ?_ | refine gi_sub (by omega) ?_ | refine gi_mul ?_ | refine go_nx rfl ?_)
    refine gm_get (.int (nI f)) rfl rfl ?_
    first | refine gz_eq (by omega) (fun c2 => ?_) (fun c2 => ?_) | refine gz_ne (by omega) (fun c2 => ?_) (fun c2 => ?_) | refine gz_le (by omega) (fun c2 => ?_) (fun c2 => ?_) | refine gz_gt (by omega) (fun c2 => ?_) (fun c2 => ?_) | refine gz_lt (by omega) (fun c2 => ?_) (fun c2 => ?_) | refine gz_ge (by omega) (fun c2 => ?_) (fun c2 => ?_)
    · refine go_rt rfl ?_
      exact hq
    · omega
  have hle2 : ∀ i c, c ≤ 100 → q_le1 (if B i = 3 then X i c else (2, c)) := by
    intro i c hc
    split
    · exact hle i c hc
    · exact q_le_f (by omega)
  have loop : ∀ (lev' : Nat), lev = lev' + 1 → 5 ≤ q_sz B (q_val B e) → q_last B (q_val B e) < n → ∀ (f i idx c : Nat), q_last B (q_val B e) < f + i → q_at (q_u8 B) lev' B true (q_last B (q_val B e)) i idx → c ≤ 100 → mEnd h o ad I C Q (q_lp B (q_last B (q_val B e)) (fun i c => if B i = 3 then X i c else (2, c)) f i c) → mm_Go E d 129 (mm_blk 129 4) [.ref o, .int (nI (b + e)), .int (nI (b + q_val B e)), .int (nI (b + i))] [] (mH h o ad (mI I c 0) C) Q := by
    intro lev' hlev hsz hlastn f
    induction f with
    | zero =>
      intro i idx c hf hat
      have := q_at_le hat
      omega
    | succ f ih =>
      intro i idx c hf hat hc hq
      have hil := q_at_le hat
      unfold q_lp at hq
      repeat (first | refine gi_con ?_ | refine gi_bip (Nat.le_of_ble_eq_true rfl) ?_ | refine gi_sip (Nat.le_of_ble_eq_true rfl) ?_ | refine gi_ldc ?_ | refine gi_add ?_ | refine gi_inc rfl ?_ | refine gi_sub (by omega) ?_ | refine gi_mul ?_ | refine go_nx rfl ?_)
      refine gm_get (.int (nI 0)) rfl rfl ?_
      first | refine gz_eq (by omega) (fun c1 => ?_) (fun c1 => ?_) | refine gz_ne (by omega) (fun c1 => ?_) (fun c1 => ?_) | refine gz_le (by omega) (fun c1 => ?_) (fun c1 => ?_) | refine gz_gt (by omega) (fun c1 => ?_) (fun c1 => ?_) | refine gz_lt (by omega) (fun c1 => ?_) (fun c1 => ?_) | refine gz_ge (by omega) (fun c1 => ?_) (fun c1 => ?_)
      · omega
      repeat (first | refine gi_con ?_ | refine gi_bip (Nat.le_of_ble_eq_true rfl) ?_ | refine gi_sip (Nat.le_of_ble_eq_true rfl) ?_ | refine gi_ldc ?_ | refine gi_add ?_ | refine gi_inc rfl ?_ | refine gi_sub (by omega) ?_ | refine gi_mul ?_ | refine go_nx rfl ?_)
      refine go_step ?_
      refine g_callV (by decide) (by decide) (Nat.le_of_ble_eq_true rfl) (Nat.le_of_ble_eq_true rfl) mH_rcv (by omega) (Nat.le_of_ble_eq_true rfl) rfl ?_
      refine sp_mlast (by omega) (hm _) hw (by unfold q_last at hlastn; omega) (by omega) ?_
      repeat (first | refine gi_con ?_ | refine gi_bip (Nat.le_of_ble_eq_true rfl) ?_ | refine gi_sip (Nat.le_of_ble_eq_true rfl) ?_ | refine gi_ldc ?_ | refine gi_add ?_ | refine gi_inc rfl ?_ | refine gi_sub (by omega) ?_ | refine gi_mul ?_ | refine go_nx rfl ?_)
      first | refine gb_lt (by omega) (by omega) (fun c2 => ?_) (fun c2 => ?_) | refine gb_ge (by omega) (by omega) (fun c2 => ?_) (fun c2 => ?_) | refine gb_gt (by omega) (by omega) (fun c2 => ?_) (fun c2 => ?_) | refine gb_le (by omega) (by omega) (fun c2 => ?_) (fun c2 => ?_) | refine gb_eq (by omega) (by omega) (fun c2 => ?_) (fun c2 => ?_) | refine gb_ne (by omega) (by omega) (fun c2 => ?_) (fun c2 => ?_)
      · rw [if_neg (by omega)] at hq
        refine go_rt rfl ?_
        exact hq c (fun _ => rfl)
      rw [if_pos (by omega)] at hq
      have hil2 : i < q_last B (q_val B e) := by omega
      have hel := q_at_el hat hil2
      have hoki := q_at_ok (n := n) hat hil2 (by omega)
      obtain ⟨j1, j2, j3⟩ := q_ok_in hw.2.2 hoki
      have hBi := hw.2.2.2.1 i
      have hnx : q_next B i ≤ q_last B (q_val B e) := q_at_le hel.2.2.2.2
      have six : ∀ (r : Nat × Nat) (c1 : Nat), q_le1 r → (r.1 = 0 → c1 = r.2) → (if B i = 3 then X i c else (2, c)) = r → mm_Go E d 129 (mm_blk 129 6) [.ref o, .int (nI (b + e)), .int (nI (b + q_val B e)), .int (nI (b + i))] [] (mH h o ad (mI I c1 r.1) C) Q := by
        intro r c1 hr1 hr2 hr3
        rw [hr3] at hq
        unfold q_then at hq
        repeat (first | refine gi_con ?_ | refine gi_bip (Nat.le_of_ble_eq_true rfl) ?_ | refine gi_sip (Nat.le_of_ble_eq_true rfl) ?_ | refine gi_ldc ?_ | refine gi_add ?_ | refine gi_inc rfl ?_ | refine gi_sub (by omega) ?_ | refine gi_mul ?_ | refine go_nx rfl ?_)
        refine go_step ?_
        refine g_callV (by decide) (by decide) (Nat.le_of_ble_eq_true rfl) (Nat.le_of_ble_eq_true rfl) mH_rcv (by omega) (Nat.le_of_ble_eq_true rfl) rfl ?_
        refine sp_mnext (by omega) (hm _) hw hoki ?_
        repeat (first | refine gi_con ?_ | refine gi_bip (Nat.le_of_ble_eq_true rfl) ?_ | refine gi_sip (Nat.le_of_ble_eq_true rfl) ?_ | refine gi_ldc ?_ | refine gi_add ?_ | refine gi_inc rfl ?_ | refine gi_sub (by omega) ?_ | refine gi_mul ?_ | refine go_nx rfl ?_)
        refine go_jp rfl ?_
        by_cases h0 : r.1 = 0
        · rw [if_pos h0] at hq
          rw [h0, hr2 h0]
          exact ih (q_next B i) (idx + 1) r.2 (by omega) hel.2.2.2.2 (hr1.2 h0) hq
        · rw [if_neg h0] at hq
          exact gone r.1 c1 _ (by omega) (by have := hr1.1; omega) (hq c1 hr2)
      repeat (first | refine gi_con ?_ | refine gi_bip (Nat.le_of_ble_eq_true rfl) ?_ | refine gi_sip (Nat.le_of_ble_eq_true rfl) ?_ | refine gi_ldc ?_ | refine gi_add ?_ | refine gi_inc rfl ?_ | refine gi_sub (by omega) ?_ | refine gi_mul ?_ | refine go_nx rfl ?_)
      refine go_step ?_
      refine g_callV (by decide) (by decide) (Nat.le_of_ble_eq_true rfl) (Nat.le_of_ble_eq_true rfl) mH_rcv (by omega) (Nat.le_of_ble_eq_true rfl) rfl ?_
      refine sp_mat2 (hm _) hw hoki.1 ?_
      repeat (first | refine gi_con ?_ | refine gi_bip (Nat.le_of_ble_eq_true rfl) ?_ | refine gi_sip (Nat.le_of_ble_eq_true rfl) ?_ | refine gi_ldc ?_ | refine gi_add ?_ | refine gi_inc rfl ?_ | refine gi_sub (by omega) ?_ | refine gi_mul ?_ | refine go_nx rfl ?_)
      first | refine gb_lt (by omega) (by omega) (fun c3 => ?_) (fun c3 => ?_) | refine gb_ge (by omega) (by omega) (fun c3 => ?_) (fun c3 => ?_) | refine gb_gt (by omega) (by omega) (fun c3 => ?_) (fun c3 => ?_) | refine gb_le (by omega) (by omega) (fun c3 => ?_) (fun c3 => ?_) | refine gb_eq (by omega) (by omega) (fun c3 => ?_) (fun c3 => ?_) | refine gb_ne (by omega) (by omega) (fun c3 => ?_) (fun c3 => ?_)
      · repeat (first | refine gi_con ?_ | refine gi_bip (Nat.le_of_ble_eq_true rfl) ?_ | refine gi_sip (Nat.le_of_ble_eq_true rfl) ?_ | refine gi_ldc ?_ | refine gi_add ?_ | refine gi_inc rfl ?_ | refine gi_sub (by omega) ?_ | refine gi_mul ?_ | refine go_nx rfl ?_)
        refine go_step ?_
        refine g_callV (by decide) (by decide) (Nat.le_of_ble_eq_true rfl) (Nat.le_of_ble_eq_true rfl) mH_rcv (by omega) (Nat.le_of_ble_eq_true rfl) rfl ?_
        refine sp_mval (by omega) (hm _) hw hoki.2.1 ?_
        repeat (first | refine gi_con ?_ | refine gi_bip (Nat.le_of_ble_eq_true rfl) ?_ | refine gi_sip (Nat.le_of_ble_eq_true rfl) ?_ | refine gi_ldc ?_ | refine gi_add ?_ | refine gi_inc rfl ?_ | refine gi_sub (by omega) ?_ | refine gi_mul ?_ | refine go_nx rfl ?_)
        refine go_step ?_
        refine g_callV (by decide) (by decide) (Nat.le_of_ble_eq_true rfl) (Nat.le_of_ble_eq_true rfl) mH_rcv (by omega) (Nat.le_of_ble_eq_true rfl) rfl ?_
        have hbi := (q_at_box hel.2.1).1 c3
        have hpos := q_box_pos hbi
        refine hX i c _ c3 hoki ⟨lev' - 1, by omega, ?_⟩ (by omega) hc (fun c1 hc1 => ?_)
        · rw [show lev' - 1 + 1 = lev' by omega]
          exact hbi
        repeat (first | refine gi_con ?_ | refine gi_bip (Nat.le_of_ble_eq_true rfl) ?_ | refine gi_sip (Nat.le_of_ble_eq_true rfl) ?_ | refine gi_ldc ?_ | refine gi_add ?_ | refine gi_inc rfl ?_ | refine gi_sub (by omega) ?_ | refine gi_mul ?_ | refine go_nx rfl ?_)
        refine go_jp rfl ?_
        exact six (X i c) c1 (hle i c hc) hc1 (if_pos c3)
      · repeat (first | refine gi_con ?_ | refine gi_bip (Nat.le_of_ble_eq_true rfl) ?_ | refine gi_sip (Nat.le_of_ble_eq_true rfl) ?_ | refine gi_ldc ?_ | refine gi_add ?_ | refine gi_inc rfl ?_ | refine gi_sub (by omega) ?_ | refine gi_mul ?_ | refine go_nx rfl ?_)
        refine go_step ?_
        refine g_callV (by decide) (by decide) (Nat.le_of_ble_eq_true rfl) (Nat.le_of_ble_eq_true rfl) mH_rcv (by omega) (Nat.le_of_ble_eq_true rfl) rfl ?_
        refine sp_mfails (by omega) ?_
        repeat (first | refine gi_con ?_ | refine gi_bip (Nat.le_of_ble_eq_true rfl) ?_ | refine gi_sip (Nat.le_of_ble_eq_true rfl) ?_ | refine gi_ldc ?_ | refine gi_add ?_ | refine gi_inc rfl ?_ | refine gi_sub (by omega) ?_ | refine gi_mul ?_ | refine go_nx rfl ?_)
        refine go_jp rfl ?_
        exact six (2, c) c (q_le_f (by omega)) (fun q => by cases q) (if_neg c3)
  have three : ∀ (f : Nat), f < 100 → (f = 0 → q_join B e = true ∧ ¬ (B e ≠ 4 ∨ q_sz B (q_val B e) = 5)) → (0 < f → ∀ c1, Q none (mH h o ad (mI I c1 f) C)) → mm_Go E d 129 (mm_blk 129 3) [.ref o, .int (nI (b + e)), .int (nI (b + q_val B e)), mm_un] [] (mH h o ad (mI I c f) C) Q := by
    intro f hf h0 h1
    repeat (first | refine gi_con ?_ | refine gi_bip (Nat.le_of_ble_eq_true rfl) ?_ | refine gi_sip (Nat.le_of_ble_eq_true rfl) ?_ | refine gi_ldc ?_ | refine gi_add ?_ | refine gi_inc rfl ?_ | refine gi_sub (by omega) ?_ | refine gi_mul ?_ | refine go_nx rfl ?_)
    refine go_step ?_
    refine g_callV (by decide) (by decide) (Nat.le_of_ble_eq_true rfl) (Nat.le_of_ble_eq_true rfl) mH_rcv (by omega) (Nat.le_of_ble_eq_true rfl) rfl ?_
    refine sp_mcounts (by omega) (by omega) (by omega) hf ?_
    repeat (first | refine gi_con ?_ | refine gi_bip (Nat.le_of_ble_eq_true rfl) ?_ | refine gi_sip (Nat.le_of_ble_eq_true rfl) ?_ | refine gi_ldc ?_ | refine gi_add ?_ | refine gi_inc rfl ?_ | refine gi_sub (by omega) ?_ | refine gi_mul ?_ | refine go_nx rfl ?_)
    refine go_jp rfl ?_
    by_cases hf0 : f = 0
    · subst hf0
      obtain ⟨h2, h3⟩ := h0 rfl
      rw [h2, if_neg (by decide), if_neg h3] at hq
      unfold q_then q_cnt at hq
      by_cases h4 : 100 < c + 1
      · rw [if_pos h4, if_neg (show ¬ (5 : Nat) = 0 by decide)] at hq
        rw [if_pos h4]
        exact gone 5 _ _ (by omega) (by omega) (mEnd_f hq (by decide))
      · rw [if_neg h4, if_pos rfl] at hq
        rw [if_neg h4, Nat.add_assoc]
        have h5 : B e = 4 := Classical.not_not.mp (fun q => h3 (Or.inl q))
        have hb := hbx h5
        have hlev : lev = lev - 1 + 1 := by have := q_box_pos hb; omega
        rw [hlev] at hb
        obtain ⟨g1, g2, g3, g4⟩ := q_box_at hb
        have hll : q_last B (q_val B e) < n := by unfold q_last; omega
        exact loop (lev - 1) hlev g2 hll 2001 _ 0 (c + 1) (by omega) g4 (by omega) hq
    · have hf1 : (if 100 < c + 1 then (if f = 0 then 5 else f) else f) = f := by
        rw [if_neg hf0]
        split <;> rfl
      rw [hf1]
      exact gone f _ _ (by omega) hf (h1 (by omega) _)
  have two : (q_join B e = true ∧ (B e ≠ 4 ∨ q_sz B (q_val B e) = 5)) → mm_Go E d 129 (mm_blk 129 2) [.ref o, .int (nI (b + e)), .int (nI (b + q_val B e)), mm_un] [] (mH h o ad (mI I c 0) C) Q := by
    intro h1
    rw [h1.1, if_neg (by decide), if_pos h1.2] at hq
    repeat (first | refine gi_con ?_ | refine gi_bip (Nat.le_of_ble_eq_true rfl) ?_ | refine gi_sip (Nat.le_of_ble_eq_true rfl) ?_ | refine gi_ldc ?_ | refine gi_add ?_ | refine gi_inc rfl ?_ | refine gi_sub (by omega) ?_ | refine gi_mul ?_ | refine go_nx rfl ?_)
    refine go_step ?_
    refine g_callV (by decide) (by decide) (Nat.le_of_ble_eq_true rfl) (Nat.le_of_ble_eq_true rfl) mH_rcv (by omega) (Nat.le_of_ble_eq_true rfl) rfl ?_
    refine sp_mfails (by omega) ?_
    repeat (first | refine gi_con ?_ | refine gi_bip (Nat.le_of_ble_eq_true rfl) ?_ | refine gi_sip (Nat.le_of_ble_eq_true rfl) ?_ | refine gi_ldc ?_ | refine gi_add ?_ | refine gi_inc rfl ?_ | refine gi_sub (by omega) ?_ | refine gi_mul ?_ | refine go_nx rfl ?_)
    refine go_jp rfl ?_
    exact three 2 (by omega) (fun q => by cases q) (fun _ c1 => mEnd_f hq (by decide))
  repeat (first | refine gi_con ?_ | refine gi_bip (Nat.le_of_ble_eq_true rfl) ?_ | refine gi_sip (Nat.le_of_ble_eq_true rfl) ?_ | refine gi_ldc ?_ | refine gi_add ?_ | refine gi_inc rfl ?_ | refine gi_sub (by omega) ?_ | refine gi_mul ?_ | refine go_nx rfl ?_)
  refine go_step ?_
  refine g_callV (by decide) (by decide) (Nat.le_of_ble_eq_true rfl) (Nat.le_of_ble_eq_true rfl) mH_rcv (by omega) (Nat.le_of_ble_eq_true rfl) rfl ?_
  refine sp_mval (by omega) (hm _) hw hok.2.1 ?_
  repeat (first | refine gi_con ?_ | refine gi_bip (Nat.le_of_ble_eq_true rfl) ?_ | refine gi_sip (Nat.le_of_ble_eq_true rfl) ?_ | refine gi_ldc ?_ | refine gi_add ?_ | refine gi_inc rfl ?_ | refine gi_sub (by omega) ?_ | refine gi_mul ?_ | refine go_nx rfl ?_)
  refine go_step ?_
  refine g_callV (by decide) (by decide) (Nat.le_of_ble_eq_true rfl) (Nat.le_of_ble_eq_true rfl) mH_rcv (by omega) (Nat.le_of_ble_eq_true rfl) rfl ?_
  refine sp_misjoin (by omega) (hm _) hw hok.2.1 (by have := hok.1; omega) ?_
  repeat (first | refine gi_con ?_ | refine gi_bip (Nat.le_of_ble_eq_true rfl) ?_ | refine gi_sip (Nat.le_of_ble_eq_true rfl) ?_ | refine gi_ldc ?_ | refine gi_add ?_ | refine gi_inc rfl ?_ | refine gi_sub (by omega) ?_ | refine gi_mul ?_ | refine go_nx rfl ?_)
  first | refine gt_eq (fun c1 => ?_) (fun c1 => ?_) | refine gt_ne (fun c1 => ?_) (fun c1 => ?_)
  · repeat (first | refine gi_con ?_ | refine gi_bip (Nat.le_of_ble_eq_true rfl) ?_ | refine gi_sip (Nat.le_of_ble_eq_true rfl) ?_ | refine gi_ldc ?_ | refine gi_add ?_ | refine gi_inc rfl ?_ | refine gi_sub (by omega) ?_ | refine gi_mul ?_ | refine go_nx rfl ?_)
    refine go_step ?_
    refine g_callV (by decide) (by decide) (Nat.le_of_ble_eq_true rfl) (Nat.le_of_ble_eq_true rfl) mH_rcv (by omega) (Nat.le_of_ble_eq_true rfl) rfl ?_
    refine sp_mat2 (hm _) hw hok.1 ?_
    repeat (first | refine gi_con ?_ | refine gi_bip (Nat.le_of_ble_eq_true rfl) ?_ | refine gi_sip (Nat.le_of_ble_eq_true rfl) ?_ | refine gi_ldc ?_ | refine gi_add ?_ | refine gi_inc rfl ?_ | refine gi_sub (by omega) ?_ | refine gi_mul ?_ | refine go_nx rfl ?_)
    first | refine gb_lt (by omega) (by omega) (fun c2 => ?_) (fun c2 => ?_) | refine gb_ge (by omega) (by omega) (fun c2 => ?_) (fun c2 => ?_) | refine gb_gt (by omega) (by omega) (fun c2 => ?_) (fun c2 => ?_) | refine gb_le (by omega) (by omega) (fun c2 => ?_) (fun c2 => ?_) | refine gb_eq (by omega) (by omega) (fun c2 => ?_) (fun c2 => ?_) | refine gb_ne (by omega) (by omega) (fun c2 => ?_) (fun c2 => ?_)
    · exact two ⟨c1, Or.inl c2⟩
    have hb := hbx c2
    have hs := q_sz_lt hw.2.2.2.1 (q_val B e)
    have hle := q_box_le hb
    repeat (first | refine gi_con ?_ | refine gi_bip (Nat.le_of_ble_eq_true rfl) ?_ | refine gi_sip (Nat.le_of_ble_eq_true rfl) ?_ | refine gi_ldc ?_ | refine gi_add ?_ | refine gi_inc rfl ?_ | refine gi_sub (by omega) ?_ | refine gi_mul ?_ | refine go_nx rfl ?_)
    refine go_step ?_
    refine g_callV (by decide) (by decide) (Nat.le_of_ble_eq_true rfl) (Nat.le_of_ble_eq_true rfl) mH_rcv (by omega) (Nat.le_of_ble_eq_true rfl) rfl ?_
    refine sp_mwh (by omega) (hm _) hw (i3 (Or.inr (Or.inr c2))) ?_
    repeat (first | refine gi_con ?_ | refine gi_bip (Nat.le_of_ble_eq_true rfl) ?_ | refine gi_sip (Nat.le_of_ble_eq_true rfl) ?_ | refine gi_ldc ?_ | refine gi_add ?_ | refine gi_inc rfl ?_ | refine gi_sub (by omega) ?_ | refine gi_mul ?_ | refine go_nx rfl ?_)
    first | refine gb_lt (by omega) (by omega) (fun c3 => ?_) (fun c3 => ?_) | refine gb_ge (by omega) (by omega) (fun c3 => ?_) (fun c3 => ?_) | refine gb_gt (by omega) (by omega) (fun c3 => ?_) (fun c3 => ?_) | refine gb_le (by omega) (by omega) (fun c3 => ?_) (fun c3 => ?_) | refine gb_eq (by omega) (by omega) (fun c3 => ?_) (fun c3 => ?_) | refine gb_ne (by omega) (by omega) (fun c3 => ?_) (fun c3 => ?_)
    · exact three 0 (by omega) (fun _ => ⟨c1, fun q => q.elim (fun q => q c2) c3⟩) (fun q => by omega)
    · refine go_jp rfl ?_
      exact two ⟨c1, Or.inr c3⟩
  · rw [c1, if_pos rfl] at hq
    repeat (first | refine gi_con ?_ | refine gi_bip (Nat.le_of_ble_eq_true rfl) ?_ | refine gi_sip (Nat.le_of_ble_eq_true rfl) ?_ | refine gi_ldc ?_ | refine gi_add ?_ | refine gi_inc rfl ?_ | refine gi_sub (by omega) ?_ | refine gi_mul ?_ | refine go_nx rfl ?_)
    refine go_step ?_
    refine g_callV (by decide) (by decide) (Nat.le_of_ble_eq_true rfl) (Nat.le_of_ble_eq_true rfl) mH_rcv (by omega) (Nat.le_of_ble_eq_true rfl) rfl ?_
    refine sp_mfails (by omega) ?_
    repeat (first | refine gi_con ?_ | refine gi_bip (Nat.le_of_ble_eq_true rfl) ?_ | refine gi_sip (Nat.le_of_ble_eq_true rfl) ?_ | refine gi_ldc ?_ | refine gi_add ?_ | refine gi_inc rfl ?_ | refine gi_sub (by omega) ?_ | refine gi_mul ?_ | refine go_nx rfl ?_)
    refine go_jp rfl ?_
    exact three 1 (by omega) (fun q => by cases q) (fun _ c1 => mEnd_f hq (by decide))
end M
end
section
theorem gl_lt {E : mmE} {d m pc : Nat} {is : List mmI} {L S : List Value} {h : mmH} {Q : Option Value → mmH → Prop} {ex : List Nat} {off : Int} {x y : Int64} (h1 : x < y → mm_Go E d m (mm_blk m (mm_k0 ex)) L S h Q) (h2 : y ≤ x → mm_Go E d m is L S h Q) : mm_Go E d m ((pc, .ifCond .lt off, ex) :: is) L (.int (lg_cmp x y) :: S) h Q :=
  go_br (c := decide (lg_cmp x y < 0)) rfl (fun c => h1 ((lg_cmp_lt x y).mp (of_decide_eq_true c))) (fun c => h2 (by
    have c1 := of_decide_eq_false c
    rw [lg_cmp_lt] at c1
    exact Int64.not_lt.mp c1))
theorem q_nof_iff (w : Nat) : (q_nof w = 2 ↔ w = 7) ∧ (q_nof w = 12 ↔ w = 8) ∧ (q_nof w = 9 ↔ w = 13) ∧ (q_nof w = 10 ↔ w = 14) ∧ (q_nof w = 7 ↔ w = 15) ∧ (q_nof w = 8 ↔ w = 16) ∧ q_nof w ≤ 12 := by
  unfold q_nof
  repeat' split
  all_goals omega
section M
variable {E : mmE} {h : mmH} {o n b : Nat} {ad : Nat → Nat} {I : Nat → Int32} {C : Nat → Nat → Int32} {R B : Nat → Nat}
theorem sp_misofi {d : Nat} {h : mmH} {Q : Option Value → mmH → Prop} {o st e lev last : Nat} (hd : 3 ≤ d) (hm : mSt h o st R) (hw : mW R b n B) (hok : q_ok B n e) (hln : last ≤ n) (hbx : B e = 3 → q_box (q_u8 B) B lev (q_val B e) last false = true) (hq : Q (some (.int (q_t (q_ofi B e)))) h) : mm_Go E d 139 (mm_blk 139 0) [.ref o, .int (nI (b + e))] [] h Q := by
  have hrn := hw.2.2.1
  unfold q_ofi at hq
  repeat (first | refine gi_con ?_ | refine gi_bip (Nat.le_of_ble_eq_true rfl) ?_ | refine gi_sip (Nat.le_of_ble_eq_true rfl) ?_ | refine gi_ldc ?_ | refine gi_add ?_ | refine gi_inc rfl ?_ | refine gi_sub (by omega) ?_ | refine gi_mul ?_ | refine go_nx rfl ?_)
  refine go_step ?_
  refine g_callV (by decide) (by decide) (Nat.le_of_ble_eq_true rfl) (Nat.le_of_ble_eq_true rfl) (mSt_rcv hm) (by omega) (Nat.le_of_ble_eq_true rfl) rfl ?_
  refine sp_miscond (by omega) hm hw hok ?_
  repeat (first | refine gi_con ?_ | refine gi_bip (Nat.le_of_ble_eq_true rfl) ?_ | refine gi_sip (Nat.le_of_ble_eq_true rfl) ?_ | refine gi_ldc ?_ | refine gi_add ?_ | refine gi_inc rfl ?_ | refine gi_sub (by omega) ?_ | refine gi_mul ?_ | refine go_nx rfl ?_)
  first | refine gt_eq (fun c1 => ?_) (fun c1 => ?_) | refine gt_ne (fun c1 => ?_) (fun c1 => ?_)
  · rw [c1] at hq
    repeat (first | refine gi_con ?_ | refine gi_bip (Nat.le_of_ble_eq_true rfl) ?_ | refine gi_sip (Nat.le_of_ble_eq_true rfl) ?_ | refine gi_ldc ?_ | refine gi_add ?_ | refine gi_inc rfl ?_ | refine gi_sub (by omega) ?_ | refine gi_mul ?_ | refine go_nx rfl ?_)
    refine go_jp rfl ?_
    refine go_rt rfl ?_
    exact hq
  have c1' := c1
  unfold q_cond at c1'
  simp only [Bool.and_eq_true, decide_eq_true_eq] at c1'
  obtain ⟨k1, k2, k3⟩ := c1'
  have hb := hbx k1
  have hlev : lev = lev - 1 + 1 := by have := q_box_pos hb; omega
  rw [hlev] at hb
  obtain ⟨g1, g2, g3, g4⟩ := q_box_at hb
  have g5 : q_val B e + 4 < q_last B (q_val B e) := by unfold q_last; omega
  have g6 := q_at_ok (n := n) g4 g5 (by unfold q_last; omega)
  rw [c1, Bool.true_and] at hq
  repeat (first | refine gi_con ?_ | refine gi_bip (Nat.le_of_ble_eq_true rfl) ?_ | refine gi_sip (Nat.le_of_ble_eq_true rfl) ?_ | refine gi_ldc ?_ | refine gi_add ?_ | refine gi_inc rfl ?_ | refine gi_sub (by omega) ?_ | refine gi_mul ?_ | refine go_nx rfl ?_)
  refine go_step ?_
  refine g_callV (by decide) (by decide) (Nat.le_of_ble_eq_true rfl) (Nat.le_of_ble_eq_true rfl) (mSt_rcv hm) (by omega) (Nat.le_of_ble_eq_true rfl) rfl ?_
  refine sp_mval (by omega) hm hw hok.2.1 ?_
  repeat (first | refine gi_con ?_ | refine gi_bip (Nat.le_of_ble_eq_true rfl) ?_ | refine gi_sip (Nat.le_of_ble_eq_true rfl) ?_ | refine gi_ldc ?_ | refine gi_add ?_ | refine gi_inc rfl ?_ | refine gi_sub (by omega) ?_ | refine gi_mul ?_ | refine go_nx rfl ?_)
  refine go_step ?_
  refine g_callV (by decide) (by decide) (Nat.le_of_ble_eq_true rfl) (Nat.le_of_ble_eq_true rfl) (mSt_rcv hm) (by omega) (Nat.le_of_ble_eq_true rfl) rfl ?_
  rw [Nat.add_assoc]
  refine sp_misjoin (by omega) hm hw g6.2.1 (by have := g6.1; omega) ?_
  repeat (first | refine gi_con ?_ | refine gi_bip (Nat.le_of_ble_eq_true rfl) ?_ | refine gi_sip (Nat.le_of_ble_eq_true rfl) ?_ | refine gi_ldc ?_ | refine gi_add ?_ | refine gi_inc rfl ?_ | refine gi_sub (by omega) ?_ | refine gi_mul ?_ | refine go_nx rfl ?_)
  first | refine gt_eq (fun c2 => ?_) (fun c2 => ?_) | refine gt_ne (fun c2 => ?_) (fun c2 => ?_)
  · rw [c2] at hq
    repeat (first | refine gi_con ?_ | refine gi_bip (Nat.le_of_ble_eq_true rfl) ?_ | refine gi_sip (Nat.le_of_ble_eq_true rfl) ?_ | refine gi_ldc ?_ | refine gi_add ?_ | refine gi_inc rfl ?_ | refine gi_sub (by omega) ?_ | refine gi_mul ?_ | refine go_nx rfl ?_)
    refine go_jp rfl ?_
    refine go_rt rfl ?_
    exact hq
  · rw [c2] at hq
    repeat (first | refine gi_con ?_ | refine gi_bip (Nat.le_of_ble_eq_true rfl) ?_ | refine gi_sip (Nat.le_of_ble_eq_true rfl) ?_ | refine gi_ldc ?_ | refine gi_add ?_ | refine gi_inc rfl ?_ | refine gi_sub (by omega) ?_ | refine gi_mul ?_ | refine go_nx rfl ?_)
    refine go_jp rfl ?_
    refine go_rt rfl ?_
    exact hq
theorem sp_mlook (hD : mD o ad) (hC : ∀ j, j < 22100 → C 1 j = sb_b (R j)) (hR : ∀ j, R j < 256) (hw : mW R b n B) : ∀ (k : Nat),
    (∀ (d v stop lev c : Nat) (Q : Option Value → mmH → Prop), 2 * k + 8 ≤ d → lev ≤ k → q_box (q_u8 B) B lev v stop false = true → stop ≤ n → c ≤ 100 → mEnd h o ad I C Q (q_flt B k false v c) → mm_Go E d 127 (mm_blk 127 0) [.ref o, .int (nI (b + v)), mm_un] [] (mH h o ad (mI I c 0) C) Q) ∧
    (∀ (d v stop lev c : Nat) (Q : Option Value → mmH → Prop), 2 * k + 8 ≤ d → lev ≤ k → q_box (q_u8 B) B lev v stop false = true → stop ≤ n → c ≤ 100 → mEnd h o ad I C Q (q_flt B k true v c) → mm_Go E d 136 (mm_blk 136 0) [.ref o, .int (nI (b + v)), mm_un, mm_un, mm_un, mm_un, mm_un] [] (mH h o ad (mI I c 0) C) Q) := by
  have w2 := hw.2.1
  have hrn := hw.2.2.1
  have hm : ∀ I, mSt (mH h o ad I C) o (ad 1) R := fun I => mH_st hD hC hR
  intro k
  induction k with
  | zero =>
    refine ⟨?_, ?_⟩
    · intro d v stop lev c Q hd hl hb
      have := q_box_pos hb
      omega
    · intro d v stop lev c Q hd hl hb
      have := q_box_pos hb
      omega
  | succ k ih =>
    refine ⟨?_, ?_⟩
    · intro d v stop lev c Q hd hl hb hst hc hq
      have hlev : lev = lev - 1 + 1 := by have := q_box_pos hb; omega
      rw [hlev] at hb
      obtain ⟨g1, g2, g3, g4⟩ := q_box_at hb
      have hlastn : q_last B v < n := by unfold q_last; omega
      unfold q_flt at hq
      have gone : ∀ (f c1 e : Nat), 0 < f → f < 100 → e ≤ q_last B v → Q none (mH h o ad (mI I c1 f) C) → mm_Go E d 127 (mm_blk 127 1) [.ref o, .int (nI (b + v)), .int (nI (b + e))] [] (mH h o ad (mI I c1 f) C) Q := by
        intro f c1 e h1 h2 h3 hq
        repeat (first | refine gi_con ?_ | refine gi_bip (Nat.le_of_ble_eq_true rfl) ?_ | refine gi_sip (Nat.le_of_ble_eq_true rfl) ?_ | refine gi_ldc ?_ | refine gi_add ?_ | refine gi_inc rfl ?_ | refine gi_sub (by omega) ?_ | refine gi_mul ?_ | refine go_nx rfl ?_)
        refine go_step ?_
        refine g_callV (by decide) (by decide) (Nat.le_of_ble_eq_true rfl) (Nat.le_of_ble_eq_true rfl) mH_rcv (by omega) (Nat.le_of_ble_eq_true rfl) rfl ?_
        refine sp_mlast (by omega) (hm _) hw (by omega) (by omega) ?_
        repeat (first | refine gi_con ?_ | refine gi_bip (Nat.le_of_ble_eq_true rfl) ?_ | refine gi_sip (Nat.le_of_ble_eq_true rfl) ?_ | refine gi_ldc ?_ | refine gi_add ?_ | refine gi_inc rfl ?_ | refine gi_sub (by omega) ?_ | refine gi_mul ?_ | refine go_nx rfl ?_)
        first | refine gb_lt (by omega) (by omega) (fun c2 => ?_) (fun c2 => ?_) | refine gb_ge (by omega) (by omega) (fun c2 => ?_) (fun c2 => ?_) | refine gb_gt (by omega) (by omega) (fun c2 => ?_) (fun c2 => ?_) | refine gb_le (by omega) (by omega) (fun c2 => ?_) (fun c2 => ?_) | refine gb_eq (by omega) (by omega) (fun c2 => ?_) (fun c2 => ?_) | refine gb_ne (by omega) (by omega) (fun c2 => ?_) (fun c2 => ?_)
        · refine go_rt rfl ?_
          exact hq
        repeat (first | refine gi_con ?_ | refine gi_bip (Nat.le_of_ble_eq_true rfl) ?_ | refine gi_sip (Nat.le_of_ble_eq_true rfl) ?_ | refine gi_ldc ?_ | refine gi_add ?_ | refine gi_inc rfl ?_ | refine gi_sub (by omega) ?_ | refine gi_mul ?_ | refine go_nx rfl ?_)
        refine gm_get (.int (nI f)) rfl rfl ?_
        first | refine gz_eq (by omega) (fun c3 => ?_) (fun c3 => ?_) | refine gz_ne (by omega) (fun c3 => ?_) (fun c3 => ?_) | refine gz_le (by omega) (fun c3 => ?_) (fun c3 => ?_) | refine gz_gt (by omega) (fun c3 => ?_) (fun c3 => ?_) | refine gz_lt (by omega) (fun c3 => ?_) (fun c3 => ?_) | refine gz_ge (by omega) (fun c3 => ?_) (fun c3 => ?_)
        · refine go_rt rfl ?_
          exact hq
        · omega
      have loop : ∀ (f e idx c : Nat), q_last B v < f + e → q_at (q_u8 B) (lev - 1) B false (q_last B v) e idx → c ≤ 100 → mEnd h o ad I C Q (q_lp B (q_last B v) (fun e c =>
          if q_word B e = 0 then (if q_gp B e = false then (3, c) else if q_cond B e = true then q_then (q_cnt c 1) (fun c => q_flt B k true (q_val B e) c) else q_cnt c 2)
          else if q_join B e = false then (1, c) else if B e ≠ 4 ∨ q_sz B (q_val B e) = 5 then (2, c) else q_then (q_cnt c 1) (fun c => q_lp B (q_last B (q_val B e)) (fun i c => if B i = 3 then q_flt B k false (q_val B i) c else (2, c)) 2001 (q_val B e + 4) c)) f e c) → mm_Go E d 127 (mm_blk 127 1) [.ref o, .int (nI (b + v)), .int (nI (b + e))] [] (mH h o ad (mI I c 0) C) Q := by
        intro f
        induction f with
        | zero =>
          intro e idx c hf hat
          have := q_at_le hat
          omega
        | succ f ihf =>
          intro e idx c hf hat hc hq
          have hel := q_at_le hat
          unfold q_lp at hq
          repeat (first | refine gi_con ?_ | refine gi_bip (Nat.le_of_ble_eq_true rfl) ?_ | refine gi_sip (Nat.le_of_ble_eq_true rfl) ?_ | refine gi_ldc ?_ | refine gi_add ?_ | refine gi_inc rfl ?_ | refine gi_sub (by omega) ?_ | refine gi_mul ?_ | refine go_nx rfl ?_)
          refine go_step ?_
          refine g_callV (by decide) (by decide) (Nat.le_of_ble_eq_true rfl) (Nat.le_of_ble_eq_true rfl) mH_rcv (by omega) (Nat.le_of_ble_eq_true rfl) rfl ?_
          refine sp_mlast (by omega) (hm _) hw (by omega) (by omega) ?_
          repeat (first | refine gi_con ?_ | refine gi_bip (Nat.le_of_ble_eq_true rfl) ?_ | refine gi_sip (Nat.le_of_ble_eq_true rfl) ?_ | refine gi_ldc ?_ | refine gi_add ?_ | refine gi_inc rfl ?_ | refine gi_sub (by omega) ?_ | refine gi_mul ?_ | refine go_nx rfl ?_)
          first | refine gb_lt (by omega) (by omega) (fun c2 => ?_) (fun c2 => ?_) | refine gb_ge (by omega) (by omega) (fun c2 => ?_) (fun c2 => ?_) | refine gb_gt (by omega) (by omega) (fun c2 => ?_) (fun c2 => ?_) | refine gb_le (by omega) (by omega) (fun c2 => ?_) (fun c2 => ?_) | refine gb_eq (by omega) (by omega) (fun c2 => ?_) (fun c2 => ?_) | refine gb_ne (by omega) (by omega) (fun c2 => ?_) (fun c2 => ?_)
          · rw [if_neg (by omega)] at hq
            refine go_rt rfl ?_
            exact hq c (fun _ => rfl)
          repeat (first | refine gi_con ?_ | refine gi_bip (Nat.le_of_ble_eq_true rfl) ?_ | refine gi_sip (Nat.le_of_ble_eq_true rfl) ?_ | refine gi_ldc ?_ | refine gi_add ?_ | refine gi_inc rfl ?_ | refine gi_sub (by omega) ?_ | refine gi_mul ?_ | refine go_nx rfl ?_)
          refine gm_get (.int (nI 0)) rfl rfl ?_
          first | refine gz_eq (by omega) (fun c3 => ?_) (fun c3 => ?_) | refine gz_ne (by omega) (fun c3 => ?_) (fun c3 => ?_) | refine gz_le (by omega) (fun c3 => ?_) (fun c3 => ?_) | refine gz_gt (by omega) (fun c3 => ?_) (fun c3 => ?_) | refine gz_lt (by omega) (fun c3 => ?_) (fun c3 => ?_) | refine gz_ge (by omega) (fun c3 => ?_) (fun c3 => ?_)
          · omega
          have hlt : e < q_last B v := by omega
          rw [if_pos hlt] at hq
          have hele := q_at_el hat hlt
          have hok := q_at_ok (n := n) hat hlt (by omega)
          have hnx : q_next B e ≤ q_last B v := q_at_le hele.2.2.2.2
          obtain ⟨i1, i2, i3⟩ := q_ok_in hw.2.2 hok
          have hB1 := hw.2.2.2.1 (e + 1)
          have three : ∀ (r : Nat × Nat) (c1 : Nat), q_le1 r → (r.1 = 0 → c1 = r.2) → mEnd h o ad I C Q (q_then r (fun c' => q_lp B (q_last B v) (fun e c =>
              if q_word B e = 0 then (if q_gp B e = false then (3, c) else if q_cond B e = true then q_then (q_cnt c 1) (fun c => q_flt B k true (q_val B e) c) else q_cnt c 2)
              else if q_join B e = false then (1, c) else if B e ≠ 4 ∨ q_sz B (q_val B e) = 5 then (2, c) else q_then (q_cnt c 1) (fun c => q_lp B (q_last B (q_val B e)) (fun i c => if B i = 3 then q_flt B k false (q_val B i) c else (2, c)) 2001 (q_val B e + 4) c)) f (q_next B e) c')) → mm_Go E d 127 (mm_blk 127 3) [.ref o, .int (nI (b + v)), .int (nI (b + e))] [] (mH h o ad (mI I c1 r.1) C) Q := by
            intro r c1 hr1 hr2 hq
            unfold q_then at hq
            repeat (first | refine gi_con ?_ | refine gi_bip (Nat.le_of_ble_eq_true rfl) ?_ | refine gi_sip (Nat.le_of_ble_eq_true rfl) ?_ | refine gi_ldc ?_ | refine gi_add ?_ | refine gi_inc rfl ?_ | refine gi_sub (by omega) ?_ | refine gi_mul ?_ | refine go_nx rfl ?_)
            refine go_step ?_
            refine g_callV (by decide) (by decide) (Nat.le_of_ble_eq_true rfl) (Nat.le_of_ble_eq_true rfl) mH_rcv (by omega) (Nat.le_of_ble_eq_true rfl) rfl ?_
            refine sp_mnext (by omega) (hm _) hw hok ?_
            repeat (first | refine gi_con ?_ | refine gi_bip (Nat.le_of_ble_eq_true rfl) ?_ | refine gi_sip (Nat.le_of_ble_eq_true rfl) ?_ | refine gi_ldc ?_ | refine gi_add ?_ | refine gi_inc rfl ?_ | refine gi_sub (by omega) ?_ | refine gi_mul ?_ | refine go_nx rfl ?_)
            refine go_jp rfl ?_
            by_cases h0 : r.1 = 0
            · rw [if_pos h0] at hq
              rw [h0, hr2 h0]
              exact ihf (q_next B e) (idx + 1) r.2 (by omega) hele.2.2.2.2 (hr1.2 h0) hq
            · rw [if_neg h0] at hq
              exact gone r.1 c1 _ (by omega) (by have := hr1.1; omega) hnx (hq c1 hr2)
          repeat (first | refine gi_con ?_ | refine gi_bip (Nat.le_of_ble_eq_true rfl) ?_ | refine gi_sip (Nat.le_of_ble_eq_true rfl) ?_ | refine gi_ldc ?_ | refine gi_add ?_ | refine gi_inc rfl ?_ | refine gi_sub (by omega) ?_ | refine gi_mul ?_ | refine go_nx rfl ?_)
          refine go_step ?_
          refine g_callV (by decide) (by decide) (Nat.le_of_ble_eq_true rfl) (Nat.le_of_ble_eq_true rfl) mH_rcv (by omega) (Nat.le_of_ble_eq_true rfl) rfl ?_
          rw [Nat.add_assoc]
          refine sp_mat2 (hm _) hw (by omega) ?_
          repeat (first | refine gi_con ?_ | refine gi_bip (Nat.le_of_ble_eq_true rfl) ?_ | refine gi_sip (Nat.le_of_ble_eq_true rfl) ?_ | refine gi_ldc ?_ | refine gi_add ?_ | refine gi_inc rfl ?_ | refine gi_sub (by omega) ?_ | refine gi_mul ?_ | refine go_nx rfl ?_)
          first | refine gb_lt (by omega) (by omega) (fun c4 => ?_) (fun c4 => ?_) | refine gb_ge (by omega) (by omega) (fun c4 => ?_) (fun c4 => ?_) | refine gb_gt (by omega) (by omega) (fun c4 => ?_) (fun c4 => ?_) | refine gb_le (by omega) (by omega) (fun c4 => ?_) (fun c4 => ?_) | refine gb_eq (by omega) (by omega) (fun c4 => ?_) (fun c4 => ?_) | refine gb_ne (by omega) (by omega) (fun c4 => ?_) (fun c4 => ?_)
          · rw [if_pos ((q_word_0 hw.2.2 (by omega)).mpr c4)] at hq
            repeat (first | refine gi_con ?_ | refine gi_bip (Nat.le_of_ble_eq_true rfl) ?_ | refine gi_sip (Nat.le_of_ble_eq_true rfl) ?_ | refine gi_ldc ?_ | refine gi_add ?_ | refine gi_inc rfl ?_ | refine gi_sub (by omega) ?_ | refine gi_mul ?_ | refine go_nx rfl ?_)
            refine go_step ?_
            refine g_callV (by decide) (by decide) (Nat.le_of_ble_eq_true rfl) (Nat.le_of_ble_eq_true rfl) mH_rcv (by omega) (Nat.le_of_ble_eq_true rfl) rfl ?_
            refine sp_mlookPath (X := fun c => q_flt B k true (q_val B e) c) (by omega) hD hC hR hw hok c4 hele.2.2.1 hc (fun hcd c1 Q' hc1 hq' => ?_) (fun c1 hc1 => ?_)
            · have hk3 : B e = 3 := by
                unfold q_cond at hcd
                simp only [Bool.and_eq_true, decide_eq_true_eq] at hcd
                exact hcd.1
              exact ih.2 (d - 1 - 1) (q_val B e) (q_last B v) (lev - 1) c1 Q' (by omega) (by omega) ((q_at_box hele.2.1).1 hk3) (by omega) hc1 hq'
            · repeat (first | refine gi_con ?_ | refine gi_bip (Nat.le_of_ble_eq_true rfl) ?_ | refine gi_sip (Nat.le_of_ble_eq_true rfl) ?_ | refine gi_ldc ?_ | refine gi_add ?_ | refine gi_inc rfl ?_ | refine gi_sub (by omega) ?_ | refine gi_mul ?_ | refine go_nx rfl ?_)
              refine go_jp rfl ?_
              refine three _ c1 ?_ hc1 hq
              split
              · exact q_le_f (by omega)
              · split
                · exact q_le_then q_le_cnt (fun c hc => q_flt_le _ _ _ _ _ hc)
                · exact q_le_cnt
          · have hwd : ¬ q_word B e = 0 := fun q => (q_word_0 hw.2.2 (by omega)).mp q c4
            rw [if_neg hwd] at hq
            repeat (first | refine gi_con ?_ | refine gi_bip (Nat.le_of_ble_eq_true rfl) ?_ | refine gi_sip (Nat.le_of_ble_eq_true rfl) ?_ | refine gi_ldc ?_ | refine gi_add ?_ | refine gi_inc rfl ?_ | refine gi_sub (by omega) ?_ | refine gi_mul ?_ | refine go_nx rfl ?_)
            refine go_step ?_
            refine g_callV (by decide) (by decide) (Nat.le_of_ble_eq_true rfl) (Nat.le_of_ble_eq_true rfl) mH_rcv (by omega) (Nat.le_of_ble_eq_true rfl) rfl ?_
            refine sp_mlookJoin (X := fun i c => q_flt B k false (q_val B i) c) (lev := lev - 1) (last := q_last B v) (by omega) hD hC hR hw hok (by omega) (q_at_box hele.2.1).2 hc (fun i c hc => q_flt_le _ _ _ _ _ hc) (fun i c1 Q' hbi hoki hbx hlq hc1 hq' => ?_) (fun c1 hc1 => ?_)
            · obtain ⟨l2, hl2, hbx⟩ := hbx
              exact ih.1 (d - 1 - 1) (q_val B i) (q_last B (q_val B e)) (l2 + 1) c1 Q' (by omega) (by omega) hbx hlq hc1 hq'
            · repeat (first | refine gi_con ?_ | refine gi_bip (Nat.le_of_ble_eq_true rfl) ?_ | refine gi_sip (Nat.le_of_ble_eq_true rfl) ?_ | refine gi_ldc ?_ | refine gi_add ?_ | refine gi_inc rfl ?_ | refine gi_sub (by omega) ?_ | refine gi_mul ?_ | refine go_nx rfl ?_)
              refine go_jp rfl ?_
              refine three _ c1 ?_ hc1 hq
              split
              · exact q_le_f (by omega)
              · split
                · exact q_le_f (by omega)
                · refine q_le_then q_le_cnt (fun c hc => q_le_lp (fun i c hc => ?_) _ _ _ hc)
                  split
                  · exact q_flt_le _ _ _ _ _ hc
                  · exact q_le_f (by omega)
      repeat (first | refine gi_con ?_ | refine gi_bip (Nat.le_of_ble_eq_true rfl) ?_ | refine gi_sip (Nat.le_of_ble_eq_true rfl) ?_ | refine gi_ldc ?_ | refine gi_add ?_ | refine gi_inc rfl ?_ | refine gi_sub (by omega) ?_ | refine gi_mul ?_ | refine go_nx rfl ?_)
      refine go_jp rfl ?_
      rw [Nat.add_assoc]
      exact loop 2001 (v + 4) 0 c (by omega) g4 hc hq
    · intro d v stop lev c Q hd hl hb hst hc hq
      have hlev : lev = lev - 1 + 1 := by have := q_box_pos hb; omega
      rw [hlev] at hb
      obtain ⟨g1, g2, g3, g4⟩ := q_box_at hb
      have hlastn : q_last B v < n := by unfold q_last; omega
      unfold q_flt at hq
      have gone : ∀ (f c1 e : Nat) (x3 x4 x5 x6 : Value), 0 < f → f < 100 → e ≤ q_last B v → Q none (mH h o ad (mI I c1 f) C) → mm_Go E d 136 (mm_blk 136 1) [.ref o, .int (nI (b + v)), .int (nI (b + e)), x3, x4, x5, x6] [] (mH h o ad (mI I c1 f) C) Q := by
        intro f c1 e x3 x4 x5 x6 h1 h2 h3 hq
        repeat (first | refine gi_con ?_ | refine gi_bip (Nat.le_of_ble_eq_true rfl) ?_ | refine gi_sip (Nat.le_of_ble_eq_true rfl) ?_ | refine gi_ldc ?_ | refine gi_add ?_ | refine gi_inc rfl ?_ | refine gi_sub (by omega) ?_ | refine gi_mul ?_ | refine go_nx rfl ?_)
        refine go_step ?_
        refine g_callV (by decide) (by decide) (Nat.le_of_ble_eq_true rfl) (Nat.le_of_ble_eq_true rfl) mH_rcv (by omega) (Nat.le_of_ble_eq_true rfl) rfl ?_
        refine sp_mlast (by omega) (hm _) hw (by omega) (by omega) ?_
        repeat (first | refine gi_con ?_ | refine gi_bip (Nat.le_of_ble_eq_true rfl) ?_ | refine gi_sip (Nat.le_of_ble_eq_true rfl) ?_ | refine gi_ldc ?_ | refine gi_add ?_ | refine gi_inc rfl ?_ | refine gi_sub (by omega) ?_ | refine gi_mul ?_ | refine go_nx rfl ?_)
        first | refine gb_lt (by omega) (by omega) (fun c2 => ?_) (fun c2 => ?_) | refine gb_ge (by omega) (by omega) (fun c2 => ?_) (fun c2 => ?_) | refine gb_gt (by omega) (by omega) (fun c2 => ?_) (fun c2 => ?_) | refine gb_le (by omega) (by omega) (fun c2 => ?_) (fun c2 => ?_) | refine gb_eq (by omega) (by omega) (fun c2 => ?_) (fun c2 => ?_) | refine gb_ne (by omega) (by omega) (fun c2 => ?_) (fun c2 => ?_)
        · refine go_rt rfl ?_
          exact hq
        repeat (first | refine gi_con ?_ | refine gi_bip (Nat.le_of_ble_eq_true rfl) ?_ | refine gi_sip (Nat.le_of_ble_eq_true rfl) ?_ | refine gi_ldc ?_ | refine gi_add ?_ | refine gi_inc rfl ?_ | refine gi_sub (by omega) ?_ | refine gi_mul ?_ | refine go_nx rfl ?_)
        refine gm_get (.int (nI f)) rfl rfl ?_
        first | refine gz_eq (by omega) (fun c3 => ?_) (fun c3 => ?_) | refine gz_ne (by omega) (fun c3 => ?_) (fun c3 => ?_) | refine gz_le (by omega) (fun c3 => ?_) (fun c3 => ?_) | refine gz_gt (by omega) (fun c3 => ?_) (fun c3 => ?_) | refine gz_lt (by omega) (fun c3 => ?_) (fun c3 => ?_) | refine gz_ge (by omega) (fun c3 => ?_) (fun c3 => ?_)
        · refine go_rt rfl ?_
          exact hq
        · omega
      have loop : ∀ (f e idx c : Nat) (x3 x4 x5 x6 : Value), q_last B v < f + e → q_at (q_u8 B) (lev - 1) B false (q_last B v) e idx → c ≤ 100 → mEnd h o ad I C Q (q_lp B (q_last B v) (fun e c =>
          if q_nof (q_word B e) = 0 then (1, c) else if q_good B e (q_word B e) = false then (4, c) else q_then (q_cnt c 1) (fun c => if q_word B e = 16 then q_flt B k true (q_val B e) c else if q_word B e = 15 then (if q_ofi B e = true then q_flt B k true (q_val B e) c else q_flt B k false (q_val B e) c) else (0, c))) f e c) → mm_Go E d 136 (mm_blk 136 1) [.ref o, .int (nI (b + v)), .int (nI (b + e)), x3, x4, x5, x6] [] (mH h o ad (mI I c 0) C) Q := by
        intro f
        induction f with
        | zero =>
          intro e idx c x3 x4 x5 x6 hf hat
          have := q_at_le hat
          omega
        | succ f ihf =>
          intro e idx c x3 x4 x5 x6 hf hat hc hq
          have hel := q_at_le hat
          unfold q_lp at hq
          repeat (first | refine gi_con ?_ | refine gi_bip (Nat.le_of_ble_eq_true rfl) ?_ | refine gi_sip (Nat.le_of_ble_eq_true rfl) ?_ | refine gi_ldc ?_ | refine gi_add ?_ | refine gi_inc rfl ?_ | refine gi_sub (by omega) ?_ | refine gi_mul ?_ | refine go_nx rfl ?_)
          refine go_step ?_
          refine g_callV (by decide) (by decide) (Nat.le_of_ble_eq_true rfl) (Nat.le_of_ble_eq_true rfl) mH_rcv (by omega) (Nat.le_of_ble_eq_true rfl) rfl ?_
          refine sp_mlast (by omega) (hm _) hw (by omega) (by omega) ?_
          repeat (first | refine gi_con ?_ | refine gi_bip (Nat.le_of_ble_eq_true rfl) ?_ | refine gi_sip (Nat.le_of_ble_eq_true rfl) ?_ | refine gi_ldc ?_ | refine gi_add ?_ | refine gi_inc rfl ?_ | refine gi_sub (by omega) ?_ | refine gi_mul ?_ | refine go_nx rfl ?_)
          first | refine gb_lt (by omega) (by omega) (fun c2 => ?_) (fun c2 => ?_) | refine gb_ge (by omega) (by omega) (fun c2 => ?_) (fun c2 => ?_) | refine gb_gt (by omega) (by omega) (fun c2 => ?_) (fun c2 => ?_) | refine gb_le (by omega) (by omega) (fun c2 => ?_) (fun c2 => ?_) | refine gb_eq (by omega) (by omega) (fun c2 => ?_) (fun c2 => ?_) | refine gb_ne (by omega) (by omega) (fun c2 => ?_) (fun c2 => ?_)
          · rw [if_neg (by omega)] at hq
            refine go_rt rfl ?_
            exact hq c (fun _ => rfl)
          repeat (first | refine gi_con ?_ | refine gi_bip (Nat.le_of_ble_eq_true rfl) ?_ | refine gi_sip (Nat.le_of_ble_eq_true rfl) ?_ | refine gi_ldc ?_ | refine gi_add ?_ | refine gi_inc rfl ?_ | refine gi_sub (by omega) ?_ | refine gi_mul ?_ | refine go_nx rfl ?_)
          refine gm_get (.int (nI 0)) rfl rfl ?_
          first | refine gz_eq (by omega) (fun c3 => ?_) (fun c3 => ?_) | refine gz_ne (by omega) (fun c3 => ?_) (fun c3 => ?_) | refine gz_le (by omega) (fun c3 => ?_) (fun c3 => ?_) | refine gz_gt (by omega) (fun c3 => ?_) (fun c3 => ?_) | refine gz_lt (by omega) (fun c3 => ?_) (fun c3 => ?_) | refine gz_ge (by omega) (fun c3 => ?_) (fun c3 => ?_)
          · omega
          have hlt : e < q_last B v := by omega
          rw [if_pos hlt] at hq
          have hele := q_at_el hat hlt
          have hok := q_at_ok (n := n) hat hlt (by omega)
          have hnx : q_next B e ≤ q_last B v := q_at_le hele.2.2.2.2
          obtain ⟨i1, i2, i3⟩ := q_ok_in hw.2.2 hok
          have hBe := hw.2.2.2.1 e
          obtain ⟨m2, m12, m9, m10, m7, m8, m13⟩ := q_nof_iff (q_word B e)
          have hbx := q_at_box hele.2.1
          have hbox3 : ∀ (hk3 : B e = 3) (m : Bool) (c1 : Nat) (Q' : Option Value → mmH → Prop), c1 ≤ 100 → mEnd h o ad I C Q' (q_flt B k m (q_val B e) c1) → (m = true → mm_Go E (d - 1) 136 (mm_blk 136 0) [.ref o, .int (nI (b + q_val B e)), mm_un, mm_un, mm_un, mm_un, mm_un] [] (mH h o ad (mI I c1 0) C) Q') ∧ (m = false → mm_Go E (d - 1) 127 (mm_blk 127 0) [.ref o, .int (nI (b + q_val B e)), mm_un] [] (mH h o ad (mI I c1 0) C) Q') := by
            intro hk3 m c1 Q' hc1 hq'
            refine ⟨fun hm1 => ?_, fun hm1 => ?_⟩
            · subst hm1
              exact ih.2 (d - 1) (q_val B e) (q_last B v) (lev - 1) c1 Q' (by omega) (by omega) (hbx.1 hk3) (by omega) hc1 hq'
            · subst hm1
              exact ih.1 (d - 1) (q_val B e) (q_last B v) (lev - 1) c1 Q' (by omega) (by omega) (hbx.1 hk3) (by omega) hc1 hq'
          have nineteen : ∀ (r : Nat × Nat) (c1 : Nat) (good : Bool), q_le1 r → (r.1 = 0 → c1 = r.2) → (if q_nof (q_word B e) = 0 then (1, c) else if q_good B e (q_word B e) = false then (4, c) else q_then (q_cnt c 1) (fun c => if q_word B e = 16 then q_flt B k true (q_val B e) c else if q_word B e = 15 then (if q_ofi B e = true then q_flt B k true (q_val B e) c else q_flt B k false (q_val B e) c) else (0, c))) = r → mm_Go E d 136 (mm_blk 136 19) [.ref o, .int (nI (b + v)), .int (nI (b + e)), .int (nI (q_nof (q_word B e))), .int (nI (b + q_val B e)), .int (nI (B e)), .int (q_t good)] [] (mH h o ad (mI I c1 r.1) C) Q := by
            intro r c1 good hr1 hr2 hr3
            rw [hr3] at hq
            unfold q_then at hq
            repeat (first | refine gi_con ?_ | refine gi_bip (Nat.le_of_ble_eq_true rfl) ?_ | refine gi_sip (Nat.le_of_ble_eq_true rfl) ?_ | refine gi_ldc ?_ | refine gi_add ?_ | refine gi_inc rfl ?_ | refine gi_sub (by omega) ?_ | refine gi_mul ?_ | refine go_nx rfl ?_)
            refine go_step ?_
            refine g_callV (by decide) (by decide) (Nat.le_of_ble_eq_true rfl) (Nat.le_of_ble_eq_true rfl) mH_rcv (by omega) (Nat.le_of_ble_eq_true rfl) rfl ?_
            refine sp_mnext (by omega) (hm _) hw hok ?_
            repeat (first | refine gi_con ?_ | refine gi_bip (Nat.le_of_ble_eq_true rfl) ?_ | refine gi_sip (Nat.le_of_ble_eq_true rfl) ?_ | refine gi_ldc ?_ | refine gi_add ?_ | refine gi_inc rfl ?_ | refine gi_sub (by omega) ?_ | refine gi_mul ?_ | refine go_nx rfl ?_)
            refine go_jp rfl ?_
            by_cases h0 : r.1 = 0
            · rw [if_pos h0] at hq
              rw [h0, hr2 h0]
              exact ihf (q_next B e) (idx + 1) r.2 _ _ _ _ (by omega) hele.2.2.2.2 (hr1.2 h0) hq
            · rw [if_neg h0] at hq
              exact gone r.1 c1 _ _ _ _ _ (by omega) (by have := hr1.1; omega) hnx (hq c1 hr2)
          have seventeen : ∀ (r : Nat × Nat) (c1 : Nat) (good : Bool), q_le1 r → (r.1 = 0 → c1 = r.2) → (q_word B e = 15 → r.1 ≠ 0) → (if q_nof (q_word B e) = 0 then (1, c) else if q_good B e (q_word B e) = false then (4, c) else q_then (q_cnt c 1) (fun c => if q_word B e = 16 then q_flt B k true (q_val B e) c else if q_word B e = 15 then (if q_ofi B e = true then q_flt B k true (q_val B e) c else q_flt B k false (q_val B e) c) else (0, c))) = r → mm_Go E d 136 (mm_blk 136 17) [.ref o, .int (nI (b + v)), .int (nI (b + e)), .int (nI (q_nof (q_word B e))), .int (nI (b + q_val B e)), .int (nI (B e)), .int (q_t good)] [] (mH h o ad (mI I c1 r.1) C) Q := by
            intro r c1 good hr1 hr2 h15 hr3
            have h5 := hr1.1
            repeat (first | refine gi_con ?_ | refine gi_bip (Nat.le_of_ble_eq_true rfl) ?_ | refine gi_sip (Nat.le_of_ble_eq_true rfl) ?_ | refine gi_ldc ?_ | refine gi_add ?_ | refine gi_inc rfl ?_ | refine gi_sub (by omega) ?_ | refine gi_mul ?_ | refine go_nx rfl ?_)
            refine gm_get (.int (nI r.1)) rfl rfl ?_
            first | refine gz_eq (by omega) (fun c4 => ?_) (fun c4 => ?_) | refine gz_ne (by omega) (fun c4 => ?_) (fun c4 => ?_) | refine gz_le (by omega) (fun c4 => ?_) (fun c4 => ?_) | refine gz_gt (by omega) (fun c4 => ?_) (fun c4 => ?_) | refine gz_lt (by omega) (fun c4 => ?_) (fun c4 => ?_) | refine gz_ge (by omega) (fun c4 => ?_) (fun c4 => ?_)
            · exact nineteen r c1 good hr1 hr2 hr3
            repeat (first | refine gi_con ?_ | refine gi_bip (Nat.le_of_ble_eq_true rfl) ?_ | refine gi_sip (Nat.le_of_ble_eq_true rfl) ?_ | refine gi_ldc ?_ | refine gi_add ?_ | refine gi_inc rfl ?_ | refine gi_sub (by omega) ?_ | refine gi_mul ?_ | refine go_nx rfl ?_)
            first | refine gb_lt (by omega) (by omega) (fun c5 => ?_) (fun c5 => ?_) | refine gb_ge (by omega) (by omega) (fun c5 => ?_) (fun c5 => ?_) | refine gb_gt (by omega) (by omega) (fun c5 => ?_) (fun c5 => ?_) | refine gb_le (by omega) (by omega) (fun c5 => ?_) (fun c5 => ?_) | refine gb_eq (by omega) (by omega) (fun c5 => ?_) (fun c5 => ?_) | refine gb_ne (by omega) (by omega) (fun c5 => ?_) (fun c5 => ?_)
            · exact nineteen r c1 good hr1 hr2 hr3
            · exact absurd c4 (h15 (m7.mp c5))
          have sixteen : ∀ (f0 : Nat) (good : Bool), (f0 = 1 ∧ q_nof (q_word B e) = 0 ∨ f0 = 4 ∧ q_nof (q_word B e) ≠ 0 ∧ q_good B e (q_word B e) = false ∨ f0 = 0 ∧ q_nof (q_word B e) ≠ 0 ∧ q_good B e (q_word B e) = true) → mm_Go E d 136 (mm_blk 136 16) [.ref o, .int (nI (b + v)), .int (nI (b + e)), .int (nI (q_nof (q_word B e))), .int (nI (b + q_val B e)), .int (nI (B e)), .int (q_t good)] [] (mH h o ad (mI I c f0) C) Q := by
            intro f0 good hf0
            repeat (first | refine gi_con ?_ | refine gi_bip (Nat.le_of_ble_eq_true rfl) ?_ | refine gi_sip (Nat.le_of_ble_eq_true rfl) ?_ | refine gi_ldc ?_ | refine gi_add ?_ | refine gi_inc rfl ?_ | refine gi_sub (by omega) ?_ | refine gi_mul ?_ | refine go_nx rfl ?_)
            refine go_step ?_
            refine g_callV (by decide) (by decide) (Nat.le_of_ble_eq_true rfl) (Nat.le_of_ble_eq_true rfl) mH_rcv (by omega) (Nat.le_of_ble_eq_true rfl) rfl ?_
            refine sp_mcounts (by omega) (by omega) (by omega) (by omega) ?_
            repeat (first | refine gi_con ?_ | refine gi_bip (Nat.le_of_ble_eq_true rfl) ?_ | refine gi_sip (Nat.le_of_ble_eq_true rfl) ?_ | refine gi_ldc ?_ | refine gi_add ?_ | refine gi_inc rfl ?_ | refine gi_sub (by omega) ?_ | refine gi_mul ?_ | refine go_nx rfl ?_)
            refine gm_get (.int (nI (if 100 < c + 1 then (if f0 = 0 then 5 else f0) else f0))) rfl rfl ?_
            have hfin : 0 < (if 100 < c + 1 then (if f0 = 0 then 5 else f0) else f0) → mm_Go E d 136 (mm_blk 136 17) [.ref o, .int (nI (b + v)), .int (nI (b + e)), .int (nI (q_nof (q_word B e))), .int (nI (b + q_val B e)), .int (nI (B e)), .int (q_t good)] [] (mH h o ad (mI I (c + 1) (if 100 < c + 1 then (if f0 = 0 then 5 else f0) else f0)) C) Q := by
              intro hpos
              rcases hf0 with ⟨z1, z2⟩ | ⟨z1, z2, z3⟩ | ⟨z1, z2, z3⟩
              · have : (if 100 < c + 1 then (if f0 = 0 then 5 else f0) else f0) = 1 := by
                  rw [z1]
                  split <;> rfl
                rw [this]
                exact seventeen (1, c) (c + 1) good (q_le_f (by omega)) (fun q => by cases q) (fun _ q => by cases q) (if_pos z2)
              · have : (if 100 < c + 1 then (if f0 = 0 then 5 else f0) else f0) = 4 := by
                  rw [z1]
                  split <;> rfl
                rw [this]
                exact seventeen (4, c) (c + 1) good (q_le_f (by omega)) (fun q => by cases q) (fun _ q => by cases q) (by rw [if_neg z2, if_pos z3])
              · subst z1
                by_cases h4 : 100 < c + 1
                · rw [if_pos h4, if_pos rfl]
                  refine seventeen (5, c + 1) (c + 1) good (q_le_f (by omega)) (fun q => by cases q) (fun _ q => by cases q) ?_
                  rw [if_neg z2, z3, if_neg (by decide)]
                  unfold q_then q_cnt
                  rw [if_pos h4, if_neg (show ¬ (5 : Nat) = 0 by decide)]
                · rw [if_neg h4] at hpos
                  omega
            have hfb : (if 100 < c + 1 then (if f0 = 0 then 5 else f0) else f0) < 100 := by
              split
              · split <;> omega
              · omega
            first | refine gz_eq (by omega) (fun c4 => ?_) (fun c4 => ?_) | refine gz_ne (by omega) (fun c4 => ?_) (fun c4 => ?_) | refine gz_le (by omega) (fun c4 => ?_) (fun c4 => ?_) | refine gz_gt (by omega) (fun c4 => ?_) (fun c4 => ?_) | refine gz_lt (by omega) (fun c4 => ?_) (fun c4 => ?_) | refine gz_ge (by omega) (fun c4 => ?_) (fun c4 => ?_)
            · exact hfin c4
            have hf00 : f0 = 0 ∧ ¬ 100 < c + 1 := by
              by_cases h4 : 100 < c + 1
              · rw [if_pos h4] at c4
                split at c4 <;> omega
              · rw [if_neg h4] at c4
                exact ⟨c4, h4⟩
            obtain ⟨-, z2, z3⟩ := (hf0.resolve_left (by omega)).resolve_left (by omega)
            have hbase : (if q_nof (q_word B e) = 0 then (1, c) else if q_good B e (q_word B e) = false then (4, c) else q_then (q_cnt c 1) (fun c => if q_word B e = 16 then q_flt B k true (q_val B e) c else if q_word B e = 15 then (if q_ofi B e = true then q_flt B k true (q_val B e) c else q_flt B k false (q_val B e) c) else (0, c))) = if q_word B e = 16 then q_flt B k true (q_val B e) (c + 1) else if q_word B e = 15 then (if q_ofi B e = true then q_flt B k true (q_val B e) (c + 1) else q_flt B k false (q_val B e) (c + 1)) else (0, c + 1) := by
              rw [if_neg z2, z3, if_neg (by decide)]
              unfold q_then q_cnt
              rw [if_neg hf00.2, if_pos rfl]
            rw [c4]
            repeat (first | refine gi_con ?_ | refine gi_bip (Nat.le_of_ble_eq_true rfl) ?_ | refine gi_sip (Nat.le_of_ble_eq_true rfl) ?_ | refine gi_ldc ?_ | refine gi_add ?_ | refine gi_inc rfl ?_ | refine gi_sub (by omega) ?_ | refine gi_mul ?_ | refine go_nx rfl ?_)
            first | refine gb_lt (by omega) (by omega) (fun c5 => ?_) (fun c5 => ?_) | refine gb_ge (by omega) (by omega) (fun c5 => ?_) (fun c5 => ?_) | refine gb_gt (by omega) (by omega) (fun c5 => ?_) (fun c5 => ?_) | refine gb_le (by omega) (by omega) (fun c5 => ?_) (fun c5 => ?_) | refine gb_eq (by omega) (by omega) (fun c5 => ?_) (fun c5 => ?_) | refine gb_ne (by omega) (by omega) (fun c5 => ?_) (fun c5 => ?_)
            · have h16 : ¬ q_word B e = 16 := fun q => c5 (m8.mpr q)
              rw [if_neg h16] at hbase
              repeat (first | refine gi_con ?_ | refine gi_bip (Nat.le_of_ble_eq_true rfl) ?_ | refine gi_sip (Nat.le_of_ble_eq_true rfl) ?_ | refine gi_ldc ?_ | refine gi_add ?_ | refine gi_inc rfl ?_ | refine gi_sub (by omega) ?_ | refine gi_mul ?_ | refine go_nx rfl ?_)
              refine gm_get (.int (nI 0)) rfl rfl ?_
              first | refine gz_eq (by omega) (fun c6 => ?_) (fun c6 => ?_) | refine gz_ne (by omega) (fun c6 => ?_) (fun c6 => ?_) | refine gz_le (by omega) (fun c6 => ?_) (fun c6 => ?_) | refine gz_gt (by omega) (fun c6 => ?_) (fun c6 => ?_) | refine gz_lt (by omega) (fun c6 => ?_) (fun c6 => ?_) | refine gz_ge (by omega) (fun c6 => ?_) (fun c6 => ?_)
              · omega
              repeat (first | refine gi_con ?_ | refine gi_bip (Nat.le_of_ble_eq_true rfl) ?_ | refine gi_sip (Nat.le_of_ble_eq_true rfl) ?_ | refine gi_ldc ?_ | refine gi_add ?_ | refine gi_inc rfl ?_ | refine gi_sub (by omega) ?_ | refine gi_mul ?_ | refine go_nx rfl ?_)
              first | refine gb_lt (by omega) (by omega) (fun c7 => ?_) (fun c7 => ?_) | refine gb_ge (by omega) (by omega) (fun c7 => ?_) (fun c7 => ?_) | refine gb_gt (by omega) (by omega) (fun c7 => ?_) (fun c7 => ?_) | refine gb_le (by omega) (by omega) (fun c7 => ?_) (fun c7 => ?_) | refine gb_eq (by omega) (by omega) (fun c7 => ?_) (fun c7 => ?_) | refine gb_ne (by omega) (by omega) (fun c7 => ?_) (fun c7 => ?_)
              · have h15 : ¬ q_word B e = 15 := fun q => c7 (m7.mpr q)
                rw [if_neg h15] at hbase
                exact nineteen (0, c + 1) (c + 1) good (q_le_0 (by omega)) (fun _ => rfl) hbase
              have h15 : q_word B e = 15 := m7.mp c7
              rw [if_pos h15] at hbase
              have hk3 : B e = 3 := by
                unfold q_good at z3
                rw [h15, if_neg (by decide), if_neg (by decide), if_neg (by decide), if_pos rfl] at z3
                exact of_decide_eq_true z3
              repeat (first | refine gi_con ?_ | refine gi_bip (Nat.le_of_ble_eq_true rfl) ?_ | refine gi_sip (Nat.le_of_ble_eq_true rfl) ?_ | refine gi_ldc ?_ | refine gi_add ?_ | refine gi_inc rfl ?_ | refine gi_sub (by omega) ?_ | refine gi_mul ?_ | refine go_nx rfl ?_)
              refine go_step ?_
              refine g_callV (by decide) (by decide) (Nat.le_of_ble_eq_true rfl) (Nat.le_of_ble_eq_true rfl) mH_rcv (by omega) (Nat.le_of_ble_eq_true rfl) rfl ?_
              refine sp_misofi (lev := lev - 1) (last := q_last B v) (by omega) (hm _) hw hok (by omega) hbx.1 ?_
              repeat (first | refine gi_con ?_ | refine gi_bip (Nat.le_of_ble_eq_true rfl) ?_ | refine gi_sip (Nat.le_of_ble_eq_true rfl) ?_ | refine gi_ldc ?_ | refine gi_add ?_ | refine gi_inc rfl ?_ | refine gi_sub (by omega) ?_ | refine gi_mul ?_ | refine go_nx rfl ?_)
              first | refine gt_eq (fun c8 => ?_) (fun c8 => ?_) | refine gt_ne (fun c8 => ?_) (fun c8 => ?_)
              · have hbase := hbase.trans (if_neg (show ¬ q_ofi B e = true by rw [c8]; decide))
                repeat (first | refine gi_con ?_ | refine gi_bip (Nat.le_of_ble_eq_true rfl) ?_ | refine gi_sip (Nat.le_of_ble_eq_true rfl) ?_ | refine gi_ldc ?_ | refine gi_add ?_ | refine gi_inc rfl ?_ | refine gi_sub (by omega) ?_ | refine gi_mul ?_ | refine go_nx rfl ?_)
                refine go_step ?_
                refine g_callV (by decide) (by decide) (Nat.le_of_ble_eq_true rfl) (Nat.le_of_ble_eq_true rfl) mH_rcv (by omega) (Nat.le_of_ble_eq_true rfl) rfl ?_
                refine (hbox3 hk3 false (c + 1) _ (by omega) (fun c1 hc1 => ?_)).2 rfl
                repeat (first | refine gi_con ?_ | refine gi_bip (Nat.le_of_ble_eq_true rfl) ?_ | refine gi_sip (Nat.le_of_ble_eq_true rfl) ?_ | refine gi_ldc ?_ | refine gi_add ?_ | refine gi_inc rfl ?_ | refine gi_sub (by omega) ?_ | refine gi_mul ?_ | refine go_nx rfl ?_)
                refine go_jp rfl ?_
                exact nineteen _ c1 good (q_flt_le _ _ _ _ _ (by omega)) hc1 hbase
              · have hbase := hbase.trans (if_pos c8)
                repeat (first | refine gi_con ?_ | refine gi_bip (Nat.le_of_ble_eq_true rfl) ?_ | refine gi_sip (Nat.le_of_ble_eq_true rfl) ?_ | refine gi_ldc ?_ | refine gi_add ?_ | refine gi_inc rfl ?_ | refine gi_sub (by omega) ?_ | refine gi_mul ?_ | refine go_nx rfl ?_)
                refine go_step ?_
                refine g_callV (by decide) (by decide) (Nat.le_of_ble_eq_true rfl) (Nat.le_of_ble_eq_true rfl) mH_rcv (by omega) (Nat.le_of_ble_eq_true rfl) rfl ?_
                refine (hbox3 hk3 true (c + 1) _ (by omega) (fun c1 hc1 => ?_)).1 rfl
                repeat (first | refine gi_con ?_ | refine gi_bip (Nat.le_of_ble_eq_true rfl) ?_ | refine gi_sip (Nat.le_of_ble_eq_true rfl) ?_ | refine gi_ldc ?_ | refine gi_add ?_ | refine gi_inc rfl ?_ | refine gi_sub (by omega) ?_ | refine gi_mul ?_ | refine go_nx rfl ?_)
                refine go_jp rfl ?_
                exact nineteen _ c1 good (q_flt_le _ _ _ _ _ (by omega)) hc1 hbase
            · have h16 : q_word B e = 16 := m8.mp c5
              rw [if_pos h16] at hbase
              have hk3 : B e = 3 := by
                unfold q_good at z3
                rw [h16, if_neg (by decide), if_neg (by decide), if_neg (by decide), if_neg (by decide), if_pos rfl] at z3
                unfold q_cond at z3
                simp only [Bool.and_eq_true, decide_eq_true_eq] at z3
                exact z3.1
              repeat (first | refine gi_con ?_ | refine gi_bip (Nat.le_of_ble_eq_true rfl) ?_ | refine gi_sip (Nat.le_of_ble_eq_true rfl) ?_ | refine gi_ldc ?_ | refine gi_add ?_ | refine gi_inc rfl ?_ | refine gi_sub (by omega) ?_ | refine gi_mul ?_ | refine go_nx rfl ?_)
              refine go_step ?_
              refine g_callV (by decide) (by decide) (Nat.le_of_ble_eq_true rfl) (Nat.le_of_ble_eq_true rfl) mH_rcv (by omega) (Nat.le_of_ble_eq_true rfl) rfl ?_
              refine (hbox3 hk3 true (c + 1) _ (by omega) (fun c1 hc1 => ?_)).1 rfl
              repeat (first | refine gi_con ?_ | refine gi_bip (Nat.le_of_ble_eq_true rfl) ?_ | refine gi_sip (Nat.le_of_ble_eq_true rfl) ?_ | refine gi_ldc ?_ | refine gi_add ?_ | refine gi_inc rfl ?_ | refine gi_sub (by omega) ?_ | refine gi_mul ?_ | refine go_nx rfl ?_)
              refine go_jp rfl ?_
              exact seventeen _ c1 good (q_flt_le _ _ _ _ _ (by omega)) hc1 (fun q => by omega) hbase
          have fourteen : ∀ (x6 : Value) (good : Bool), (q_nof (q_word B e) ≠ 0 → good = q_good B e (q_word B e)) → mm_Go E d 136 (mm_blk 136 14) [.ref o, .int (nI (b + v)), .int (nI (b + e)), .int (nI (q_nof (q_word B e))), .int (nI (b + q_val B e)), .int (nI (B e)), x6] [.int (q_t good)] (mH h o ad (mI I c 0) C) Q := by
            intro x6 good hgood
            repeat (first | refine gi_con ?_ | refine gi_bip (Nat.le_of_ble_eq_true rfl) ?_ | refine gi_sip (Nat.le_of_ble_eq_true rfl) ?_ | refine gi_ldc ?_ | refine gi_add ?_ | refine gi_inc rfl ?_ | refine gi_sub (by omega) ?_ | refine gi_mul ?_ | refine go_nx rfl ?_)
            first | refine gz_eq (by omega) (fun c4 => ?_) (fun c4 => ?_) | refine gz_ne (by omega) (fun c4 => ?_) (fun c4 => ?_) | refine gz_le (by omega) (fun c4 => ?_) (fun c4 => ?_) | refine gz_gt (by omega) (fun c4 => ?_) (fun c4 => ?_) | refine gz_lt (by omega) (fun c4 => ?_) (fun c4 => ?_) | refine gz_ge (by omega) (fun c4 => ?_) (fun c4 => ?_)
            · repeat (first | refine gi_con ?_ | refine gi_bip (Nat.le_of_ble_eq_true rfl) ?_ | refine gi_sip (Nat.le_of_ble_eq_true rfl) ?_ | refine gi_ldc ?_ | refine gi_add ?_ | refine gi_inc rfl ?_ | refine gi_sub (by omega) ?_ | refine gi_mul ?_ | refine go_nx rfl ?_)
              first | refine gt_eq (fun c5 => ?_) (fun c5 => ?_) | refine gt_ne (fun c5 => ?_) (fun c5 => ?_)
              · exact sixteen 0 good (Or.inr (Or.inr ⟨rfl, by omega, by rw [← hgood (by omega)]; exact c5⟩))
              · repeat (first | refine gi_con ?_ | refine gi_bip (Nat.le_of_ble_eq_true rfl) ?_ | refine gi_sip (Nat.le_of_ble_eq_true rfl) ?_ | refine gi_ldc ?_ | refine gi_add ?_ | refine gi_inc rfl ?_ | refine gi_sub (by omega) ?_ | refine gi_mul ?_ | refine go_nx rfl ?_)
                refine go_step ?_
                refine g_callV (by decide) (by decide) (Nat.le_of_ble_eq_true rfl) (Nat.le_of_ble_eq_true rfl) mH_rcv (by omega) (Nat.le_of_ble_eq_true rfl) rfl ?_
                refine sp_mfails (by omega) ?_
                repeat (first | refine gi_con ?_ | refine gi_bip (Nat.le_of_ble_eq_true rfl) ?_ | refine gi_sip (Nat.le_of_ble_eq_true rfl) ?_ | refine gi_ldc ?_ | refine gi_add ?_ | refine gi_inc rfl ?_ | refine gi_sub (by omega) ?_ | refine gi_mul ?_ | refine go_nx rfl ?_)
                refine go_jp rfl ?_
                exact sixteen 4 good (Or.inr (Or.inl ⟨rfl, by omega, by rw [← hgood (by omega)]; exact c5⟩))
            · repeat (first | refine gi_con ?_ | refine gi_bip (Nat.le_of_ble_eq_true rfl) ?_ | refine gi_sip (Nat.le_of_ble_eq_true rfl) ?_ | refine gi_ldc ?_ | refine gi_add ?_ | refine gi_inc rfl ?_ | refine gi_sub (by omega) ?_ | refine gi_mul ?_ | refine go_nx rfl ?_)
              refine go_step ?_
              refine g_callV (by decide) (by decide) (Nat.le_of_ble_eq_true rfl) (Nat.le_of_ble_eq_true rfl) mH_rcv (by omega) (Nat.le_of_ble_eq_true rfl) rfl ?_
              refine sp_mfails (by omega) ?_
              repeat (first | refine gi_con ?_ | refine gi_bip (Nat.le_of_ble_eq_true rfl) ?_ | refine gi_sip (Nat.le_of_ble_eq_true rfl) ?_ | refine gi_ldc ?_ | refine gi_add ?_ | refine gi_inc rfl ?_ | refine gi_sub (by omega) ?_ | refine gi_mul ?_ | refine go_nx rfl ?_)
              refine go_jp rfl ?_
              exact sixteen 1 good (Or.inl ⟨rfl, c4⟩)
          repeat (first | refine gi_con ?_ | refine gi_bip (Nat.le_of_ble_eq_true rfl) ?_ | refine gi_sip (Nat.le_of_ble_eq_true rfl) ?_ | refine gi_ldc ?_ | refine gi_add ?_ | refine gi_inc rfl ?_ | refine gi_sub (by omega) ?_ | refine gi_mul ?_ | refine go_nx rfl ?_)
          refine go_step ?_
          refine g_callV (by decide) (by decide) (Nat.le_of_ble_eq_true rfl) (Nat.le_of_ble_eq_true rfl) mH_rcv (by omega) (Nat.le_of_ble_eq_true rfl) rfl ?_
          refine sp_mnumberOf (by omega) (hm _) hw hok.2.1 (by omega) ?_
          repeat (first | refine gi_con ?_ | refine gi_bip (Nat.le_of_ble_eq_true rfl) ?_ | refine gi_sip (Nat.le_of_ble_eq_true rfl) ?_ | refine gi_ldc ?_ | refine gi_add ?_ | refine gi_inc rfl ?_ | refine gi_sub (by omega) ?_ | refine gi_mul ?_ | refine go_nx rfl ?_)
          refine go_step ?_
          refine g_callV (by decide) (by decide) (Nat.le_of_ble_eq_true rfl) (Nat.le_of_ble_eq_true rfl) mH_rcv (by omega) (Nat.le_of_ble_eq_true rfl) rfl ?_
          refine sp_mval (by omega) (hm _) hw hok.2.1 ?_
          repeat (first | refine gi_con ?_ | refine gi_bip (Nat.le_of_ble_eq_true rfl) ?_ | refine gi_sip (Nat.le_of_ble_eq_true rfl) ?_ | refine gi_ldc ?_ | refine gi_add ?_ | refine gi_inc rfl ?_ | refine gi_sub (by omega) ?_ | refine gi_mul ?_ | refine go_nx rfl ?_)
          refine go_step ?_
          refine g_callV (by decide) (by decide) (Nat.le_of_ble_eq_true rfl) (Nat.le_of_ble_eq_true rfl) mH_rcv (by omega) (Nat.le_of_ble_eq_true rfl) rfl ?_
          refine sp_mat2 (hm _) hw hok.1 ?_
          unfold q_good at fourteen
          have two : (q_word B e = 7 ∨ q_word B e = 8) → mm_Go E d 136 (mm_blk 136 2) [.ref o, .int (nI (b + v)), .int (nI (b + e)), .int (nI (q_nof (q_word B e))), .int (nI (b + q_val B e)), .int (nI (B e)), x6] [] (mH h o ad (mI I c 0) C) Q := by
            intro hk
            rw [if_pos hk] at fourteen
            repeat (first | refine gi_con ?_ | refine gi_bip (Nat.le_of_ble_eq_true rfl) ?_ | refine gi_sip (Nat.le_of_ble_eq_true rfl) ?_ | refine gi_ldc ?_ | refine gi_add ?_ | refine gi_inc rfl ?_ | refine gi_sub (by omega) ?_ | refine gi_mul ?_ | refine go_nx rfl ?_)
            first | refine gb_lt (by omega) (by omega) (fun c6 => ?_) (fun c6 => ?_) | refine gb_ge (by omega) (by omega) (fun c6 => ?_) (fun c6 => ?_) | refine gb_gt (by omega) (by omega) (fun c6 => ?_) (fun c6 => ?_) | refine gb_le (by omega) (by omega) (fun c6 => ?_) (fun c6 => ?_) | refine gb_eq (by omega) (by omega) (fun c6 => ?_) (fun c6 => ?_) | refine gb_ne (by omega) (by omega) (fun c6 => ?_) (fun c6 => ?_)
            · repeat (first | refine gi_con ?_ | refine gi_bip (Nat.le_of_ble_eq_true rfl) ?_ | refine gi_sip (Nat.le_of_ble_eq_true rfl) ?_ | refine gi_ldc ?_ | refine gi_add ?_ | refine gi_inc rfl ?_ | refine gi_sub (by omega) ?_ | refine gi_mul ?_ | refine go_nx rfl ?_)
              refine go_jp rfl ?_
              exact fourteen _ false (fun _ => (decide_eq_false c6).symm)
            · repeat (first | refine gi_con ?_ | refine gi_bip (Nat.le_of_ble_eq_true rfl) ?_ | refine gi_sip (Nat.le_of_ble_eq_true rfl) ?_ | refine gi_ldc ?_ | refine gi_add ?_ | refine gi_inc rfl ?_ | refine gi_sub (by omega) ?_ | refine gi_mul ?_ | refine go_nx rfl ?_)
              refine go_jp rfl ?_
              exact fourteen _ true (fun _ => (decide_eq_true c6).symm)
          repeat (first | refine gi_con ?_ | refine gi_bip (Nat.le_of_ble_eq_true rfl) ?_ | refine gi_sip (Nat.le_of_ble_eq_true rfl) ?_ | refine gi_ldc ?_ | refine gi_add ?_ | refine gi_inc rfl ?_ | refine gi_sub (by omega) ?_ | refine gi_mul ?_ | refine go_nx rfl ?_)
          first | refine gb_lt (by omega) (by omega) (fun c4 => ?_) (fun c4 => ?_) | refine gb_ge (by omega) (by omega) (fun c4 => ?_) (fun c4 => ?_) | refine gb_gt (by omega) (by omega) (fun c4 => ?_) (fun c4 => ?_) | refine gb_le (by omega) (by omega) (fun c4 => ?_) (fun c4 => ?_) | refine gb_eq (by omega) (by omega) (fun c4 => ?_) (fun c4 => ?_) | refine gb_ne (by omega) (by omega) (fun c4 => ?_) (fun c4 => ?_)
          · exact two (Or.inl (m2.mp c4))
          repeat (first | refine gi_con ?_ | refine gi_bip (Nat.le_of_ble_eq_true rfl) ?_ | refine gi_sip (Nat.le_of_ble_eq_true rfl) ?_ | refine gi_ldc ?_ | refine gi_add ?_ | refine gi_inc rfl ?_ | refine gi_sub (by omega) ?_ | refine gi_mul ?_ | refine go_nx rfl ?_)
          first | refine gb_lt (by omega) (by omega) (fun c5 => ?_) (fun c5 => ?_) | refine gb_ge (by omega) (by omega) (fun c5 => ?_) (fun c5 => ?_) | refine gb_gt (by omega) (by omega) (fun c5 => ?_) (fun c5 => ?_) | refine gb_le (by omega) (by omega) (fun c5 => ?_) (fun c5 => ?_) | refine gb_eq (by omega) (by omega) (fun c5 => ?_) (fun c5 => ?_) | refine gb_ne (by omega) (by omega) (fun c5 => ?_) (fun c5 => ?_)
          · rw [if_neg (fun q => q.elim (fun q => c4 (m2.mpr q)) (fun q => c5 (m12.mpr q)))] at fourteen
            repeat (first | refine gi_con ?_ | refine gi_bip (Nat.le_of_ble_eq_true rfl) ?_ | refine gi_sip (Nat.le_of_ble_eq_true rfl) ?_ | refine gi_ldc ?_ | refine gi_add ?_ | refine gi_inc rfl ?_ | refine gi_sub (by omega) ?_ | refine gi_mul ?_ | refine go_nx rfl ?_)
            first | refine gb_lt (by omega) (by omega) (fun c6 => ?_) (fun c6 => ?_) | refine gb_ge (by omega) (by omega) (fun c6 => ?_) (fun c6 => ?_) | refine gb_gt (by omega) (by omega) (fun c6 => ?_) (fun c6 => ?_) | refine gb_le (by omega) (by omega) (fun c6 => ?_) (fun c6 => ?_) | refine gb_eq (by omega) (by omega) (fun c6 => ?_) (fun c6 => ?_) | refine gb_ne (by omega) (by omega) (fun c6 => ?_) (fun c6 => ?_)
            · rw [if_neg (fun q => c6 (m9.mpr q))] at fourteen
              repeat (first | refine gi_con ?_ | refine gi_bip (Nat.le_of_ble_eq_true rfl) ?_ | refine gi_sip (Nat.le_of_ble_eq_true rfl) ?_ | refine gi_ldc ?_ | refine gi_add ?_ | refine gi_inc rfl ?_ | refine gi_sub (by omega) ?_ | refine gi_mul ?_ | refine go_nx rfl ?_)
              first | refine gb_lt (by omega) (by omega) (fun c7 => ?_) (fun c7 => ?_) | refine gb_ge (by omega) (by omega) (fun c7 => ?_) (fun c7 => ?_) | refine gb_gt (by omega) (by omega) (fun c7 => ?_) (fun c7 => ?_) | refine gb_le (by omega) (by omega) (fun c7 => ?_) (fun c7 => ?_) | refine gb_eq (by omega) (by omega) (fun c7 => ?_) (fun c7 => ?_) | refine gb_ne (by omega) (by omega) (fun c7 => ?_) (fun c7 => ?_)
              · rw [if_neg (fun q => c7 (m10.mpr q))] at fourteen
                repeat (first | refine gi_con ?_ | refine gi_bip (Nat.le_of_ble_eq_true rfl) ?_ | refine gi_sip (Nat.le_of_ble_eq_true rfl) ?_ | refine gi_ldc ?_ | refine gi_add ?_ | refine gi_inc rfl ?_ | refine gi_sub (by omega) ?_ | refine gi_mul ?_ | refine go_nx rfl ?_)
                first | refine gb_lt (by omega) (by omega) (fun c8 => ?_) (fun c8 => ?_) | refine gb_ge (by omega) (by omega) (fun c8 => ?_) (fun c8 => ?_) | refine gb_gt (by omega) (by omega) (fun c8 => ?_) (fun c8 => ?_) | refine gb_le (by omega) (by omega) (fun c8 => ?_) (fun c8 => ?_) | refine gb_eq (by omega) (by omega) (fun c8 => ?_) (fun c8 => ?_) | refine gb_ne (by omega) (by omega) (fun c8 => ?_) (fun c8 => ?_)
                · rw [if_neg (fun q => c8 (m7.mpr q))] at fourteen
                  repeat (first | refine gi_con ?_ | refine gi_bip (Nat.le_of_ble_eq_true rfl) ?_ | refine gi_sip (Nat.le_of_ble_eq_true rfl) ?_ | refine gi_ldc ?_ | refine gi_add ?_ | refine gi_inc rfl ?_ | refine gi_sub (by omega) ?_ | refine gi_mul ?_ | refine go_nx rfl ?_)
                  first | refine gb_lt (by omega) (by omega) (fun c9 => ?_) (fun c9 => ?_) | refine gb_ge (by omega) (by omega) (fun c9 => ?_) (fun c9 => ?_) | refine gb_gt (by omega) (by omega) (fun c9 => ?_) (fun c9 => ?_) | refine gb_le (by omega) (by omega) (fun c9 => ?_) (fun c9 => ?_) | refine gb_eq (by omega) (by omega) (fun c9 => ?_) (fun c9 => ?_) | refine gb_ne (by omega) (by omega) (fun c9 => ?_) (fun c9 => ?_)
                  · rw [if_neg (fun q => c9 (m8.mpr q))] at fourteen
                    repeat (first | refine gi_con ?_ | refine gi_bip (Nat.le_of_ble_eq_true rfl) ?_ | refine gi_sip (Nat.le_of_ble_eq_true rfl) ?_ | refine gi_ldc ?_ | refine gi_add ?_ | refine gi_inc rfl ?_ | refine gi_sub (by omega) ?_ | refine gi_mul ?_ | refine go_nx rfl ?_)
                    refine go_jp rfl ?_
                    exact fourteen _ true (fun _ => rfl)
                  · rw [if_pos (m8.mp c9)] at fourteen
                    repeat (first | refine gi_con ?_ | refine gi_bip (Nat.le_of_ble_eq_true rfl) ?_ | refine gi_sip (Nat.le_of_ble_eq_true rfl) ?_ | refine gi_ldc ?_ | refine gi_add ?_ | refine gi_inc rfl ?_ | refine gi_sub (by omega) ?_ | refine gi_mul ?_ | refine go_nx rfl ?_)
                    refine go_step ?_
                    refine g_callV (by decide) (by decide) (Nat.le_of_ble_eq_true rfl) (Nat.le_of_ble_eq_true rfl) mH_rcv (by omega) (Nat.le_of_ble_eq_true rfl) rfl ?_
                    refine sp_miscond (by omega) (hm _) hw hok ?_
                    repeat (first | refine gi_con ?_ | refine gi_bip (Nat.le_of_ble_eq_true rfl) ?_ | refine gi_sip (Nat.le_of_ble_eq_true rfl) ?_ | refine gi_ldc ?_ | refine gi_add ?_ | refine gi_inc rfl ?_ | refine gi_sub (by omega) ?_ | refine gi_mul ?_ | refine go_nx rfl ?_)
                    first | refine gt_eq (fun c10 => ?_) (fun c10 => ?_) | refine gt_ne (fun c10 => ?_) (fun c10 => ?_)
                    · repeat (first | refine gi_con ?_ | refine gi_bip (Nat.le_of_ble_eq_true rfl) ?_ | refine gi_sip (Nat.le_of_ble_eq_true rfl) ?_ | refine gi_ldc ?_ | refine gi_add ?_ | refine gi_inc rfl ?_ | refine gi_sub (by omega) ?_ | refine gi_mul ?_ | refine go_nx rfl ?_)
                      refine go_jp rfl ?_
                      exact fourteen _ false (fun _ => c10.symm)
                    · refine go_jp rfl ?_
                      repeat (first | refine gi_con ?_ | refine gi_bip (Nat.le_of_ble_eq_true rfl) ?_ | refine gi_sip (Nat.le_of_ble_eq_true rfl) ?_ | refine gi_ldc ?_ | refine gi_add ?_ | refine gi_inc rfl ?_ | refine gi_sub (by omega) ?_ | refine gi_mul ?_ | refine go_nx rfl ?_)
                      refine go_jp rfl ?_
                      exact fourteen _ true (fun _ => c10.symm)
                · rw [if_pos (m7.mp c8)] at fourteen
                  repeat (first | refine gi_con ?_ | refine gi_bip (Nat.le_of_ble_eq_true rfl) ?_ | refine gi_sip (Nat.le_of_ble_eq_true rfl) ?_ | refine gi_ldc ?_ | refine gi_add ?_ | refine gi_inc rfl ?_ | refine gi_sub (by omega) ?_ | refine gi_mul ?_ | refine go_nx rfl ?_)
                  first | refine gb_lt (by omega) (by omega) (fun c9 => ?_) (fun c9 => ?_) | refine gb_ge (by omega) (by omega) (fun c9 => ?_) (fun c9 => ?_) | refine gb_gt (by omega) (by omega) (fun c9 => ?_) (fun c9 => ?_) | refine gb_le (by omega) (by omega) (fun c9 => ?_) (fun c9 => ?_) | refine gb_eq (by omega) (by omega) (fun c9 => ?_) (fun c9 => ?_) | refine gb_ne (by omega) (by omega) (fun c9 => ?_) (fun c9 => ?_)
                  · repeat (first | refine gi_con ?_ | refine gi_bip (Nat.le_of_ble_eq_true rfl) ?_ | refine gi_sip (Nat.le_of_ble_eq_true rfl) ?_ | refine gi_ldc ?_ | refine gi_add ?_ | refine gi_inc rfl ?_ | refine gi_sub (by omega) ?_ | refine gi_mul ?_ | refine go_nx rfl ?_)
                    refine go_jp rfl ?_
                    exact fourteen _ false (fun _ => (decide_eq_false c9).symm)
                  · repeat (first | refine gi_con ?_ | refine gi_bip (Nat.le_of_ble_eq_true rfl) ?_ | refine gi_sip (Nat.le_of_ble_eq_true rfl) ?_ | refine gi_ldc ?_ | refine gi_add ?_ | refine gi_inc rfl ?_ | refine gi_sub (by omega) ?_ | refine gi_mul ?_ | refine go_nx rfl ?_)
                    refine go_jp rfl ?_
                    exact fourteen _ true (fun _ => (decide_eq_true c9).symm)
              · rw [if_pos (m10.mp c7)] at fourteen
                have seven : (B e = 16 ∨ B e = 18) → mm_Go E d 136 (mm_blk 136 7) [.ref o, .int (nI (b + v)), .int (nI (b + e)), .int (nI (q_nof (q_word B e))), .int (nI (b + q_val B e)), .int (nI (B e)), x6] [] (mH h o ad (mI I c 0) C) Q := by
                  intro hk
                  rw [decide_eq_true hk] at fourteen
                  have hln : q_next B e = q_val B e + q_ln B (B e) (q_val B e) := rfl
                  have hl2 : q_ln B (B e) (q_val B e) = if B e = 16 then 4 else 8 := by
                    unfold q_ln
                    rcases hk with hk | hk
                    · rw [if_pos hk, if_pos hk]
                    · rw [if_neg (by omega), if_pos hk, if_neg (by omega)]
                  have h3 := hok.2.2.1
                  repeat (first | refine gi_con ?_ | refine gi_bip (Nat.le_of_ble_eq_true rfl) ?_ | refine gi_sip (Nat.le_of_ble_eq_true rfl) ?_ | refine gi_ldc ?_ | refine gi_add ?_ | refine gi_inc rfl ?_ | refine gi_sub (by omega) ?_ | refine gi_mul ?_ | refine go_nx rfl ?_)
                  refine go_step ?_
                  refine g_callV (by decide) (by decide) (Nat.le_of_ble_eq_true rfl) (Nat.le_of_ble_eq_true rfl) mH_rcv (by omega) (Nat.le_of_ble_eq_true rfl) rfl ?_
                  refine sp_mlongAt (by omega) (hm _) hw ?_ ?_
                  · rcases hk with hk | hk
                    · rw [if_pos hk] at hl2
                      exact Or.inl ⟨hk, by omega⟩
                    · rw [if_neg (by omega)] at hl2
                      exact Or.inr (Or.inr ⟨hk, by omega⟩)
                  repeat (first | refine gi_con ?_ | refine gi_bip (Nat.le_of_ble_eq_true rfl) ?_ | refine gi_sip (Nat.le_of_ble_eq_true rfl) ?_ | refine gi_ldc ?_ | refine gi_add ?_ | refine gi_inc rfl ?_ | refine gi_sub (by omega) ?_ | refine gi_mul ?_ | refine go_nx rfl ?_)
                  refine gl_lt (fun c9 => ?_) (fun c9 => ?_)
                  · repeat (first | refine gi_con ?_ | refine gi_bip (Nat.le_of_ble_eq_true rfl) ?_ | refine gi_sip (Nat.le_of_ble_eq_true rfl) ?_ | refine gi_ldc ?_ | refine gi_add ?_ | refine gi_inc rfl ?_ | refine gi_sub (by omega) ?_ | refine gi_mul ?_ | refine go_nx rfl ?_)
                    refine go_jp rfl ?_
                    refine fourteen _ false (fun _ => ?_)
                    rw [decide_eq_false (show ¬ 0 ≤ q_num B (B e) (q_val B e) from Int64.not_le.mpr c9)]
                    rfl
                  · repeat (first | refine gi_con ?_ | refine gi_bip (Nat.le_of_ble_eq_true rfl) ?_ | refine gi_sip (Nat.le_of_ble_eq_true rfl) ?_ | refine gi_ldc ?_ | refine gi_add ?_ | refine gi_inc rfl ?_ | refine gi_sub (by omega) ?_ | refine gi_mul ?_ | refine go_nx rfl ?_)
                    refine go_jp rfl ?_
                    refine fourteen _ true (fun _ => ?_)
                    rw [decide_eq_true (show 0 ≤ q_num B (B e) (q_val B e) from c9)]
                    rfl
                repeat (first | refine gi_con ?_ | refine gi_bip (Nat.le_of_ble_eq_true rfl) ?_ | refine gi_sip (Nat.le_of_ble_eq_true rfl) ?_ | refine gi_ldc ?_ | refine gi_add ?_ | refine gi_inc rfl ?_ | refine gi_sub (by omega) ?_ | refine gi_mul ?_ | refine go_nx rfl ?_)
                first | refine gb_lt (by omega) (by omega) (fun c8 => ?_) (fun c8 => ?_) | refine gb_ge (by omega) (by omega) (fun c8 => ?_) (fun c8 => ?_) | refine gb_gt (by omega) (by omega) (fun c8 => ?_) (fun c8 => ?_) | refine gb_le (by omega) (by omega) (fun c8 => ?_) (fun c8 => ?_) | refine gb_eq (by omega) (by omega) (fun c8 => ?_) (fun c8 => ?_) | refine gb_ne (by omega) (by omega) (fun c8 => ?_) (fun c8 => ?_)
                · exact seven (Or.inl c8)
                repeat (first | refine gi_con ?_ | refine gi_bip (Nat.le_of_ble_eq_true rfl) ?_ | refine gi_sip (Nat.le_of_ble_eq_true rfl) ?_ | refine gi_ldc ?_ | refine gi_add ?_ | refine gi_inc rfl ?_ | refine gi_sub (by omega) ?_ | refine gi_mul ?_ | refine go_nx rfl ?_)
                first | refine gb_lt (by omega) (by omega) (fun c9 => ?_) (fun c9 => ?_) | refine gb_ge (by omega) (by omega) (fun c9 => ?_) (fun c9 => ?_) | refine gb_gt (by omega) (by omega) (fun c9 => ?_) (fun c9 => ?_) | refine gb_le (by omega) (by omega) (fun c9 => ?_) (fun c9 => ?_) | refine gb_eq (by omega) (by omega) (fun c9 => ?_) (fun c9 => ?_) | refine gb_ne (by omega) (by omega) (fun c9 => ?_) (fun c9 => ?_)
                · repeat (first | refine gi_con ?_ | refine gi_bip (Nat.le_of_ble_eq_true rfl) ?_ | refine gi_sip (Nat.le_of_ble_eq_true rfl) ?_ | refine gi_ldc ?_ | refine gi_add ?_ | refine gi_inc rfl ?_ | refine gi_sub (by omega) ?_ | refine gi_mul ?_ | refine go_nx rfl ?_)
                  refine go_jp rfl ?_
                  refine fourteen _ false (fun _ => ?_)
                  rw [decide_eq_false (fun q => q.elim c8 c9)]
                  rfl
                · refine go_jp rfl ?_
                  exact seven (Or.inr c9)
            · rw [if_pos (m9.mp c6)] at fourteen
              repeat (first | refine gi_con ?_ | refine gi_bip (Nat.le_of_ble_eq_true rfl) ?_ | refine gi_sip (Nat.le_of_ble_eq_true rfl) ?_ | refine gi_ldc ?_ | refine gi_add ?_ | refine gi_inc rfl ?_ | refine gi_sub (by omega) ?_ | refine gi_mul ?_ | refine go_nx rfl ?_)
              first | refine gb_lt (by omega) (by omega) (fun c7 => ?_) (fun c7 => ?_) | refine gb_ge (by omega) (by omega) (fun c7 => ?_) (fun c7 => ?_) | refine gb_gt (by omega) (by omega) (fun c7 => ?_) (fun c7 => ?_) | refine gb_le (by omega) (by omega) (fun c7 => ?_) (fun c7 => ?_) | refine gb_eq (by omega) (by omega) (fun c7 => ?_) (fun c7 => ?_) | refine gb_ne (by omega) (by omega) (fun c7 => ?_) (fun c7 => ?_)
              · repeat (first | refine gi_con ?_ | refine gi_bip (Nat.le_of_ble_eq_true rfl) ?_ | refine gi_sip (Nat.le_of_ble_eq_true rfl) ?_ | refine gi_ldc ?_ | refine gi_add ?_ | refine gi_inc rfl ?_ | refine gi_sub (by omega) ?_ | refine gi_mul ?_ | refine go_nx rfl ?_)
                refine go_jp rfl ?_
                exact fourteen _ false (fun _ => (decide_eq_false c7).symm)
              · repeat (first | refine gi_con ?_ | refine gi_bip (Nat.le_of_ble_eq_true rfl) ?_ | refine gi_sip (Nat.le_of_ble_eq_true rfl) ?_ | refine gi_ldc ?_ | refine gi_add ?_ | refine gi_inc rfl ?_ | refine gi_sub (by omega) ?_ | refine gi_mul ?_ | refine go_nx rfl ?_)
                refine go_jp rfl ?_
                exact fourteen _ true (fun _ => (decide_eq_true c7).symm)
          · refine go_jp rfl ?_
            exact two (Or.inr (m12.mp c5))
      repeat (first | refine gi_con ?_ | refine gi_bip (Nat.le_of_ble_eq_true rfl) ?_ | refine gi_sip (Nat.le_of_ble_eq_true rfl) ?_ | refine gi_ldc ?_ | refine gi_add ?_ | refine gi_inc rfl ?_ | refine gi_sub (by omega) ?_ | refine gi_mul ?_ | refine go_nx rfl ?_)
      refine go_jp rfl ?_
      rw [Nat.add_assoc]
      exact loop 2001 (v + 4) 0 c _ _ _ _ (by omega) g4 hc hq
end M
end
