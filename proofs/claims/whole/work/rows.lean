section
-- ===== PART A: goes FIRST, ahead of the names: the tables' words, and 'selects' of the private methods out of them =====
/-- a private method of a class that the tables say can be made, by its rows of tables_1 -/
def lw_okq (q : MethodName × Nat) : Prop := (q.1.cls ≠ "java/lang/invoke/MethodHandle" ∧ q.1.cls ≠ "java/lang/invoke/VarHandle") ∧ Cond.instantiable q.1.cls q.2 ∈ tables_1 ∧ Cond.privateMethod q.1 ∈ tables_1 ∧ Cond.instanceMethod q.1 ∈ tables_1
theorem lw_p0 : lw_okq (⟨"OneCall", "isPiece", "(I)Z"⟩, 10) := ⟨⟨by decide +kernel, by decide +kernel⟩, List.mem_of_getElem? (i := 18) (by decide +kernel), List.mem_of_getElem? (i := 139) (by decide +kernel), List.mem_of_getElem? (i := 140) (by decide +kernel)⟩
theorem lw_p1 : lw_okq (⟨"java/util/ArrayList", "add", "(Ljava/lang/Object;[Ljava/lang/Object;I)V"⟩, 3) := ⟨⟨by decide +kernel, by decide +kernel⟩, List.mem_of_getElem? (i := 26) (by decide +kernel), List.mem_of_getElem? (i := 198) (by decide +kernel), List.mem_of_getElem? (i := 199) (by decide +kernel)⟩
theorem lw_p2 : lw_okq (⟨"java/util/ArrayList", "grow", "()[Ljava/lang/Object;"⟩, 3) := ⟨⟨by decide +kernel, by decide +kernel⟩, List.mem_of_getElem? (i := 26) (by decide +kernel), List.mem_of_getElem? (i := 202) (by decide +kernel), List.mem_of_getElem? (i := 203) (by decide +kernel)⟩
theorem lw_p3 : lw_okq (⟨"java/util/ArrayList", "grow", "(I)[Ljava/lang/Object;"⟩, 3) := ⟨⟨by decide +kernel, by decide +kernel⟩, List.mem_of_getElem? (i := 26) (by decide +kernel), List.mem_of_getElem? (i := 206) (by decide +kernel), List.mem_of_getElem? (i := 207) (by decide +kernel)⟩
theorem lw_p4 : lw_okq (⟨"OneCall", "isListener", "(I)Z"⟩, 10) := ⟨⟨by decide +kernel, by decide +kernel⟩, List.mem_of_getElem? (i := 18) (by decide +kernel), List.mem_of_getElem? (i := 251) (by decide +kernel), List.mem_of_getElem? (i := 252) (by decide +kernel)⟩
theorem lw_p5 : lw_okq (⟨"OneCall", "isMask", "(I)Z"⟩, 10) := ⟨⟨by decide +kernel, by decide +kernel⟩, List.mem_of_getElem? (i := 18) (by decide +kernel), List.mem_of_getElem? (i := 276) (by decide +kernel), List.mem_of_getElem? (i := 277) (by decide +kernel)⟩
theorem lw_p6 : lw_okq (⟨"OneCall", "allPieces", "()I"⟩, 10) := ⟨⟨by decide +kernel, by decide +kernel⟩, List.mem_of_getElem? (i := 18) (by decide +kernel), List.mem_of_getElem? (i := 280) (by decide +kernel), List.mem_of_getElem? (i := 281) (by decide +kernel)⟩
theorem lw_p7 : lw_okq (⟨"OneCall$Listener", "addRow", "(I)Z"⟩, 9) := ⟨⟨by decide +kernel, by decide +kernel⟩, List.mem_of_getElem? (i := 151) (by decide +kernel), List.mem_of_getElem? (i := 298) (by decide +kernel), List.mem_of_getElem? (i := 299) (by decide +kernel)⟩
theorem lw_p8 : lw_okq (⟨"OneCall", "speak", "(I)I"⟩, 10) := ⟨⟨by decide +kernel, by decide +kernel⟩, List.mem_of_getElem? (i := 18) (by decide +kernel), List.mem_of_getElem? (i := 334) (by decide +kernel), List.mem_of_getElem? (i := 335) (by decide +kernel)⟩
theorem lw_p9 : lw_okq (⟨"OneCall", "isCall", "(I)Z"⟩, 10) := ⟨⟨by decide +kernel, by decide +kernel⟩, List.mem_of_getElem? (i := 18) (by decide +kernel), List.mem_of_getElem? (i := 346) (by decide +kernel), List.mem_of_getElem? (i := 347) (by decide +kernel)⟩
theorem lw_p10 : lw_okq (⟨"OneCall", "bytesOf", "(I)J"⟩, 10) := ⟨⟨by decide +kernel, by decide +kernel⟩, List.mem_of_getElem? (i := 18) (by decide +kernel), List.mem_of_getElem? (i := 358) (by decide +kernel), List.mem_of_getElem? (i := 359) (by decide +kernel)⟩
theorem lw_p11 : lw_okq (⟨"OneCall", "isServed", "(LOneCall$Listener;)Z"⟩, 10) := ⟨⟨by decide +kernel, by decide +kernel⟩, List.mem_of_getElem? (i := 18) (by decide +kernel), List.mem_of_getElem? (i := 370) (by decide +kernel), List.mem_of_getElem? (i := 371) (by decide +kernel)⟩
theorem lw_p12 : lw_okq (⟨"OneCall$Listener", "isServedWith", "(II)Z"⟩, 9) := ⟨⟨by decide +kernel, by decide +kernel⟩, List.mem_of_getElem? (i := 151) (by decide +kernel), List.mem_of_getElem? (i := 386) (by decide +kernel), List.mem_of_getElem? (i := 387) (by decide +kernel)⟩
theorem lw_p13 : lw_okq (⟨"OneCall", "hasWorkedOut", "(II)Z"⟩, 10) := ⟨⟨by decide +kernel, by decide +kernel⟩, List.mem_of_getElem? (i := 18) (by decide +kernel), List.mem_of_getElem? (i := 398) (by decide +kernel), List.mem_of_getElem? (i := 399) (by decide +kernel)⟩
theorem lw_p14 : lw_okq (⟨"OneCall", "servedCount", "()I"⟩, 10) := ⟨⟨by decide +kernel, by decide +kernel⟩, List.mem_of_getElem? (i := 18) (by decide +kernel), List.mem_of_getElem? (i := 427) (by decide +kernel), List.mem_of_getElem? (i := 428) (by decide +kernel)⟩
theorem lw_p15 : lw_okq (⟨"OneCall", "findNeeds", "()V"⟩, 10) := ⟨⟨by decide +kernel, by decide +kernel⟩, List.mem_of_getElem? (i := 18) (by decide +kernel), List.mem_of_getElem? (i := 435) (by decide +kernel), List.mem_of_getElem? (i := 436) (by decide +kernel)⟩
def lw_privs_1 : List (MethodName × Nat) := [(⟨"OneCall", "isPiece", "(I)Z"⟩, 10), (⟨"java/util/ArrayList", "add", "(Ljava/lang/Object;[Ljava/lang/Object;I)V"⟩, 3), (⟨"java/util/ArrayList", "grow", "()[Ljava/lang/Object;"⟩, 3), (⟨"java/util/ArrayList", "grow", "(I)[Ljava/lang/Object;"⟩, 3), (⟨"OneCall", "isListener", "(I)Z"⟩, 10), (⟨"OneCall", "isMask", "(I)Z"⟩, 10), (⟨"OneCall", "allPieces", "()I"⟩, 10), (⟨"OneCall$Listener", "addRow", "(I)Z"⟩, 9), (⟨"OneCall", "speak", "(I)I"⟩, 10), (⟨"OneCall", "isCall", "(I)Z"⟩, 10), (⟨"OneCall", "bytesOf", "(I)J"⟩, 10), (⟨"OneCall", "isServed", "(LOneCall$Listener;)Z"⟩, 10), (⟨"OneCall$Listener", "isServedWith", "(II)Z"⟩, 9), (⟨"OneCall", "hasWorkedOut", "(II)Z"⟩, 10), (⟨"OneCall", "servedCount", "()I"⟩, 10), (⟨"OneCall", "findNeeds", "()V"⟩, 10)]
theorem lw_r1 : ∀ q ∈ lw_privs_1, lw_okq q := List.forall_mem_cons.mpr ⟨lw_p0, List.forall_mem_cons.mpr ⟨lw_p1, List.forall_mem_cons.mpr ⟨lw_p2, List.forall_mem_cons.mpr ⟨lw_p3, List.forall_mem_cons.mpr ⟨lw_p4, List.forall_mem_cons.mpr ⟨lw_p5, List.forall_mem_cons.mpr ⟨lw_p6, List.forall_mem_cons.mpr ⟨lw_p7, List.forall_mem_cons.mpr ⟨lw_p8, List.forall_mem_cons.mpr ⟨lw_p9, List.forall_mem_cons.mpr ⟨lw_p10, List.forall_mem_cons.mpr ⟨lw_p11, List.forall_mem_cons.mpr ⟨lw_p12, List.forall_mem_cons.mpr ⟨lw_p13, List.forall_mem_cons.mpr ⟨lw_p14, List.forall_mem_cons.mpr ⟨lw_p15, fun _ h => absurd h List.not_mem_nil⟩⟩⟩⟩⟩⟩⟩⟩⟩⟩⟩⟩⟩⟩⟩⟩
theorem lw_p16 : lw_okq (⟨"OneCall$Needs", "fillOrders", "()V"⟩, 6) := ⟨⟨by decide +kernel, by decide +kernel⟩, List.mem_of_getElem? (i := 53) (by decide +kernel), List.mem_of_getElem? (i := 460) (by decide +kernel), List.mem_of_getElem? (i := 461) (by decide +kernel)⟩
theorem lw_p17 : lw_okq (⟨"OneCall$Needs", "sortedCount", "()I"⟩, 6) := ⟨⟨by decide +kernel, by decide +kernel⟩, List.mem_of_getElem? (i := 53) (by decide +kernel), List.mem_of_getElem? (i := 464) (by decide +kernel), List.mem_of_getElem? (i := 465) (by decide +kernel)⟩
theorem lw_p18 : lw_okq (⟨"OneCall$Needs", "canStandBehind", "(I)I"⟩, 6) := ⟨⟨by decide +kernel, by decide +kernel⟩, List.mem_of_getElem? (i := 53) (by decide +kernel), List.mem_of_getElem? (i := 469) (by decide +kernel), List.mem_of_getElem? (i := 470) (by decide +kernel)⟩
theorem lw_p19 : lw_okq (⟨"OneCall$Needs", "allNeeds", "()I"⟩, 6) := ⟨⟨by decide +kernel, by decide +kernel⟩, List.mem_of_getElem? (i := 53) (by decide +kernel), List.mem_of_getElem? (i := 474) (by decide +kernel), List.mem_of_getElem? (i := 475) (by decide +kernel)⟩
theorem lw_p20 : lw_okq (⟨"OneCall$Needs", "firstOfLongest", "(I)I"⟩, 6) := ⟨⟨by decide +kernel, by decide +kernel⟩, List.mem_of_getElem? (i := 53) (by decide +kernel), List.mem_of_getElem? (i := 488) (by decide +kernel), List.mem_of_getElem? (i := 489) (by decide +kernel)⟩
theorem lw_p21 : lw_okq (⟨"OneCall$Needs", "fillGroups", "()V"⟩, 6) := ⟨⟨by decide +kernel, by decide +kernel⟩, List.mem_of_getElem? (i := 53) (by decide +kernel), List.mem_of_getElem? (i := 500) (by decide +kernel), List.mem_of_getElem? (i := 501) (by decide +kernel)⟩
theorem lw_p22 : lw_okq (⟨"OneCall$Needs", "canBeGroupedWith", "(I)I"⟩, 6) := ⟨⟨by decide +kernel, by decide +kernel⟩, List.mem_of_getElem? (i := 53) (by decide +kernel), List.mem_of_getElem? (i := 504) (by decide +kernel), List.mem_of_getElem? (i := 505) (by decide +kernel)⟩
theorem lw_p23 : lw_okq (⟨"OneCall$Needs", "fewestOfSeveral", "(I)I"⟩, 6) := ⟨⟨by decide +kernel, by decide +kernel⟩, List.mem_of_getElem? (i := 53) (by decide +kernel), List.mem_of_getElem? (i := 511) (by decide +kernel), List.mem_of_getElem? (i := 512) (by decide +kernel)⟩
theorem lw_p24 : lw_okq (⟨"OneCall$Needs", "firstOfFewest", "(I)I"⟩, 6) := ⟨⟨by decide +kernel, by decide +kernel⟩, List.mem_of_getElem? (i := 53) (by decide +kernel), List.mem_of_getElem? (i := 527) (by decide +kernel), List.mem_of_getElem? (i := 528) (by decide +kernel)⟩
theorem lw_p25 : lw_okq (⟨"OneCall", "findLeast", "()I"⟩, 10) := ⟨⟨by decide +kernel, by decide +kernel⟩, List.mem_of_getElem? (i := 18) (by decide +kernel), List.mem_of_getElem? (i := 535) (by decide +kernel), List.mem_of_getElem? (i := 536) (by decide +kernel)⟩
theorem lw_p26 : lw_okq (⟨"OneCall", "isPlan", "(I)Z"⟩, 10) := ⟨⟨by decide +kernel, by decide +kernel⟩, List.mem_of_getElem? (i := 18) (by decide +kernel), List.mem_of_getElem? (i := 542) (by decide +kernel), List.mem_of_getElem? (i := 543) (by decide +kernel)⟩
theorem lw_p27 : lw_okq (⟨"OneCall", "highestBits", "(I)I"⟩, 10) := ⟨⟨by decide +kernel, by decide +kernel⟩, List.mem_of_getElem? (i := 18) (by decide +kernel), List.mem_of_getElem? (i := 552) (by decide +kernel), List.mem_of_getElem? (i := 553) (by decide +kernel)⟩
theorem lw_p28 : lw_okq (⟨"OneCall", "bestMask", "()I"⟩, 10) := ⟨⟨by decide +kernel, by decide +kernel⟩, List.mem_of_getElem? (i := 18) (by decide +kernel), List.mem_of_getElem? (i := 569) (by decide +kernel), List.mem_of_getElem? (i := 570) (by decide +kernel)⟩
theorem lw_p29 : lw_okq (⟨"OneCall", "waitingListeners", "()I"⟩, 10) := ⟨⟨by decide +kernel, by decide +kernel⟩, List.mem_of_getElem? (i := 18) (by decide +kernel), List.mem_of_getElem? (i := 573) (by decide +kernel), List.mem_of_getElem? (i := 574) (by decide +kernel)⟩
theorem lw_p30 : lw_okq (⟨"OneCall", "worthOf", "(II)I"⟩, 10) := ⟨⟨by decide +kernel, by decide +kernel⟩, List.mem_of_getElem? (i := 18) (by decide +kernel), List.mem_of_getElem? (i := 577) (by decide +kernel), List.mem_of_getElem? (i := 578) (by decide +kernel)⟩
theorem lw_p31 : lw_okq (⟨"OneCall", "rankOfAll", "()I"⟩, 10) := ⟨⟨by decide +kernel, by decide +kernel⟩, List.mem_of_getElem? (i := 18) (by decide +kernel), List.mem_of_getElem? (i := 596) (by decide +kernel), List.mem_of_getElem? (i := 597) (by decide +kernel)⟩
def lw_privs_2 : List (MethodName × Nat) := [(⟨"OneCall$Needs", "fillOrders", "()V"⟩, 6), (⟨"OneCall$Needs", "sortedCount", "()I"⟩, 6), (⟨"OneCall$Needs", "canStandBehind", "(I)I"⟩, 6), (⟨"OneCall$Needs", "allNeeds", "()I"⟩, 6), (⟨"OneCall$Needs", "firstOfLongest", "(I)I"⟩, 6), (⟨"OneCall$Needs", "fillGroups", "()V"⟩, 6), (⟨"OneCall$Needs", "canBeGroupedWith", "(I)I"⟩, 6), (⟨"OneCall$Needs", "fewestOfSeveral", "(I)I"⟩, 6), (⟨"OneCall$Needs", "firstOfFewest", "(I)I"⟩, 6), (⟨"OneCall", "findLeast", "()I"⟩, 10), (⟨"OneCall", "isPlan", "(I)Z"⟩, 10), (⟨"OneCall", "highestBits", "(I)I"⟩, 10), (⟨"OneCall", "bestMask", "()I"⟩, 10), (⟨"OneCall", "waitingListeners", "()I"⟩, 10), (⟨"OneCall", "worthOf", "(II)I"⟩, 10), (⟨"OneCall", "rankOfAll", "()I"⟩, 10)]
theorem lw_r2 : ∀ q ∈ lw_privs_2, lw_okq q := List.forall_mem_cons.mpr ⟨lw_p16, List.forall_mem_cons.mpr ⟨lw_p17, List.forall_mem_cons.mpr ⟨lw_p18, List.forall_mem_cons.mpr ⟨lw_p19, List.forall_mem_cons.mpr ⟨lw_p20, List.forall_mem_cons.mpr ⟨lw_p21, List.forall_mem_cons.mpr ⟨lw_p22, List.forall_mem_cons.mpr ⟨lw_p23, List.forall_mem_cons.mpr ⟨lw_p24, List.forall_mem_cons.mpr ⟨lw_p25, List.forall_mem_cons.mpr ⟨lw_p26, List.forall_mem_cons.mpr ⟨lw_p27, List.forall_mem_cons.mpr ⟨lw_p28, List.forall_mem_cons.mpr ⟨lw_p29, List.forall_mem_cons.mpr ⟨lw_p30, List.forall_mem_cons.mpr ⟨lw_p31, fun _ h => absurd h List.not_mem_nil⟩⟩⟩⟩⟩⟩⟩⟩⟩⟩⟩⟩⟩⟩⟩⟩
theorem lw_p32 : lw_okq (⟨"OneCallModel", "isPiece", "(I)Z"⟩, 25) := ⟨⟨by decide +kernel, by decide +kernel⟩, List.mem_of_getElem? (i := 600) (by decide +kernel), List.mem_of_getElem? (i := 691) (by decide +kernel), List.mem_of_getElem? (i := 692) (by decide +kernel)⟩
theorem lw_p33 : lw_okq (⟨"OneCallModel", "isListener", "(I)Z"⟩, 25) := ⟨⟨by decide +kernel, by decide +kernel⟩, List.mem_of_getElem? (i := 600) (by decide +kernel), List.mem_of_getElem? (i := 703) (by decide +kernel), List.mem_of_getElem? (i := 704) (by decide +kernel)⟩
theorem lw_p34 : lw_okq (⟨"OneCallModel", "isMask", "(I)Z"⟩, 25) := ⟨⟨by decide +kernel, by decide +kernel⟩, List.mem_of_getElem? (i := 600) (by decide +kernel), List.mem_of_getElem? (i := 711) (by decide +kernel), List.mem_of_getElem? (i := 712) (by decide +kernel)⟩
theorem lw_p35 : lw_okq (⟨"OneCallModel", "isSingle", "(I)Z"⟩, 25) := ⟨⟨by decide +kernel, by decide +kernel⟩, List.mem_of_getElem? (i := 600) (by decide +kernel), List.mem_of_getElem? (i := 715) (by decide +kernel), List.mem_of_getElem? (i := 716) (by decide +kernel)⟩
theorem lw_p36 : lw_okq (⟨"OneCallModel", "holds", "(II)Z"⟩, 25) := ⟨⟨by decide +kernel, by decide +kernel⟩, List.mem_of_getElem? (i := 600) (by decide +kernel), List.mem_of_getElem? (i := 719) (by decide +kernel), List.mem_of_getElem? (i := 720) (by decide +kernel)⟩
theorem lw_p37 : lw_okq (⟨"OneCallModel", "said", "(I)I"⟩, 25) := ⟨⟨by decide +kernel, by decide +kernel⟩, List.mem_of_getElem? (i := 600) (by decide +kernel), List.mem_of_getElem? (i := 731) (by decide +kernel), List.mem_of_getElem? (i := 732) (by decide +kernel)⟩
theorem lw_p38 : lw_okq (⟨"OneCallModel", "isCall", "(I)Z"⟩, 25) := ⟨⟨by decide +kernel, by decide +kernel⟩, List.mem_of_getElem? (i := 600) (by decide +kernel), List.mem_of_getElem? (i := 739) (by decide +kernel), List.mem_of_getElem? (i := 740) (by decide +kernel)⟩
theorem lw_p39 : lw_okq (⟨"OneCallModel", "sumOf", "(I)J"⟩, 25) := ⟨⟨by decide +kernel, by decide +kernel⟩, List.mem_of_getElem? (i := 600) (by decide +kernel), List.mem_of_getElem? (i := 747) (by decide +kernel), List.mem_of_getElem? (i := 748) (by decide +kernel)⟩
theorem lw_p40 : lw_okq (⟨"OneCallModel", "isNewFor", "(II)Z"⟩, 25) := ⟨⟨by decide +kernel, by decide +kernel⟩, List.mem_of_getElem? (i := 600) (by decide +kernel), List.mem_of_getElem? (i := 759) (by decide +kernel), List.mem_of_getElem? (i := 760) (by decide +kernel)⟩
theorem lw_p41 : lw_okq (⟨"OneCallModel", "know", "(I)V"⟩, 25) := ⟨⟨by decide +kernel, by decide +kernel⟩, List.mem_of_getElem? (i := 600) (by decide +kernel), List.mem_of_getElem? (i := 763) (by decide +kernel), List.mem_of_getElem? (i := 764) (by decide +kernel)⟩
theorem lw_p42 : lw_okq (⟨"OneCallModel", "take", "(II)V"⟩, 25) := ⟨⟨by decide +kernel, by decide +kernel⟩, List.mem_of_getElem? (i := 600) (by decide +kernel), List.mem_of_getElem? (i := 767) (by decide +kernel), List.mem_of_getElem? (i := 768) (by decide +kernel)⟩
theorem lw_p43 : lw_okq (⟨"OneCallModel", "isServed", "(II)Z"⟩, 25) := ⟨⟨by decide +kernel, by decide +kernel⟩, List.mem_of_getElem? (i := 600) (by decide +kernel), List.mem_of_getElem? (i := 775) (by decide +kernel), List.mem_of_getElem? (i := 776) (by decide +kernel)⟩
theorem lw_p44 : lw_okq (⟨"OneCallModel", "isOut", "(II)Z"⟩, 25) := ⟨⟨by decide +kernel, by decide +kernel⟩, List.mem_of_getElem? (i := 600) (by decide +kernel), List.mem_of_getElem? (i := 779) (by decide +kernel), List.mem_of_getElem? (i := 780) (by decide +kernel)⟩
theorem lw_p45 : lw_okq (⟨"OneCallModel", "byRows", "(I)J"⟩, 25) := ⟨⟨by decide +kernel, by decide +kernel⟩, List.mem_of_getElem? (i := 600) (by decide +kernel), List.mem_of_getElem? (i := 796) (by decide +kernel), List.mem_of_getElem? (i := 797) (by decide +kernel)⟩
theorem lw_p46 : lw_okq (⟨"OneCallModel", "isEven", "(I)Z"⟩, 25) := ⟨⟨by decide +kernel, by decide +kernel⟩, List.mem_of_getElem? (i := 600) (by decide +kernel), List.mem_of_getElem? (i := 808) (by decide +kernel), List.mem_of_getElem? (i := 809) (by decide +kernel)⟩
theorem lw_p47 : lw_okq (⟨"OneCallModel", "served", "()I"⟩, 25) := ⟨⟨by decide +kernel, by decide +kernel⟩, List.mem_of_getElem? (i := 600) (by decide +kernel), List.mem_of_getElem? (i := 816) (by decide +kernel), List.mem_of_getElem? (i := 817) (by decide +kernel)⟩
def lw_privs_3 : List (MethodName × Nat) := [(⟨"OneCallModel", "isPiece", "(I)Z"⟩, 25), (⟨"OneCallModel", "isListener", "(I)Z"⟩, 25), (⟨"OneCallModel", "isMask", "(I)Z"⟩, 25), (⟨"OneCallModel", "isSingle", "(I)Z"⟩, 25), (⟨"OneCallModel", "holds", "(II)Z"⟩, 25), (⟨"OneCallModel", "said", "(I)I"⟩, 25), (⟨"OneCallModel", "isCall", "(I)Z"⟩, 25), (⟨"OneCallModel", "sumOf", "(I)J"⟩, 25), (⟨"OneCallModel", "isNewFor", "(II)Z"⟩, 25), (⟨"OneCallModel", "know", "(I)V"⟩, 25), (⟨"OneCallModel", "take", "(II)V"⟩, 25), (⟨"OneCallModel", "isServed", "(II)Z"⟩, 25), (⟨"OneCallModel", "isOut", "(II)Z"⟩, 25), (⟨"OneCallModel", "byRows", "(I)J"⟩, 25), (⟨"OneCallModel", "isEven", "(I)Z"⟩, 25), (⟨"OneCallModel", "served", "()I"⟩, 25)]
theorem lw_r3 : ∀ q ∈ lw_privs_3, lw_okq q := List.forall_mem_cons.mpr ⟨lw_p32, List.forall_mem_cons.mpr ⟨lw_p33, List.forall_mem_cons.mpr ⟨lw_p34, List.forall_mem_cons.mpr ⟨lw_p35, List.forall_mem_cons.mpr ⟨lw_p36, List.forall_mem_cons.mpr ⟨lw_p37, List.forall_mem_cons.mpr ⟨lw_p38, List.forall_mem_cons.mpr ⟨lw_p39, List.forall_mem_cons.mpr ⟨lw_p40, List.forall_mem_cons.mpr ⟨lw_p41, List.forall_mem_cons.mpr ⟨lw_p42, List.forall_mem_cons.mpr ⟨lw_p43, List.forall_mem_cons.mpr ⟨lw_p44, List.forall_mem_cons.mpr ⟨lw_p45, List.forall_mem_cons.mpr ⟨lw_p46, List.forall_mem_cons.mpr ⟨lw_p47, fun _ h => absurd h List.not_mem_nil⟩⟩⟩⟩⟩⟩⟩⟩⟩⟩⟩⟩⟩⟩⟩⟩
theorem lw_p48 : lw_okq (⟨"OneCallModel", "knowAll", "()V"⟩, 25) := ⟨⟨by decide +kernel, by decide +kernel⟩, List.mem_of_getElem? (i := 600) (by decide +kernel), List.mem_of_getElem? (i := 820) (by decide +kernel), List.mem_of_getElem? (i := 821) (by decide +kernel)⟩
theorem lw_p49 : lw_okq (⟨"OneCallModel", "findNeeds", "()V"⟩, 25) := ⟨⟨by decide +kernel, by decide +kernel⟩, List.mem_of_getElem? (i := 600) (by decide +kernel), List.mem_of_getElem? (i := 828) (by decide +kernel), List.mem_of_getElem? (i := 829) (by decide +kernel)⟩
theorem lw_p50 : lw_okq (⟨"OneCallModel", "orders", "()V"⟩, 25) := ⟨⟨by decide +kernel, by decide +kernel⟩, List.mem_of_getElem? (i := 600) (by decide +kernel), List.mem_of_getElem? (i := 840) (by decide +kernel), List.mem_of_getElem? (i := 841) (by decide +kernel)⟩
theorem lw_p51 : lw_okq (⟨"OneCallModel", "behind", "(II)I"⟩, 25) := ⟨⟨by decide +kernel, by decide +kernel⟩, List.mem_of_getElem? (i := 600) (by decide +kernel), List.mem_of_getElem? (i := 844) (by decide +kernel), List.mem_of_getElem? (i := 845) (by decide +kernel)⟩
theorem lw_p52 : lw_okq (⟨"OneCallModel", "mayFollow", "(II)Z"⟩, 25) := ⟨⟨by decide +kernel, by decide +kernel⟩, List.mem_of_getElem? (i := 600) (by decide +kernel), List.mem_of_getElem? (i := 848) (by decide +kernel), List.mem_of_getElem? (i := 849) (by decide +kernel)⟩
theorem lw_p53 : lw_okq (⟨"OneCallModel", "groups", "()V"⟩, 25) := ⟨⟨by decide +kernel, by decide +kernel⟩, List.mem_of_getElem? (i := 600) (by decide +kernel), List.mem_of_getElem? (i := 860) (by decide +kernel), List.mem_of_getElem? (i := 861) (by decide +kernel)⟩
theorem lw_p54 : lw_okq (⟨"OneCallModel", "goTogether", "(II)Z"⟩, 25) := ⟨⟨by decide +kernel, by decide +kernel⟩, List.mem_of_getElem? (i := 600) (by decide +kernel), List.mem_of_getElem? (i := 864) (by decide +kernel), List.mem_of_getElem? (i := 865) (by decide +kernel)⟩
theorem lw_p55 : lw_okq (⟨"OneCallModel", "planSize", "()I"⟩, 25) := ⟨⟨by decide +kernel, by decide +kernel⟩, List.mem_of_getElem? (i := 600) (by decide +kernel), List.mem_of_getElem? (i := 876) (by decide +kernel), List.mem_of_getElem? (i := 877) (by decide +kernel)⟩
theorem lw_p56 : lw_okq (⟨"OneCallModel", "begin", "()Z"⟩, 25) := ⟨⟨by decide +kernel, by decide +kernel⟩, List.mem_of_getElem? (i := 600) (by decide +kernel), List.mem_of_getElem? (i := 880) (by decide +kernel), List.mem_of_getElem? (i := 881) (by decide +kernel)⟩
theorem lw_p57 : lw_okq (⟨"OneCallModel", "servedBy", "(II)Z"⟩, 25) := ⟨⟨by decide +kernel, by decide +kernel⟩, List.mem_of_getElem? (i := 600) (by decide +kernel), List.mem_of_getElem? (i := 884) (by decide +kernel), List.mem_of_getElem? (i := 885) (by decide +kernel)⟩
theorem lw_p58 : lw_okq (⟨"OneCallModel", "isPlan", "(I)Z"⟩, 25) := ⟨⟨by decide +kernel, by decide +kernel⟩, List.mem_of_getElem? (i := 600) (by decide +kernel), List.mem_of_getElem? (i := 888) (by decide +kernel), List.mem_of_getElem? (i := 889) (by decide +kernel)⟩
theorem lw_p59 : lw_okq (⟨"OneCallModel", "step", "(I)Z"⟩, 25) := ⟨⟨by decide +kernel, by decide +kernel⟩, List.mem_of_getElem? (i := 600) (by decide +kernel), List.mem_of_getElem? (i := 892) (by decide +kernel), List.mem_of_getElem? (i := 893) (by decide +kernel)⟩
theorem lw_p60 : lw_okq (⟨"OneCallModel", "with", "(II)I"⟩, 25) := ⟨⟨by decide +kernel, by decide +kernel⟩, List.mem_of_getElem? (i := 600) (by decide +kernel), List.mem_of_getElem? (i := 896) (by decide +kernel), List.mem_of_getElem? (i := 897) (by decide +kernel)⟩
theorem lw_p61 : lw_okq (⟨"OneCallModel", "next", "()I"⟩, 25) := ⟨⟨by decide +kernel, by decide +kernel⟩, List.mem_of_getElem? (i := 600) (by decide +kernel), List.mem_of_getElem? (i := 917) (by decide +kernel), List.mem_of_getElem? (i := 918) (by decide +kernel)⟩
def lw_privs_4 : List (MethodName × Nat) := [(⟨"OneCallModel", "knowAll", "()V"⟩, 25), (⟨"OneCallModel", "findNeeds", "()V"⟩, 25), (⟨"OneCallModel", "orders", "()V"⟩, 25), (⟨"OneCallModel", "behind", "(II)I"⟩, 25), (⟨"OneCallModel", "mayFollow", "(II)Z"⟩, 25), (⟨"OneCallModel", "groups", "()V"⟩, 25), (⟨"OneCallModel", "goTogether", "(II)Z"⟩, 25), (⟨"OneCallModel", "planSize", "()I"⟩, 25), (⟨"OneCallModel", "begin", "()Z"⟩, 25), (⟨"OneCallModel", "servedBy", "(II)Z"⟩, 25), (⟨"OneCallModel", "isPlan", "(I)Z"⟩, 25), (⟨"OneCallModel", "step", "(I)Z"⟩, 25), (⟨"OneCallModel", "with", "(II)I"⟩, 25), (⟨"OneCallModel", "next", "()I"⟩, 25)]
theorem lw_r4 : ∀ q ∈ lw_privs_4, lw_okq q := List.forall_mem_cons.mpr ⟨lw_p48, List.forall_mem_cons.mpr ⟨lw_p49, List.forall_mem_cons.mpr ⟨lw_p50, List.forall_mem_cons.mpr ⟨lw_p51, List.forall_mem_cons.mpr ⟨lw_p52, List.forall_mem_cons.mpr ⟨lw_p53, List.forall_mem_cons.mpr ⟨lw_p54, List.forall_mem_cons.mpr ⟨lw_p55, List.forall_mem_cons.mpr ⟨lw_p56, List.forall_mem_cons.mpr ⟨lw_p57, List.forall_mem_cons.mpr ⟨lw_p58, List.forall_mem_cons.mpr ⟨lw_p59, List.forall_mem_cons.mpr ⟨lw_p60, List.forall_mem_cons.mpr ⟨lw_p61, fun _ h => absurd h List.not_mem_nil⟩⟩⟩⟩⟩⟩⟩⟩⟩⟩⟩⟩⟩⟩
def lw_privs : List (MethodName × Nat) := lw_privs_1 ++ (lw_privs_2 ++ (lw_privs_3 ++ (lw_privs_4)))
def lw_tbl : List Cond := k2_sels lw_privs ++ tables_1
theorem lw_privs_ok : ∀ q ∈ lw_privs, lw_okq q := by
  show ∀ q ∈ lw_privs_1 ++ (lw_privs_2 ++ (lw_privs_3 ++ (lw_privs_4))), lw_okq q
  exact List.forall_mem_append.mpr ⟨lw_r1, List.forall_mem_append.mpr ⟨lw_r2, List.forall_mem_append.mpr ⟨lw_r3, lw_r4⟩⟩⟩
end
section
def RX0 : String := "OneCall$Knowledge"
def TX0 : u_T := fun k => match k with
  | 0 => ("OneCall$Knowledge", "rest", "[I", true)
  | 1 => ("OneCall$Knowledge", "by", "[J", true)
  | _ => ("OneCall$Knowledge", "rank", "I", false)
def tyX0 : Nat → FieldType := fun k => match k with
  | 0 => .array .int
  | 1 => .array .long
  | _ => .int
theorem nmX0 : ∀ a, a < 3 → ∀ b, b < 3 → a ≠ b → (TX0 a).2.1 ≠ (TX0 b).2.1 := by decide +kernel
theorem tyX0_ok : ∀ k, k < 3 → parseFieldDescriptor (TX0 k).2.2.1 = some (tyX0 k) := by decide +kernel
abbrev cX0_init : ByteArray := prog_2_method_1_code
def yX0_init : MethodName := ⟨RX0, "<init>", "()V"⟩
abbrev cX0_become : ByteArray := prog_2_method_2_code
def yX0_become : MethodName := ⟨RX0, "become", "(LOneCall$Knowledge;)V"⟩
abbrev cX0_restOf : ByteArray := prog_2_method_3_code
def yX0_restOf : MethodName := ⟨RX0, "restOf", "(I)I"⟩
abbrev cX0_rowsOf : ByteArray := prog_2_method_4_code
def yX0_rowsOf : MethodName := ⟨RX0, "rowsOf", "(I)J"⟩
abbrev cX0_learn : ByteArray := prog_2_method_5_code
def yX0_learn : MethodName := ⟨RX0, "learn", "(IJ)Z"⟩
abbrev cX0_isWorkedOut : ByteArray := prog_2_method_6_code
def yX0_isWorkedOut : MethodName := ⟨RX0, "isWorkedOut", "(I)Z"⟩
abbrev cX0_workedOut : ByteArray := prog_2_method_7_code
def yX0_workedOut : MethodName := ⟨RX0, "workedOut", "()I"⟩
abbrev cX0_workedOutWith : ByteArray := prog_2_method_8_code
def yX0_workedOutWith : MethodName := ⟨RX0, "workedOutWith", "(I)I"⟩
def RX1 : String := "OneCall$Listener"
def TX1 : u_T := fun k => match k with
  | 0 => ("OneCall$Listener", "kind", "I", true)
  | 1 => ("OneCall$Listener", "rows", "[I", true)
  | 2 => ("OneCall$Listener", "known", "LOneCall$Knowledge;", true)
  | 3 => ("OneCall$Listener", "rowCount", "I", false)
  | 4 => ("OneCall$Listener", "hadCount", "I", false)
  | 5 => ("OneCall$Listener", "hadPieces", "I", false)
  | 6 => ("OneCall$Listener", "wanted", "I", false)
  | 7 => ("OneCall$Listener", "heardCalls", "J", false)
  | _ => ("OneCall$Listener", "isOff", "Z", false)
def tyX1 : Nat → FieldType := fun k => match k with
  | 0 => .int
  | 1 => .array .int
  | 2 => .object "OneCall$Knowledge"
  | 3 => .int
  | 4 => .int
  | 5 => .int
  | 6 => .int
  | 7 => .long
  | _ => .boolean
theorem nmX1 : ∀ a, a < 9 → ∀ b, b < 9 → a ≠ b → (TX1 a).2.1 ≠ (TX1 b).2.1 := by decide +kernel
theorem tyX1_ok : ∀ k, k < 9 → parseFieldDescriptor (TX1 k).2.2.1 = some (tyX1 k) := by decide +kernel
abbrev cX1_init : ByteArray := prog_3_method_1_code
def yX1_init : MethodName := ⟨RX1, "<init>", "(I)V"⟩
abbrev cX1_mayHave : ByteArray := prog_3_method_2_code
def yX1_mayHave : MethodName := ⟨RX1, "mayHave", "(I)Z"⟩
abbrev cX1_getSum : ByteArray := prog_3_method_3_code
def yX1_getSum : MethodName := ⟨RX1, "getSum", "(I)V"⟩
abbrev cX1_hear : ByteArray := prog_3_method_4_code
def yX1_hear : MethodName := ⟨RX1, "hear", "(II)Z"⟩
abbrev cX1_addRow : ByteArray := prog_3_method_5_code
def yX1_addRow : MethodName := ⟨RX1, "addRow", "(I)Z"⟩
abbrev cX1_isEvenInAllRows : ByteArray := prog_3_method_6_code
def yX1_isEvenInAllRows : MethodName := ⟨RX1, "isEvenInAllRows", "(I)Z"⟩
abbrev cX1_isServedBy : ByteArray := prog_3_method_7_code
def yX1_isServedBy : MethodName := ⟨RX1, "isServedBy", "(LOneCall$Knowledge;I)Z"⟩
abbrev cX1_wouldBeServedBy : ByteArray := prog_3_method_8_code
def yX1_wouldBeServedBy : MethodName := ⟨RX1, "wouldBeServedBy", "(II)Z"⟩
abbrev cX1_isServedWith : ByteArray := prog_3_method_9_code
def yX1_isServedWith : MethodName := ⟨RX1, "isServedWith", "(II)Z"⟩
def RX2 : String := "OneCall$Needs"
def TX2 : u_T := fun k => match k with
  | 0 => ("OneCall$Needs", "who", "[I", true)
  | 1 => ("OneCall$Needs", "piece", "[I", true)
  | 2 => ("OneCall$Needs", "size", "I", false)
  | 3 => ("OneCall$Needs", "lacked", "[I", true)
  | 4 => ("OneCall$Needs", "partners", "[I", true)
  | _ => ("OneCall$Needs", "table", "[I", true)
def tyX2 : Nat → FieldType := fun k => match k with
  | 0 => .array .int
  | 1 => .array .int
  | 2 => .int
  | 3 => .array .int
  | 4 => .array .int
  | _ => .array .int
theorem nmX2 : ∀ a, a < 6 → ∀ b, b < 6 → a ≠ b → (TX2 a).2.1 ≠ (TX2 b).2.1 := by decide +kernel
theorem tyX2_ok : ∀ k, k < 6 → parseFieldDescriptor (TX2 k).2.2.1 = some (tyX2 k) := by decide +kernel
abbrev cX2_init : ByteArray := prog_4_method_1_code
def yX2_init : MethodName := ⟨RX2, "<init>", "()V"⟩
abbrev cX2_put : ByteArray := prog_4_method_2_code
def yX2_put : MethodName := ⟨RX2, "put", "(III)V"⟩
abbrev cX2_canBeSorted : ByteArray := prog_4_method_3_code
def yX2_canBeSorted : MethodName := ⟨RX2, "canBeSorted", "()Z"⟩
abbrev cX2_longestOrder : ByteArray := prog_4_method_4_code
def yX2_longestOrder : MethodName := ⟨RX2, "longestOrder", "()I"⟩
abbrev cX2_inTheOrder : ByteArray := prog_4_method_5_code
def yX2_inTheOrder : MethodName := ⟨RX2, "inTheOrder", "(I)I"⟩
abbrev cX2_fewestGroups : ByteArray := prog_4_method_6_code
def yX2_fewestGroups : MethodName := ⟨RX2, "fewestGroups", "()I"⟩
abbrev cX2_inTheGroups : ByteArray := prog_4_method_7_code
def yX2_inTheGroups : MethodName := ⟨RX2, "inTheGroups", "(I)I"⟩
abbrev cX2_sortedCount : ByteArray := prog_4_method_8_code
def yX2_sortedCount : MethodName := ⟨RX2, "sortedCount", "()I"⟩
abbrev cX2_allNeeds : ByteArray := prog_4_method_9_code
def yX2_allNeeds : MethodName := ⟨RX2, "allNeeds", "()I"⟩
abbrev cX2_fillOrders : ByteArray := prog_4_method_10_code
def yX2_fillOrders : MethodName := ⟨RX2, "fillOrders", "()V"⟩
abbrev cX2_canStandBehind : ByteArray := prog_4_method_11_code
def yX2_canStandBehind : MethodName := ⟨RX2, "canStandBehind", "(I)I"⟩
abbrev cX2_firstOfLongest : ByteArray := prog_4_method_12_code
def yX2_firstOfLongest : MethodName := ⟨RX2, "firstOfLongest", "(I)I"⟩
abbrev cX2_fillGroups : ByteArray := prog_4_method_13_code
def yX2_fillGroups : MethodName := ⟨RX2, "fillGroups", "()V"⟩
abbrev cX2_canBeGroupedWith : ByteArray := prog_4_method_14_code
def yX2_canBeGroupedWith : MethodName := ⟨RX2, "canBeGroupedWith", "(I)I"⟩
abbrev cX2_fewestOfSeveral : ByteArray := prog_4_method_15_code
def yX2_fewestOfSeveral : MethodName := ⟨RX2, "fewestOfSeveral", "(I)I"⟩
abbrev cX2_firstOfFewest : ByteArray := prog_4_method_16_code
def yX2_firstOfFewest : MethodName := ⟨RX2, "firstOfFewest", "(I)I"⟩
def RX3 : String := "OneCall"
def TX3 : u_T := fun k => match k with
  | 0 => ("OneCall", "pieces", "[J", true)
  | 1 => ("OneCall", "pieceCount", "I", false)
  | 2 => ("OneCall", "listeners", "Ljava/util/ArrayList;", true)
  | 3 => ("OneCall", "callMasks", "[I", true)
  | 4 => ("OneCall", "callHearers", "[I", true)
  | 5 => ("OneCall", "callNews", "[I", true)
  | 6 => ("OneCall", "callCount", "I", false)
  | 7 => ("OneCall", "openNeeds", "LOneCall$Needs;", true)
  | 8 => ("OneCall", "trial", "LOneCall$Knowledge;", true)
  | _ => ("OneCall", "planRow", "[I", true)
def tyX3 : Nat → FieldType := fun k => match k with
  | 0 => .array .long
  | 1 => .int
  | 2 => .object "java/util/ArrayList"
  | 3 => .array .int
  | 4 => .array .int
  | 5 => .array .int
  | 6 => .int
  | 7 => .object "OneCall$Needs"
  | 8 => .object "OneCall$Knowledge"
  | _ => .array .int
theorem nmX3 : ∀ a, a < 10 → ∀ b, b < 10 → a ≠ b → (TX3 a).2.1 ≠ (TX3 b).2.1 := by decide +kernel
theorem tyX3_ok : ∀ k, k < 10 → parseFieldDescriptor (TX3 k).2.2.1 = some (tyX3 k) := by decide +kernel
abbrev cX3_init : ByteArray := prog_1_method_1_code
def yX3_init : MethodName := ⟨RX3, "<init>", "()V"⟩
abbrev cX3_piece : ByteArray := prog_1_method_2_code
def yX3_piece : MethodName := ⟨RX3, "piece", "(J)I"⟩
abbrev cX3_bytes : ByteArray := prog_1_method_3_code
def yX3_bytes : MethodName := ⟨RX3, "bytes", "(I)J"⟩
abbrev cX3_listener : ByteArray := prog_1_method_4_code
def yX3_listener : MethodName := ⟨RX3, "listener", "(I)I"⟩
abbrev cX3_wants : ByteArray := prog_1_method_5_code
def yX3_wants : MethodName := ⟨RX3, "wants", "(II)I"⟩
abbrev cX3_has : ByteArray := prog_1_method_6_code
def yX3_has : MethodName := ⟨RX3, "has", "(II)I"⟩
abbrev cX3_off : ByteArray := prog_1_method_7_code
def yX3_off : MethodName := ⟨RX3, "off", "(II)I"⟩
abbrev cX3_say : ByteArray := prog_1_method_8_code
def yX3_say : MethodName := ⟨RX3, "say", "(I)I"⟩
abbrev cX3_again : ByteArray := prog_1_method_9_code
def yX3_again : MethodName := ⟨RX3, "again", "(I)I"⟩
abbrev cX3_call : ByteArray := prog_1_method_10_code
def yX3_call : MethodName := ⟨RX3, "call", "(II)I"⟩
abbrev cX3_sum : ByteArray := prog_1_method_11_code
def yX3_sum : MethodName := ⟨RX3, "sum", "(I)J"⟩
abbrev cX3_heard : ByteArray := prog_1_method_12_code
def yX3_heard : MethodName := ⟨RX3, "heard", "(II)I"⟩
abbrev cX3_about : ByteArray := prog_1_method_13_code
def yX3_about : MethodName := ⟨RX3, "about", "(II)I"⟩
abbrev cX3_rowOf : ByteArray := prog_1_method_14_code
def yX3_rowOf : MethodName := ⟨RX3, "rowOf", "(II)I"⟩
abbrev cX3_solve : ByteArray := prog_1_method_15_code
def yX3_solve : MethodName := ⟨RX3, "solve", "(II)I"⟩
abbrev cX3_why : ByteArray := prog_1_method_16_code
def yX3_why : MethodName := ⟨RX3, "why", "(II)J"⟩
abbrev cX3_gets : ByteArray := prog_1_method_17_code
def yX3_gets : MethodName := ⟨RX3, "gets", "(II)J"⟩
abbrev cX3_lack : ByteArray := prog_1_method_18_code
def yX3_lack : MethodName := ⟨RX3, "lack", "(II)I"⟩
abbrev cX3_left : ByteArray := prog_1_method_19_code
def yX3_left : MethodName := ⟨RX3, "left", "()I"⟩
abbrev cX3_needs : ByteArray := prog_1_method_20_code
def yX3_needs : MethodName := ⟨RX3, "needs", "()I"⟩
abbrev cX3_need : ByteArray := prog_1_method_21_code
def yX3_need : MethodName := ⟨RX3, "need", "(II)I"⟩
abbrev cX3_below : ByteArray := prog_1_method_22_code
def yX3_below : MethodName := ⟨RX3, "below", "()I"⟩
abbrev cX3_order : ByteArray := prog_1_method_23_code
def yX3_order : MethodName := ⟨RX3, "order", "(I)I"⟩
abbrev cX3_above : ByteArray := prog_1_method_24_code
def yX3_above : MethodName := ⟨RX3, "above", "()I"⟩
abbrev cX3_group : ByteArray := prog_1_method_25_code
def yX3_group : MethodName := ⟨RX3, "group", "(I)I"⟩
abbrev cX3_least : ByteArray := prog_1_method_26_code
def yX3_least : MethodName := ⟨RX3, "least", "()I"⟩
abbrev cX3_planned : ByteArray := prog_1_method_27_code
def yX3_planned : MethodName := ⟨RX3, "planned", "(I)I"⟩
abbrev cX3_plan : ByteArray := prog_1_method_28_code
def yX3_plan : MethodName := ⟨RX3, "plan", "(IIII)I"⟩
abbrev cX3_goOn : ByteArray := prog_1_method_29_code
def yX3_goOn : MethodName := ⟨RX3, "goOn", "()I"⟩
abbrev cX3_finish : ByteArray := prog_1_method_30_code
def yX3_finish : MethodName := ⟨RX3, "finish", "()I"⟩
abbrev cX3_count : ByteArray := prog_1_method_31_code
def yX3_count : MethodName := ⟨RX3, "count", "(I)I"⟩
abbrev cX3_isPiece : ByteArray := prog_1_method_32_code
def yX3_isPiece : MethodName := ⟨RX3, "isPiece", "(I)Z"⟩
abbrev cX3_isListener : ByteArray := prog_1_method_33_code
def yX3_isListener : MethodName := ⟨RX3, "isListener", "(I)Z"⟩
abbrev cX3_isCall : ByteArray := prog_1_method_34_code
def yX3_isCall : MethodName := ⟨RX3, "isCall", "(I)Z"⟩
abbrev cX3_isMask : ByteArray := prog_1_method_35_code
def yX3_isMask : MethodName := ⟨RX3, "isMask", "(I)Z"⟩
abbrev cX3_allPieces : ByteArray := prog_1_method_36_code
def yX3_allPieces : MethodName := ⟨RX3, "allPieces", "()I"⟩
abbrev cX3_isIn : ByteArray := prog_1_method_37_code
def yX3_isIn : MethodName := ⟨RX3, "isIn", "(II)Z"⟩
abbrev cX3_oneIf : ByteArray := prog_1_method_38_code
def yX3_oneIf : MethodName := ⟨RX3, "oneIf", "(Z)I"⟩
abbrev cX3_bytesOf : ByteArray := prog_1_method_39_code
def yX3_bytesOf : MethodName := ⟨RX3, "bytesOf", "(I)J"⟩
abbrev cX3_speak : ByteArray := prog_1_method_40_code
def yX3_speak : MethodName := ⟨RX3, "speak", "(I)I"⟩
abbrev cX3_hasWorkedOut : ByteArray := prog_1_method_41_code
def yX3_hasWorkedOut : MethodName := ⟨RX3, "hasWorkedOut", "(II)Z"⟩
abbrev cX3_isServed : ByteArray := prog_1_method_42_code
def yX3_isServed : MethodName := ⟨RX3, "isServed", "(LOneCall$Listener;)Z"⟩
abbrev cX3_servedCount : ByteArray := prog_1_method_43_code
def yX3_servedCount : MethodName := ⟨RX3, "servedCount", "()I"⟩
abbrev cX3_rankOfAll : ByteArray := prog_1_method_44_code
def yX3_rankOfAll : MethodName := ⟨RX3, "rankOfAll", "()I"⟩
abbrev cX3_findNeeds : ByteArray := prog_1_method_45_code
def yX3_findNeeds : MethodName := ⟨RX3, "findNeeds", "()V"⟩
abbrev cX3_findLeast : ByteArray := prog_1_method_46_code
def yX3_findLeast : MethodName := ⟨RX3, "findLeast", "()I"⟩
abbrev cX3_completes : ByteArray := prog_1_method_47_code
def yX3_completes : MethodName := ⟨RX3, "completes", "(LOneCall;II)Z"⟩
abbrev cX3_highestBits : ByteArray := prog_1_method_48_code
def yX3_highestBits : MethodName := ⟨RX3, "highestBits", "(I)I"⟩
abbrev cX3_isPlan : ByteArray := prog_1_method_49_code
def yX3_isPlan : MethodName := ⟨RX3, "isPlan", "(I)Z"⟩
abbrev cX3_bestMask : ByteArray := prog_1_method_50_code
def yX3_bestMask : MethodName := ⟨RX3, "bestMask", "()I"⟩
abbrev cX3_waitingListeners : ByteArray := prog_1_method_51_code
def yX3_waitingListeners : MethodName := ⟨RX3, "waitingListeners", "()I"⟩
abbrev cX3_worthOf : ByteArray := prog_1_method_52_code
def yX3_worthOf : MethodName := ⟨RX3, "worthOf", "(II)I"⟩
def RX4 : String := "OneCallModel"
def TX4 : u_T := fun k => match k with
  | 0 => ("OneCallModel", "pieces", "I", false)
  | 1 => ("OneCallModel", "listeners", "I", false)
  | 2 => ("OneCallModel", "calls", "I", false)
  | 3 => ("OneCallModel", "bytes", "[J", true)
  | 4 => ("OneCallModel", "kind", "[I", true)
  | 5 => ("OneCallModel", "wanted", "[I", true)
  | 6 => ("OneCallModel", "hasMany", "[I", true)
  | 7 => ("OneCallModel", "has", "[I", true)
  | 8 => ("OneCallModel", "isOff", "[Z", true)
  | 9 => ("OneCallModel", "callMask", "[I", true)
  | 10 => ("OneCallModel", "heardBy", "[I", true)
  | 11 => ("OneCallModel", "row", "[I", true)
  | 12 => ("OneCallModel", "isNew", "[Z", true)
  | 13 => ("OneCallModel", "rows", "I", false)
  | 14 => ("OneCallModel", "rank", "I", false)
  | 15 => ("OneCallModel", "out", "[Z", true)
  | 16 => ("OneCallModel", "fresh", "[Z", true)
  | 17 => ("OneCallModel", "fewRows", "[I", true)
  | 18 => ("OneCallModel", "needL", "[I", true)
  | 19 => ("OneCallModel", "needP", "[I", true)
  | 20 => ("OneCallModel", "needed", "I", false)
  | 21 => ("OneCallModel", "best", "[I", true)
  | 22 => ("OneCallModel", "isGroup", "[Z", true)
  | 23 => ("OneCallModel", "table", "[I", true)
  | _ => ("OneCallModel", "tried", "[I", true)
def tyX4 : Nat → FieldType := fun k => match k with
  | 0 => .int
  | 1 => .int
  | 2 => .int
  | 3 => .array .long
  | 4 => .array .int
  | 5 => .array .int
  | 6 => .array .int
  | 7 => .array .int
  | 8 => .array .boolean
  | 9 => .array .int
  | 10 => .array .int
  | 11 => .array .int
  | 12 => .array .boolean
  | 13 => .int
  | 14 => .int
  | 15 => .array .boolean
  | 16 => .array .boolean
  | 17 => .array .int
  | 18 => .array .int
  | 19 => .array .int
  | 20 => .int
  | 21 => .array .int
  | 22 => .array .boolean
  | 23 => .array .int
  | _ => .array .int
theorem nmX4 : ∀ a, a < 25 → ∀ b, b < 25 → a ≠ b → (TX4 a).2.1 ≠ (TX4 b).2.1 := by decide +kernel
theorem tyX4_ok : ∀ k, k < 25 → parseFieldDescriptor (TX4 k).2.2.1 = some (tyX4 k) := by decide +kernel
abbrev cX4_init : ByteArray := prog_6_method_1_code
def yX4_init : MethodName := ⟨RX4, "<init>", "()V"⟩
abbrev cX4_isPiece : ByteArray := prog_6_method_2_code
def yX4_isPiece : MethodName := ⟨RX4, "isPiece", "(I)Z"⟩
abbrev cX4_isListener : ByteArray := prog_6_method_3_code
def yX4_isListener : MethodName := ⟨RX4, "isListener", "(I)Z"⟩
abbrev cX4_isCall : ByteArray := prog_6_method_4_code
def yX4_isCall : MethodName := ⟨RX4, "isCall", "(I)Z"⟩
abbrev cX4_isMask : ByteArray := prog_6_method_5_code
def yX4_isMask : MethodName := ⟨RX4, "isMask", "(I)Z"⟩
abbrev cX4_piece : ByteArray := prog_6_method_6_code
def yX4_piece : MethodName := ⟨RX4, "piece", "(J)I"⟩
abbrev cX4_bytes : ByteArray := prog_6_method_7_code
def yX4_bytes : MethodName := ⟨RX4, "bytes", "(I)J"⟩
abbrev cX4_listener : ByteArray := prog_6_method_8_code
def yX4_listener : MethodName := ⟨RX4, "listener", "(I)I"⟩
abbrev cX4_wants : ByteArray := prog_6_method_9_code
def yX4_wants : MethodName := ⟨RX4, "wants", "(II)I"⟩
abbrev cX4_isSingle : ByteArray := prog_6_method_10_code
def yX4_isSingle : MethodName := ⟨RX4, "isSingle", "(I)Z"⟩
abbrev cX4_holds : ByteArray := prog_6_method_11_code
def yX4_holds : MethodName := ⟨RX4, "holds", "(II)Z"⟩
abbrev cX4_has : ByteArray := prog_6_method_12_code
def yX4_has : MethodName := ⟨RX4, "has", "(II)I"⟩
abbrev cX4_off : ByteArray := prog_6_method_13_code
def yX4_off : MethodName := ⟨RX4, "off", "(II)I"⟩
abbrev cX4_said : ByteArray := prog_6_method_14_code
def yX4_said : MethodName := ⟨RX4, "said", "(I)I"⟩
abbrev cX4_say : ByteArray := prog_6_method_15_code
def yX4_say : MethodName := ⟨RX4, "say", "(I)I"⟩
abbrev cX4_again : ByteArray := prog_6_method_16_code
def yX4_again : MethodName := ⟨RX4, "again", "(I)I"⟩
abbrev cX4_sum : ByteArray := prog_6_method_17_code
def yX4_sum : MethodName := ⟨RX4, "sum", "(I)J"⟩
abbrev cX4_sumOf : ByteArray := prog_6_method_18_code
def yX4_sumOf : MethodName := ⟨RX4, "sumOf", "(I)J"⟩
abbrev cX4_heard : ByteArray := prog_6_method_19_code
def yX4_heard : MethodName := ⟨RX4, "heard", "(II)I"⟩
abbrev cX4_take : ByteArray := prog_6_method_20_code
def yX4_take : MethodName := ⟨RX4, "take", "(II)V"⟩
abbrev cX4_know : ByteArray := prog_6_method_21_code
def yX4_know : MethodName := ⟨RX4, "know", "(I)V"⟩
abbrev cX4_knowAll : ByteArray := prog_6_method_22_code
def yX4_knowAll : MethodName := ⟨RX4, "knowAll", "()V"⟩
abbrev cX4_isOut : ByteArray := prog_6_method_23_code
def yX4_isOut : MethodName := ⟨RX4, "isOut", "(II)Z"⟩
abbrev cX4_isServed : ByteArray := prog_6_method_24_code
def yX4_isServed : MethodName := ⟨RX4, "isServed", "(II)Z"⟩
abbrev cX4_call : ByteArray := prog_6_method_25_code
def yX4_call : MethodName := ⟨RX4, "call", "(II)I"⟩
abbrev cX4_isNewFor : ByteArray := prog_6_method_26_code
def yX4_isNewFor : MethodName := ⟨RX4, "isNewFor", "(II)Z"⟩
abbrev cX4_about : ByteArray := prog_6_method_27_code
def yX4_about : MethodName := ⟨RX4, "about", "(II)I"⟩
abbrev cX4_rowOf : ByteArray := prog_6_method_28_code
def yX4_rowOf : MethodName := ⟨RX4, "rowOf", "(II)I"⟩
abbrev cX4_solve : ByteArray := prog_6_method_29_code
def yX4_solve : MethodName := ⟨RX4, "solve", "(II)I"⟩
abbrev cX4_byRows : ByteArray := prog_6_method_30_code
def yX4_byRows : MethodName := ⟨RX4, "byRows", "(I)J"⟩
abbrev cX4_why : ByteArray := prog_6_method_31_code
def yX4_why : MethodName := ⟨RX4, "why", "(II)J"⟩
abbrev cX4_gets : ByteArray := prog_6_method_32_code
def yX4_gets : MethodName := ⟨RX4, "gets", "(II)J"⟩
abbrev cX4_isEven : ByteArray := prog_6_method_33_code
def yX4_isEven : MethodName := ⟨RX4, "isEven", "(I)Z"⟩
abbrev cX4_lack : ByteArray := prog_6_method_34_code
def yX4_lack : MethodName := ⟨RX4, "lack", "(II)I"⟩
abbrev cX4_served : ByteArray := prog_6_method_35_code
def yX4_served : MethodName := ⟨RX4, "served", "()I"⟩
abbrev cX4_left : ByteArray := prog_6_method_36_code
def yX4_left : MethodName := ⟨RX4, "left", "()I"⟩
abbrev cX4_findNeeds : ByteArray := prog_6_method_37_code
def yX4_findNeeds : MethodName := ⟨RX4, "findNeeds", "()V"⟩
abbrev cX4_needs : ByteArray := prog_6_method_38_code
def yX4_needs : MethodName := ⟨RX4, "needs", "()I"⟩
abbrev cX4_need : ByteArray := prog_6_method_39_code
def yX4_need : MethodName := ⟨RX4, "need", "(II)I"⟩
abbrev cX4_mayFollow : ByteArray := prog_6_method_40_code
def yX4_mayFollow : MethodName := ⟨RX4, "mayFollow", "(II)Z"⟩
abbrev cX4_behind : ByteArray := prog_6_method_41_code
def yX4_behind : MethodName := ⟨RX4, "behind", "(II)I"⟩
abbrev cX4_orders : ByteArray := prog_6_method_42_code
def yX4_orders : MethodName := ⟨RX4, "orders", "()V"⟩
abbrev cX4_below : ByteArray := prog_6_method_43_code
def yX4_below : MethodName := ⟨RX4, "below", "()I"⟩
abbrev cX4_order : ByteArray := prog_6_method_44_code
def yX4_order : MethodName := ⟨RX4, "order", "(I)I"⟩
abbrev cX4_goTogether : ByteArray := prog_6_method_45_code
def yX4_goTogether : MethodName := ⟨RX4, "goTogether", "(II)Z"⟩
abbrev cX4_groups : ByteArray := prog_6_method_46_code
def yX4_groups : MethodName := ⟨RX4, "groups", "()V"⟩
abbrev cX4_above : ByteArray := prog_6_method_47_code
def yX4_above : MethodName := ⟨RX4, "above", "()I"⟩
abbrev cX4_group : ByteArray := prog_6_method_48_code
def yX4_group : MethodName := ⟨RX4, "group", "(I)I"⟩
abbrev cX4_with : ByteArray := prog_6_method_49_code
def yX4_with : MethodName := ⟨RX4, "with", "(II)I"⟩
abbrev cX4_servedBy : ByteArray := prog_6_method_50_code
def yX4_servedBy : MethodName := ⟨RX4, "servedBy", "(II)Z"⟩
abbrev cX4_step : ByteArray := prog_6_method_51_code
def yX4_step : MethodName := ⟨RX4, "step", "(I)Z"⟩
abbrev cX4_begin : ByteArray := prog_6_method_52_code
def yX4_begin : MethodName := ⟨RX4, "begin", "()Z"⟩
abbrev cX4_isPlan : ByteArray := prog_6_method_53_code
def yX4_isPlan : MethodName := ⟨RX4, "isPlan", "(I)Z"⟩
abbrev cX4_planSize : ByteArray := prog_6_method_54_code
def yX4_planSize : MethodName := ⟨RX4, "planSize", "()I"⟩
abbrev cX4_least : ByteArray := prog_6_method_55_code
def yX4_least : MethodName := ⟨RX4, "least", "()I"⟩
abbrev cX4_planned : ByteArray := prog_6_method_56_code
def yX4_planned : MethodName := ⟨RX4, "planned", "(I)I"⟩
abbrev cX4_plan : ByteArray := prog_6_method_57_code
def yX4_plan : MethodName := ⟨RX4, "plan", "(IIII)I"⟩
abbrev cX4_next : ByteArray := prog_6_method_58_code
def yX4_next : MethodName := ⟨RX4, "next", "()I"⟩
abbrev cX4_goOn : ByteArray := prog_6_method_59_code
def yX4_goOn : MethodName := ⟨RX4, "goOn", "()I"⟩
abbrev cX4_finish : ByteArray := prog_6_method_60_code
def yX4_finish : MethodName := ⟨RX4, "finish", "()I"⟩
abbrev cX4_count : ByteArray := prog_6_method_61_code
def yX4_count : MethodName := ⟨RX4, "count", "(I)I"⟩
def RJ6 : String := "java/lang/Integer"
def TJ6 : u_T := fun k => match k with
  | _ => ("", "", "", false)
def tyJ6 : Nat → FieldType := fun k => match k with
  | _ => .int
theorem nmJ6 : ∀ a, a < 0 → ∀ b, b < 0 → a ≠ b → (TJ6 a).2.1 ≠ (TJ6 b).2.1 := by decide +kernel
theorem tyJ6_ok : ∀ k, k < 0 → parseFieldDescriptor (TJ6 k).2.2.1 = some (tyJ6 k) := by decide +kernel
abbrev cJ6_highestOneBit_0f7a4 : ByteArray := prog_9_method_45_code
def yJ6_highestOneBit_0f7a4 : MethodName := ⟨RJ6, "highestOneBit", "(I)I"⟩
abbrev cJ6_lowestOneBit_0f7a4 : ByteArray := prog_9_method_46_code
def yJ6_lowestOneBit_0f7a4 : MethodName := ⟨RJ6, "lowestOneBit", "(I)I"⟩
abbrev cJ6_numberOfLeadingZeros_0f7a4 : ByteArray := prog_9_method_47_code
def yJ6_numberOfLeadingZeros_0f7a4 : MethodName := ⟨RJ6, "numberOfLeadingZeros", "(I)I"⟩
abbrev cJ6_numberOfTrailingZeros_0f7a4 : ByteArray := prog_9_method_48_code
def yJ6_numberOfTrailingZeros_0f7a4 : MethodName := ⟨RJ6, "numberOfTrailingZeros", "(I)I"⟩
abbrev cJ6_bitCount_0f7a4 : ByteArray := prog_9_method_49_code
def yJ6_bitCount_0f7a4 : MethodName := ⟨RJ6, "bitCount", "(I)I"⟩
def RJ9 : String := "java/lang/Math"
def TJ9 : u_T := fun k => match k with
  | _ => ("", "", "", false)
def tyJ9 : Nat → FieldType := fun k => match k with
  | _ => .int
theorem nmJ9 : ∀ a, a < 0 → ∀ b, b < 0 → a ≠ b → (TJ9 a).2.1 ≠ (TJ9 b).2.1 := by decide +kernel
theorem tyJ9_ok : ∀ k, k < 0 → parseFieldDescriptor (TJ9 k).2.2.1 = some (tyJ9 k) := by decide +kernel
abbrev cJ9_max_7cf53 : ByteArray := prog_11_method_65_code
def yJ9_max_7cf53 : MethodName := ⟨RJ9, "max", "(II)I"⟩
abbrev cJ9_min_7cf53 : ByteArray := prog_11_method_69_code
def yJ9_min_7cf53 : MethodName := ⟨RJ9, "min", "(II)I"⟩
def RJxd2413 : String := "java/lang/Number"
def TJxd2413 : u_T := fun k => match k with
  | _ => ("", "", "", false)
def tyJxd2413 : Nat → FieldType := fun k => match k with
  | _ => .int
theorem nmJxd2413 : ∀ a, a < 0 → ∀ b, b < 0 → a ≠ b → (TJxd2413 a).2.1 ≠ (TJxd2413 b).2.1 := by decide +kernel
theorem tyJxd2413_ok : ∀ k, k < 0 → parseFieldDescriptor (TJxd2413 k).2.2.1 = some (tyJxd2413 k) := by decide +kernel
def RJ10 : String := "java/lang/System"
def TJ10 : u_T := fun k => match k with
  | _ => ("", "", "", false)
def tyJ10 : Nat → FieldType := fun k => match k with
  | _ => .int
theorem nmJ10 : ∀ a, a < 0 → ∀ b, b < 0 → a ≠ b → (TJ10 a).2.1 ≠ (TJ10 b).2.1 := by decide +kernel
theorem tyJ10_ok : ∀ k, k < 0 → parseFieldDescriptor (TJ10 k).2.2.1 = some (tyJ10 k) := by decide +kernel
def RJxa1e45 : String := "java/util/AbstractCollection"
def TJxa1e45 : u_T := fun k => match k with
  | _ => ("", "", "", false)
def tyJxa1e45 : Nat → FieldType := fun k => match k with
  | _ => .int
theorem nmJxa1e45 : ∀ a, a < 0 → ∀ b, b < 0 → a ≠ b → (TJxa1e45 a).2.1 ≠ (TJxa1e45 b).2.1 := by decide +kernel
theorem tyJxa1e45_ok : ∀ k, k < 0 → parseFieldDescriptor (TJxa1e45 k).2.2.1 = some (tyJxa1e45 k) := by decide +kernel
abbrev cJxa1e45_init_da8c8 : ByteArray := prog_14_method_1_code
def yJxa1e45_init_da8c8 : MethodName := ⟨RJxa1e45, "<init>", "()V"⟩
def RJxc12de : String := "java/util/AbstractList"
def TJxc12de : u_T := fun k => match k with
  | _ => ("", "", "", false)
def tyJxc12de : Nat → FieldType := fun k => match k with
  | _ => .int
theorem nmJxc12de : ∀ a, a < 0 → ∀ b, b < 0 → a ≠ b → (TJxc12de a).2.1 ≠ (TJxc12de b).2.1 := by decide +kernel
theorem tyJxc12de_ok : ∀ k, k < 0 → parseFieldDescriptor (TJxc12de k).2.2.1 = some (tyJxc12de k) := by decide +kernel
abbrev cJxc12de_init_da8c8 : ByteArray := prog_15_method_1_code
def yJxc12de_init_da8c8 : MethodName := ⟨RJxc12de, "<init>", "()V"⟩
def RJx4a65c : String := "java/util/ArrayList"
def TJx4a65c : u_T := fun k => match k with
  | 0 => ("java/util/AbstractList", "modCount", "I", false)
  | 1 => ("java/util/ArrayList", "elementData", "[Ljava/lang/Object;", false)
  | _ => ("java/util/ArrayList", "size", "I", false)
def tyJx4a65c : Nat → FieldType := fun k => match k with
  | 0 => .int
  | 1 => .array (.object "java/lang/Object")
  | _ => .int
theorem nmJx4a65c : ∀ a, a < 3 → ∀ b, b < 3 → a ≠ b → (TJx4a65c a).2.1 ≠ (TJx4a65c b).2.1 := by decide +kernel
theorem tyJx4a65c_ok : ∀ k, k < 3 → parseFieldDescriptor (TJx4a65c k).2.2.1 = some (tyJx4a65c k) := by decide +kernel
abbrev cJx4a65c_init_da8c8 : ByteArray := prog_16_method_2_code
def yJx4a65c_init_da8c8 : MethodName := ⟨RJx4a65c, "<init>", "()V"⟩
abbrev cJx4a65c_grow_92f84 : ByteArray := prog_16_method_6_code
def yJx4a65c_grow_92f84 : MethodName := ⟨RJx4a65c, "grow", "(I)[Ljava/lang/Object;"⟩
abbrev cJx4a65c_grow_d5877 : ByteArray := prog_16_method_7_code
def yJx4a65c_grow_d5877 : MethodName := ⟨RJx4a65c, "grow", "()[Ljava/lang/Object;"⟩
abbrev cJx4a65c_size_8abf5 : ByteArray := prog_16_method_8_code
def yJx4a65c_size_8abf5 : MethodName := ⟨RJx4a65c, "size", "()I"⟩
abbrev cJx4a65c_elementData_915e3 : ByteArray := prog_16_method_18_code
def yJx4a65c_elementData_915e3 : MethodName := ⟨RJx4a65c, "elementData", "(I)Ljava/lang/Object;"⟩
abbrev cJx4a65c_get_915e3 : ByteArray := prog_16_method_20_code
def yJx4a65c_get_915e3 : MethodName := ⟨RJx4a65c, "get", "(I)Ljava/lang/Object;"⟩
abbrev cJx4a65c_add_72be8 : ByteArray := prog_16_method_24_code
def yJx4a65c_add_72be8 : MethodName := ⟨RJx4a65c, "add", "(Ljava/lang/Object;[Ljava/lang/Object;I)V"⟩
abbrev cJx4a65c_add_9ea2d : ByteArray := prog_16_method_25_code
def yJx4a65c_add_9ea2d : MethodName := ⟨RJx4a65c, "add", "(Ljava/lang/Object;)Z"⟩
def RJ7 : String := "java/util/Arrays"
def TJ7 : u_T := fun k => match k with
  | _ => ("", "", "", false)
def tyJ7 : Nat → FieldType := fun k => match k with
  | _ => .int
theorem nmJ7 : ∀ a, a < 0 → ∀ b, b < 0 → a ≠ b → (TJ7 a).2.1 ≠ (TJ7 b).2.1 := by decide +kernel
theorem tyJ7_ok : ∀ k, k < 0 → parseFieldDescriptor (TJ7 k).2.2.1 = some (tyJ7 k) := by decide +kernel
abbrev cJ7_copyOf_1904c : ByteArray := prog_17_method_119_code
def yJ7_copyOf_1904c : MethodName := ⟨RJ7, "copyOf", "([Ljava/lang/Object;I)[Ljava/lang/Object;"⟩
abbrev cJ7_copyOf_6403c : ByteArray := prog_17_method_120_code
def yJ7_copyOf_6403c : MethodName := ⟨RJ7, "copyOf", "([Ljava/lang/Object;ILjava/lang/Class;)[Ljava/lang/Object;"⟩
def RJ15 : String := "java/util/Objects"
def TJ15 : u_T := fun k => match k with
  | _ => ("", "", "", false)
def tyJ15 : Nat → FieldType := fun k => match k with
  | _ => .int
theorem nmJ15 : ∀ a, a < 0 → ∀ b, b < 0 → a ≠ b → (TJ15 a).2.1 ≠ (TJ15 b).2.1 := by decide +kernel
theorem tyJ15_ok : ∀ k, k < 0 → parseFieldDescriptor (TJ15 k).2.2.1 = some (tyJ15 k) := by decide +kernel
abbrev cJ15_checkIndex_7cf53 : ByteArray := prog_20_method_17_code
def yJ15_checkIndex_7cf53 : MethodName := ⟨RJ15, "checkIndex", "(II)I"⟩
def RJ8 : String := "jdk/internal/util/ArraysSupport"
def TJ8 : u_T := fun k => match k with
  | _ => ("", "", "", false)
def tyJ8 : Nat → FieldType := fun k => match k with
  | _ => .int
theorem nmJ8 : ∀ a, a < 0 → ∀ b, b < 0 → a ≠ b → (TJ8 a).2.1 ≠ (TJ8 b).2.1 := by decide +kernel
theorem tyJ8_ok : ∀ k, k < 0 → parseFieldDescriptor (TJ8 k).2.2.1 = some (tyJ8 k) := by decide +kernel
abbrev cJ8_newLength_cabcc : ByteArray := prog_23_method_27_code
def yJ8_newLength_cabcc : MethodName := ⟨RJ8, "newLength", "(III)I"⟩
abbrev cJ8_hugeLength_7cf53 : ByteArray := prog_23_method_28_code
def yJ8_hugeLength_7cf53 : MethodName := ⟨RJ8, "hugeLength", "(II)I"⟩
def RJ3 : String := "jdk/internal/util/Preconditions"
def TJ3 : u_T := fun k => match k with
  | _ => ("", "", "", false)
def tyJ3 : Nat → FieldType := fun k => match k with
  | _ => .int
theorem nmJ3 : ∀ a, a < 0 → ∀ b, b < 0 → a ≠ b → (TJ3 a).2.1 ≠ (TJ3 b).2.1 := by decide +kernel
theorem tyJ3_ok : ∀ k, k < 0 → parseFieldDescriptor (TJ3 k).2.2.1 = some (tyJ3 k) := by decide +kernel
abbrev cJ3_checkIndex_8e157 : ByteArray := prog_24_method_11_code
def yJ3_checkIndex_8e157 : MethodName := ⟨RJ3, "checkIndex", "(IILjava/util/function/BiFunction;)I"⟩
def RL : String := "OneCallLaw"
abbrev cL_law : ByteArray := code
def yL_law : MethodName := ⟨RL, "law", "([I)Z"⟩
abbrev vwCl : List vw_C := [(RJx4a65c, TJx4a65c, 3), (RX0, TX0, 3), (RX1, TX1, 9), (RX2, TX2, 6), (RX3, TX3, 10), (RX4, TX4, 25)]
end
section
theorem dJ6_highestOneBit_0f7a4_0 : decode cJ6_highestOneBit_0f7a4 0 = .ok (.iload_n 0, 1) := by decide +kernel
theorem dJ6_highestOneBit_0f7a4_1 : decode cJ6_highestOneBit_0f7a4 1 = .ok (.ldc 127, 2) := by decide +kernel
theorem dJ6_highestOneBit_0f7a4_3 : decode cJ6_highestOneBit_0f7a4 3 = .ok (.iload_n 0, 1) := by decide +kernel
theorem dJ6_highestOneBit_0f7a4_4 : decode cJ6_highestOneBit_0f7a4 4 = .ok (.invokestatic 51, 3) := by decide +kernel
theorem dJ6_highestOneBit_0f7a4_7 : decode cJ6_highestOneBit_0f7a4 7 = .ok (.iushr, 1) := by decide +kernel
theorem dJ6_highestOneBit_0f7a4_8 : decode cJ6_highestOneBit_0f7a4 8 = .ok (.iand, 1) := by decide +kernel
theorem dJ6_highestOneBit_0f7a4_9 : decode cJ6_highestOneBit_0f7a4 9 = .ok (.ireturn, 1) := by decide +kernel
theorem dJ6_lowestOneBit_0f7a4_0 : decode cJ6_lowestOneBit_0f7a4 0 = .ok (.iload_n 0, 1) := by decide +kernel
theorem dJ6_lowestOneBit_0f7a4_1 : decode cJ6_lowestOneBit_0f7a4 1 = .ok (.iload_n 0, 1) := by decide +kernel
theorem dJ6_lowestOneBit_0f7a4_2 : decode cJ6_lowestOneBit_0f7a4 2 = .ok (.ineg, 1) := by decide +kernel
theorem dJ6_lowestOneBit_0f7a4_3 : decode cJ6_lowestOneBit_0f7a4 3 = .ok (.iand, 1) := by decide +kernel
theorem dJ6_lowestOneBit_0f7a4_4 : decode cJ6_lowestOneBit_0f7a4 4 = .ok (.ireturn, 1) := by decide +kernel
theorem dJ6_numberOfLeadingZeros_0f7a4_0 : decode cJ6_numberOfLeadingZeros_0f7a4 0 = .ok (.iload_n 0, 1) := by decide +kernel
theorem dJ6_numberOfLeadingZeros_0f7a4_1 : decode cJ6_numberOfLeadingZeros_0f7a4 1 = .ok (.ifCond .gt 14, 3) := by decide +kernel
theorem dJ6_numberOfLeadingZeros_0f7a4_4 : decode cJ6_numberOfLeadingZeros_0f7a4 4 = .ok (.iload_n 0, 1) := by decide +kernel
theorem dJ6_numberOfLeadingZeros_0f7a4_5 : decode cJ6_numberOfLeadingZeros_0f7a4 5 = .ok (.ifCond .ne 8, 3) := by decide +kernel
theorem dJ6_numberOfLeadingZeros_0f7a4_8 : decode cJ6_numberOfLeadingZeros_0f7a4 8 = .ok (.bipush 32, 2) := by decide +kernel
theorem dJ6_numberOfLeadingZeros_0f7a4_10 : decode cJ6_numberOfLeadingZeros_0f7a4 10 = .ok (.goto 4, 3) := by decide +kernel
theorem dJ6_numberOfLeadingZeros_0f7a4_13 : decode cJ6_numberOfLeadingZeros_0f7a4 13 = .ok (.iconst 0, 1) := by decide +kernel
theorem dJ6_numberOfLeadingZeros_0f7a4_14 : decode cJ6_numberOfLeadingZeros_0f7a4 14 = .ok (.ireturn, 1) := by decide +kernel
theorem dJ6_numberOfLeadingZeros_0f7a4_15 : decode cJ6_numberOfLeadingZeros_0f7a4 15 = .ok (.bipush 31, 2) := by decide +kernel
theorem dJ6_numberOfLeadingZeros_0f7a4_17 : decode cJ6_numberOfLeadingZeros_0f7a4 17 = .ok (.istore_n 1, 1) := by decide +kernel
theorem dJ6_numberOfLeadingZeros_0f7a4_18 : decode cJ6_numberOfLeadingZeros_0f7a4 18 = .ok (.iload_n 0, 1) := by decide +kernel
theorem dJ6_numberOfLeadingZeros_0f7a4_19 : decode cJ6_numberOfLeadingZeros_0f7a4 19 = .ok (.ldc_w 264, 3) := by decide +kernel
theorem dJ6_numberOfLeadingZeros_0f7a4_22 : decode cJ6_numberOfLeadingZeros_0f7a4 22 = .ok (.if_icmp .lt 11, 3) := by decide +kernel
theorem dJ6_numberOfLeadingZeros_0f7a4_25 : decode cJ6_numberOfLeadingZeros_0f7a4 25 = .ok (.iinc 1 (-16), 3) := by decide +kernel
theorem dJ6_numberOfLeadingZeros_0f7a4_28 : decode cJ6_numberOfLeadingZeros_0f7a4 28 = .ok (.iload_n 0, 1) := by decide +kernel
theorem dJ6_numberOfLeadingZeros_0f7a4_29 : decode cJ6_numberOfLeadingZeros_0f7a4 29 = .ok (.bipush 16, 2) := by decide +kernel
theorem dJ6_numberOfLeadingZeros_0f7a4_31 : decode cJ6_numberOfLeadingZeros_0f7a4 31 = .ok (.iushr, 1) := by decide +kernel
theorem dJ6_numberOfLeadingZeros_0f7a4_32 : decode cJ6_numberOfLeadingZeros_0f7a4 32 = .ok (.istore_n 0, 1) := by decide +kernel
theorem dJ6_numberOfLeadingZeros_0f7a4_33 : decode cJ6_numberOfLeadingZeros_0f7a4 33 = .ok (.iload_n 0, 1) := by decide +kernel
theorem dJ6_numberOfLeadingZeros_0f7a4_34 : decode cJ6_numberOfLeadingZeros_0f7a4 34 = .ok (.sipush 256, 3) := by decide +kernel
theorem dJ6_numberOfLeadingZeros_0f7a4_37 : decode cJ6_numberOfLeadingZeros_0f7a4 37 = .ok (.if_icmp .lt 11, 3) := by decide +kernel
theorem dJ6_numberOfLeadingZeros_0f7a4_40 : decode cJ6_numberOfLeadingZeros_0f7a4 40 = .ok (.iinc 1 (-8), 3) := by decide +kernel
theorem dJ6_numberOfLeadingZeros_0f7a4_43 : decode cJ6_numberOfLeadingZeros_0f7a4 43 = .ok (.iload_n 0, 1) := by decide +kernel
theorem dJ6_numberOfLeadingZeros_0f7a4_44 : decode cJ6_numberOfLeadingZeros_0f7a4 44 = .ok (.bipush 8, 2) := by decide +kernel
theorem dJ6_numberOfLeadingZeros_0f7a4_46 : decode cJ6_numberOfLeadingZeros_0f7a4 46 = .ok (.iushr, 1) := by decide +kernel
theorem dJ6_numberOfLeadingZeros_0f7a4_47 : decode cJ6_numberOfLeadingZeros_0f7a4 47 = .ok (.istore_n 0, 1) := by decide +kernel
theorem dJ6_numberOfLeadingZeros_0f7a4_48 : decode cJ6_numberOfLeadingZeros_0f7a4 48 = .ok (.iload_n 0, 1) := by decide +kernel
theorem dJ6_numberOfLeadingZeros_0f7a4_49 : decode cJ6_numberOfLeadingZeros_0f7a4 49 = .ok (.bipush 16, 2) := by decide +kernel
theorem dJ6_numberOfLeadingZeros_0f7a4_51 : decode cJ6_numberOfLeadingZeros_0f7a4 51 = .ok (.if_icmp .lt 10, 3) := by decide +kernel
theorem dJ6_numberOfLeadingZeros_0f7a4_54 : decode cJ6_numberOfLeadingZeros_0f7a4 54 = .ok (.iinc 1 (-4), 3) := by decide +kernel
theorem dJ6_numberOfLeadingZeros_0f7a4_57 : decode cJ6_numberOfLeadingZeros_0f7a4 57 = .ok (.iload_n 0, 1) := by decide +kernel
theorem dJ6_numberOfLeadingZeros_0f7a4_58 : decode cJ6_numberOfLeadingZeros_0f7a4 58 = .ok (.iconst 4, 1) := by decide +kernel
theorem dJ6_numberOfLeadingZeros_0f7a4_59 : decode cJ6_numberOfLeadingZeros_0f7a4 59 = .ok (.iushr, 1) := by decide +kernel
theorem dJ6_numberOfLeadingZeros_0f7a4_60 : decode cJ6_numberOfLeadingZeros_0f7a4 60 = .ok (.istore_n 0, 1) := by decide +kernel
theorem dJ6_numberOfLeadingZeros_0f7a4_61 : decode cJ6_numberOfLeadingZeros_0f7a4 61 = .ok (.iload_n 0, 1) := by decide +kernel
theorem dJ6_numberOfLeadingZeros_0f7a4_62 : decode cJ6_numberOfLeadingZeros_0f7a4 62 = .ok (.iconst 4, 1) := by decide +kernel
theorem dJ6_numberOfLeadingZeros_0f7a4_63 : decode cJ6_numberOfLeadingZeros_0f7a4 63 = .ok (.if_icmp .lt 10, 3) := by decide +kernel
theorem dJ6_numberOfLeadingZeros_0f7a4_66 : decode cJ6_numberOfLeadingZeros_0f7a4 66 = .ok (.iinc 1 (-2), 3) := by decide +kernel
theorem dJ6_numberOfLeadingZeros_0f7a4_69 : decode cJ6_numberOfLeadingZeros_0f7a4 69 = .ok (.iload_n 0, 1) := by decide +kernel
theorem dJ6_numberOfLeadingZeros_0f7a4_70 : decode cJ6_numberOfLeadingZeros_0f7a4 70 = .ok (.iconst 2, 1) := by decide +kernel
theorem dJ6_numberOfLeadingZeros_0f7a4_71 : decode cJ6_numberOfLeadingZeros_0f7a4 71 = .ok (.iushr, 1) := by decide +kernel
theorem dJ6_numberOfLeadingZeros_0f7a4_72 : decode cJ6_numberOfLeadingZeros_0f7a4 72 = .ok (.istore_n 0, 1) := by decide +kernel
theorem dJ6_numberOfLeadingZeros_0f7a4_73 : decode cJ6_numberOfLeadingZeros_0f7a4 73 = .ok (.iload_n 1, 1) := by decide +kernel
theorem dJ6_numberOfLeadingZeros_0f7a4_74 : decode cJ6_numberOfLeadingZeros_0f7a4 74 = .ok (.iload_n 0, 1) := by decide +kernel
theorem dJ6_numberOfLeadingZeros_0f7a4_75 : decode cJ6_numberOfLeadingZeros_0f7a4 75 = .ok (.iconst 1, 1) := by decide +kernel
theorem dJ6_numberOfLeadingZeros_0f7a4_76 : decode cJ6_numberOfLeadingZeros_0f7a4 76 = .ok (.iushr, 1) := by decide +kernel
theorem dJ6_numberOfLeadingZeros_0f7a4_77 : decode cJ6_numberOfLeadingZeros_0f7a4 77 = .ok (.isub, 1) := by decide +kernel
theorem dJ6_numberOfLeadingZeros_0f7a4_78 : decode cJ6_numberOfLeadingZeros_0f7a4 78 = .ok (.ireturn, 1) := by decide +kernel
theorem dJ6_numberOfTrailingZeros_0f7a4_0 : decode cJ6_numberOfTrailingZeros_0f7a4 0 = .ok (.iload_n 0, 1) := by decide +kernel
theorem dJ6_numberOfTrailingZeros_0f7a4_1 : decode cJ6_numberOfTrailingZeros_0f7a4 1 = .ok (.iconst (-1), 1) := by decide +kernel
theorem dJ6_numberOfTrailingZeros_0f7a4_2 : decode cJ6_numberOfTrailingZeros_0f7a4 2 = .ok (.ixor, 1) := by decide +kernel
theorem dJ6_numberOfTrailingZeros_0f7a4_3 : decode cJ6_numberOfTrailingZeros_0f7a4 3 = .ok (.iload_n 0, 1) := by decide +kernel
theorem dJ6_numberOfTrailingZeros_0f7a4_4 : decode cJ6_numberOfTrailingZeros_0f7a4 4 = .ok (.iconst 1, 1) := by decide +kernel
theorem dJ6_numberOfTrailingZeros_0f7a4_5 : decode cJ6_numberOfTrailingZeros_0f7a4 5 = .ok (.isub, 1) := by decide +kernel
theorem dJ6_numberOfTrailingZeros_0f7a4_6 : decode cJ6_numberOfTrailingZeros_0f7a4 6 = .ok (.iand, 1) := by decide +kernel
theorem dJ6_numberOfTrailingZeros_0f7a4_7 : decode cJ6_numberOfTrailingZeros_0f7a4 7 = .ok (.istore_n 0, 1) := by decide +kernel
theorem dJ6_numberOfTrailingZeros_0f7a4_8 : decode cJ6_numberOfTrailingZeros_0f7a4 8 = .ok (.iload_n 0, 1) := by decide +kernel
theorem dJ6_numberOfTrailingZeros_0f7a4_9 : decode cJ6_numberOfTrailingZeros_0f7a4 9 = .ok (.ifCond .gt 8, 3) := by decide +kernel
theorem dJ6_numberOfTrailingZeros_0f7a4_12 : decode cJ6_numberOfTrailingZeros_0f7a4 12 = .ok (.iload_n 0, 1) := by decide +kernel
theorem dJ6_numberOfTrailingZeros_0f7a4_13 : decode cJ6_numberOfTrailingZeros_0f7a4 13 = .ok (.bipush 32, 2) := by decide +kernel
theorem dJ6_numberOfTrailingZeros_0f7a4_15 : decode cJ6_numberOfTrailingZeros_0f7a4 15 = .ok (.iand, 1) := by decide +kernel
theorem dJ6_numberOfTrailingZeros_0f7a4_16 : decode cJ6_numberOfTrailingZeros_0f7a4 16 = .ok (.ireturn, 1) := by decide +kernel
theorem dJ6_numberOfTrailingZeros_0f7a4_17 : decode cJ6_numberOfTrailingZeros_0f7a4 17 = .ok (.iconst 1, 1) := by decide +kernel
theorem dJ6_numberOfTrailingZeros_0f7a4_18 : decode cJ6_numberOfTrailingZeros_0f7a4 18 = .ok (.istore_n 1, 1) := by decide +kernel
theorem dJ6_numberOfTrailingZeros_0f7a4_19 : decode cJ6_numberOfTrailingZeros_0f7a4 19 = .ok (.iload_n 0, 1) := by decide +kernel
theorem dJ6_numberOfTrailingZeros_0f7a4_20 : decode cJ6_numberOfTrailingZeros_0f7a4 20 = .ok (.ldc_w 264, 3) := by decide +kernel
theorem dJ6_numberOfTrailingZeros_0f7a4_23 : decode cJ6_numberOfTrailingZeros_0f7a4 23 = .ok (.if_icmp .le 11, 3) := by decide +kernel
theorem dJ6_numberOfTrailingZeros_0f7a4_26 : decode cJ6_numberOfTrailingZeros_0f7a4 26 = .ok (.iinc 1 16, 3) := by decide +kernel
theorem dJ6_numberOfTrailingZeros_0f7a4_29 : decode cJ6_numberOfTrailingZeros_0f7a4 29 = .ok (.iload_n 0, 1) := by decide +kernel
theorem dJ6_numberOfTrailingZeros_0f7a4_30 : decode cJ6_numberOfTrailingZeros_0f7a4 30 = .ok (.bipush 16, 2) := by decide +kernel
theorem dJ6_numberOfTrailingZeros_0f7a4_32 : decode cJ6_numberOfTrailingZeros_0f7a4 32 = .ok (.iushr, 1) := by decide +kernel
theorem dJ6_numberOfTrailingZeros_0f7a4_33 : decode cJ6_numberOfTrailingZeros_0f7a4 33 = .ok (.istore_n 0, 1) := by decide +kernel
theorem dJ6_numberOfTrailingZeros_0f7a4_34 : decode cJ6_numberOfTrailingZeros_0f7a4 34 = .ok (.iload_n 0, 1) := by decide +kernel
theorem dJ6_numberOfTrailingZeros_0f7a4_35 : decode cJ6_numberOfTrailingZeros_0f7a4 35 = .ok (.sipush 256, 3) := by decide +kernel
theorem dJ6_numberOfTrailingZeros_0f7a4_38 : decode cJ6_numberOfTrailingZeros_0f7a4 38 = .ok (.if_icmp .le 11, 3) := by decide +kernel
theorem dJ6_numberOfTrailingZeros_0f7a4_41 : decode cJ6_numberOfTrailingZeros_0f7a4 41 = .ok (.iinc 1 8, 3) := by decide +kernel
theorem dJ6_numberOfTrailingZeros_0f7a4_44 : decode cJ6_numberOfTrailingZeros_0f7a4 44 = .ok (.iload_n 0, 1) := by decide +kernel
theorem dJ6_numberOfTrailingZeros_0f7a4_45 : decode cJ6_numberOfTrailingZeros_0f7a4 45 = .ok (.bipush 8, 2) := by decide +kernel
theorem dJ6_numberOfTrailingZeros_0f7a4_47 : decode cJ6_numberOfTrailingZeros_0f7a4 47 = .ok (.iushr, 1) := by decide +kernel
theorem dJ6_numberOfTrailingZeros_0f7a4_48 : decode cJ6_numberOfTrailingZeros_0f7a4 48 = .ok (.istore_n 0, 1) := by decide +kernel
theorem dJ6_numberOfTrailingZeros_0f7a4_49 : decode cJ6_numberOfTrailingZeros_0f7a4 49 = .ok (.iload_n 0, 1) := by decide +kernel
theorem dJ6_numberOfTrailingZeros_0f7a4_50 : decode cJ6_numberOfTrailingZeros_0f7a4 50 = .ok (.bipush 16, 2) := by decide +kernel
theorem dJ6_numberOfTrailingZeros_0f7a4_52 : decode cJ6_numberOfTrailingZeros_0f7a4 52 = .ok (.if_icmp .le 10, 3) := by decide +kernel
theorem dJ6_numberOfTrailingZeros_0f7a4_55 : decode cJ6_numberOfTrailingZeros_0f7a4 55 = .ok (.iinc 1 4, 3) := by decide +kernel
theorem dJ6_numberOfTrailingZeros_0f7a4_58 : decode cJ6_numberOfTrailingZeros_0f7a4 58 = .ok (.iload_n 0, 1) := by decide +kernel
theorem dJ6_numberOfTrailingZeros_0f7a4_59 : decode cJ6_numberOfTrailingZeros_0f7a4 59 = .ok (.iconst 4, 1) := by decide +kernel
theorem dJ6_numberOfTrailingZeros_0f7a4_60 : decode cJ6_numberOfTrailingZeros_0f7a4 60 = .ok (.iushr, 1) := by decide +kernel
theorem dJ6_numberOfTrailingZeros_0f7a4_61 : decode cJ6_numberOfTrailingZeros_0f7a4 61 = .ok (.istore_n 0, 1) := by decide +kernel
theorem dJ6_numberOfTrailingZeros_0f7a4_62 : decode cJ6_numberOfTrailingZeros_0f7a4 62 = .ok (.iload_n 0, 1) := by decide +kernel
theorem dJ6_numberOfTrailingZeros_0f7a4_63 : decode cJ6_numberOfTrailingZeros_0f7a4 63 = .ok (.iconst 4, 1) := by decide +kernel
theorem dJ6_numberOfTrailingZeros_0f7a4_64 : decode cJ6_numberOfTrailingZeros_0f7a4 64 = .ok (.if_icmp .le 10, 3) := by decide +kernel
theorem dJ6_numberOfTrailingZeros_0f7a4_67 : decode cJ6_numberOfTrailingZeros_0f7a4 67 = .ok (.iinc 1 2, 3) := by decide +kernel
theorem dJ6_numberOfTrailingZeros_0f7a4_70 : decode cJ6_numberOfTrailingZeros_0f7a4 70 = .ok (.iload_n 0, 1) := by decide +kernel
theorem dJ6_numberOfTrailingZeros_0f7a4_71 : decode cJ6_numberOfTrailingZeros_0f7a4 71 = .ok (.iconst 2, 1) := by decide +kernel
theorem dJ6_numberOfTrailingZeros_0f7a4_72 : decode cJ6_numberOfTrailingZeros_0f7a4 72 = .ok (.iushr, 1) := by decide +kernel
theorem dJ6_numberOfTrailingZeros_0f7a4_73 : decode cJ6_numberOfTrailingZeros_0f7a4 73 = .ok (.istore_n 0, 1) := by decide +kernel
theorem dJ6_numberOfTrailingZeros_0f7a4_74 : decode cJ6_numberOfTrailingZeros_0f7a4 74 = .ok (.iload_n 1, 1) := by decide +kernel
theorem dJ6_numberOfTrailingZeros_0f7a4_75 : decode cJ6_numberOfTrailingZeros_0f7a4 75 = .ok (.iload_n 0, 1) := by decide +kernel
theorem dJ6_numberOfTrailingZeros_0f7a4_76 : decode cJ6_numberOfTrailingZeros_0f7a4 76 = .ok (.iconst 1, 1) := by decide +kernel
theorem dJ6_numberOfTrailingZeros_0f7a4_77 : decode cJ6_numberOfTrailingZeros_0f7a4 77 = .ok (.iushr, 1) := by decide +kernel
theorem dJ6_numberOfTrailingZeros_0f7a4_78 : decode cJ6_numberOfTrailingZeros_0f7a4 78 = .ok (.iadd, 1) := by decide +kernel
theorem dJ6_numberOfTrailingZeros_0f7a4_79 : decode cJ6_numberOfTrailingZeros_0f7a4 79 = .ok (.ireturn, 1) := by decide +kernel
theorem dJ6_bitCount_0f7a4_0 : decode cJ6_bitCount_0f7a4 0 = .ok (.iload_n 0, 1) := by decide +kernel
theorem dJ6_bitCount_0f7a4_1 : decode cJ6_bitCount_0f7a4 1 = .ok (.iload_n 0, 1) := by decide +kernel
theorem dJ6_bitCount_0f7a4_2 : decode cJ6_bitCount_0f7a4 2 = .ok (.iconst 1, 1) := by decide +kernel
theorem dJ6_bitCount_0f7a4_3 : decode cJ6_bitCount_0f7a4 3 = .ok (.iushr, 1) := by decide +kernel
theorem dJ6_bitCount_0f7a4_4 : decode cJ6_bitCount_0f7a4 4 = .ok (.ldc_w 265, 3) := by decide +kernel
theorem dJ6_bitCount_0f7a4_7 : decode cJ6_bitCount_0f7a4 7 = .ok (.iand, 1) := by decide +kernel
theorem dJ6_bitCount_0f7a4_8 : decode cJ6_bitCount_0f7a4 8 = .ok (.isub, 1) := by decide +kernel
theorem dJ6_bitCount_0f7a4_9 : decode cJ6_bitCount_0f7a4 9 = .ok (.istore_n 0, 1) := by decide +kernel
theorem dJ6_bitCount_0f7a4_10 : decode cJ6_bitCount_0f7a4 10 = .ok (.iload_n 0, 1) := by decide +kernel
theorem dJ6_bitCount_0f7a4_11 : decode cJ6_bitCount_0f7a4 11 = .ok (.ldc_w 266, 3) := by decide +kernel
theorem dJ6_bitCount_0f7a4_14 : decode cJ6_bitCount_0f7a4 14 = .ok (.iand, 1) := by decide +kernel
theorem dJ6_bitCount_0f7a4_15 : decode cJ6_bitCount_0f7a4 15 = .ok (.iload_n 0, 1) := by decide +kernel
theorem dJ6_bitCount_0f7a4_16 : decode cJ6_bitCount_0f7a4 16 = .ok (.iconst 2, 1) := by decide +kernel
theorem dJ6_bitCount_0f7a4_17 : decode cJ6_bitCount_0f7a4 17 = .ok (.iushr, 1) := by decide +kernel
theorem dJ6_bitCount_0f7a4_18 : decode cJ6_bitCount_0f7a4 18 = .ok (.ldc_w 266, 3) := by decide +kernel
theorem dJ6_bitCount_0f7a4_21 : decode cJ6_bitCount_0f7a4 21 = .ok (.iand, 1) := by decide +kernel
theorem dJ6_bitCount_0f7a4_22 : decode cJ6_bitCount_0f7a4 22 = .ok (.iadd, 1) := by decide +kernel
theorem dJ6_bitCount_0f7a4_23 : decode cJ6_bitCount_0f7a4 23 = .ok (.istore_n 0, 1) := by decide +kernel
theorem dJ6_bitCount_0f7a4_24 : decode cJ6_bitCount_0f7a4 24 = .ok (.iload_n 0, 1) := by decide +kernel
theorem dJ6_bitCount_0f7a4_25 : decode cJ6_bitCount_0f7a4 25 = .ok (.iload_n 0, 1) := by decide +kernel
theorem dJ6_bitCount_0f7a4_26 : decode cJ6_bitCount_0f7a4 26 = .ok (.iconst 4, 1) := by decide +kernel
theorem dJ6_bitCount_0f7a4_27 : decode cJ6_bitCount_0f7a4 27 = .ok (.iushr, 1) := by decide +kernel
theorem dJ6_bitCount_0f7a4_28 : decode cJ6_bitCount_0f7a4 28 = .ok (.iadd, 1) := by decide +kernel
theorem dJ6_bitCount_0f7a4_29 : decode cJ6_bitCount_0f7a4 29 = .ok (.ldc_w 267, 3) := by decide +kernel
theorem dJ6_bitCount_0f7a4_32 : decode cJ6_bitCount_0f7a4 32 = .ok (.iand, 1) := by decide +kernel
theorem dJ6_bitCount_0f7a4_33 : decode cJ6_bitCount_0f7a4 33 = .ok (.istore_n 0, 1) := by decide +kernel
theorem dJ6_bitCount_0f7a4_34 : decode cJ6_bitCount_0f7a4 34 = .ok (.iload_n 0, 1) := by decide +kernel
theorem dJ6_bitCount_0f7a4_35 : decode cJ6_bitCount_0f7a4 35 = .ok (.iload_n 0, 1) := by decide +kernel
theorem dJ6_bitCount_0f7a4_36 : decode cJ6_bitCount_0f7a4 36 = .ok (.bipush 8, 2) := by decide +kernel
theorem dJ6_bitCount_0f7a4_38 : decode cJ6_bitCount_0f7a4 38 = .ok (.iushr, 1) := by decide +kernel
theorem dJ6_bitCount_0f7a4_39 : decode cJ6_bitCount_0f7a4 39 = .ok (.iadd, 1) := by decide +kernel
theorem dJ6_bitCount_0f7a4_40 : decode cJ6_bitCount_0f7a4 40 = .ok (.istore_n 0, 1) := by decide +kernel
theorem dJ6_bitCount_0f7a4_41 : decode cJ6_bitCount_0f7a4 41 = .ok (.iload_n 0, 1) := by decide +kernel
theorem dJ6_bitCount_0f7a4_42 : decode cJ6_bitCount_0f7a4 42 = .ok (.iload_n 0, 1) := by decide +kernel
theorem dJ6_bitCount_0f7a4_43 : decode cJ6_bitCount_0f7a4 43 = .ok (.bipush 16, 2) := by decide +kernel
theorem dJ6_bitCount_0f7a4_45 : decode cJ6_bitCount_0f7a4 45 = .ok (.iushr, 1) := by decide +kernel
theorem dJ6_bitCount_0f7a4_46 : decode cJ6_bitCount_0f7a4 46 = .ok (.iadd, 1) := by decide +kernel
theorem dJ6_bitCount_0f7a4_47 : decode cJ6_bitCount_0f7a4 47 = .ok (.istore_n 0, 1) := by decide +kernel
theorem dJ6_bitCount_0f7a4_48 : decode cJ6_bitCount_0f7a4 48 = .ok (.iload_n 0, 1) := by decide +kernel
theorem dJ6_bitCount_0f7a4_49 : decode cJ6_bitCount_0f7a4 49 = .ok (.bipush 63, 2) := by decide +kernel
theorem dJ6_bitCount_0f7a4_51 : decode cJ6_bitCount_0f7a4 51 = .ok (.iand, 1) := by decide +kernel
theorem dJ6_bitCount_0f7a4_52 : decode cJ6_bitCount_0f7a4 52 = .ok (.ireturn, 1) := by decide +kernel
theorem dJ9_max_7cf53_0 : decode cJ9_max_7cf53 0 = .ok (.iload_n 0, 1) := by decide +kernel
theorem dJ9_max_7cf53_1 : decode cJ9_max_7cf53 1 = .ok (.iload_n 1, 1) := by decide +kernel
theorem dJ9_max_7cf53_2 : decode cJ9_max_7cf53 2 = .ok (.if_icmp .lt 7, 3) := by decide +kernel
theorem dJ9_max_7cf53_5 : decode cJ9_max_7cf53 5 = .ok (.iload_n 0, 1) := by decide +kernel
theorem dJ9_max_7cf53_6 : decode cJ9_max_7cf53 6 = .ok (.goto 4, 3) := by decide +kernel
theorem dJ9_max_7cf53_9 : decode cJ9_max_7cf53 9 = .ok (.iload_n 1, 1) := by decide +kernel
theorem dJ9_max_7cf53_10 : decode cJ9_max_7cf53 10 = .ok (.ireturn, 1) := by decide +kernel
theorem dJ9_min_7cf53_0 : decode cJ9_min_7cf53 0 = .ok (.iload_n 0, 1) := by decide +kernel
theorem dJ9_min_7cf53_1 : decode cJ9_min_7cf53 1 = .ok (.iload_n 1, 1) := by decide +kernel
theorem dJ9_min_7cf53_2 : decode cJ9_min_7cf53 2 = .ok (.if_icmp .gt 7, 3) := by decide +kernel
theorem dJ9_min_7cf53_5 : decode cJ9_min_7cf53 5 = .ok (.iload_n 0, 1) := by decide +kernel
theorem dJ9_min_7cf53_6 : decode cJ9_min_7cf53 6 = .ok (.goto 4, 3) := by decide +kernel
theorem dJ9_min_7cf53_9 : decode cJ9_min_7cf53 9 = .ok (.iload_n 1, 1) := by decide +kernel
theorem dJ9_min_7cf53_10 : decode cJ9_min_7cf53 10 = .ok (.ireturn, 1) := by decide +kernel
theorem dJxa1e45_init_da8c8_0 : decode cJxa1e45_init_da8c8 0 = .ok (.aload_n 0, 1) := by decide +kernel
theorem dJxa1e45_init_da8c8_1 : decode cJxa1e45_init_da8c8 1 = .ok (.invokespecial 1, 3) := by decide +kernel
theorem dJxa1e45_init_da8c8_4 : decode cJxa1e45_init_da8c8 4 = .ok (.return_, 1) := by decide +kernel
theorem dJxc12de_init_da8c8_0 : decode cJxc12de_init_da8c8 0 = .ok (.aload_n 0, 1) := by decide +kernel
theorem dJxc12de_init_da8c8_1 : decode cJxc12de_init_da8c8 1 = .ok (.invokespecial 1, 3) := by decide +kernel
theorem dJxc12de_init_da8c8_4 : decode cJxc12de_init_da8c8 4 = .ok (.aload_n 0, 1) := by decide +kernel
theorem dJxc12de_init_da8c8_5 : decode cJxc12de_init_da8c8 5 = .ok (.iconst 0, 1) := by decide +kernel
theorem dJxc12de_init_da8c8_6 : decode cJxc12de_init_da8c8 6 = .ok (.putfield 7, 3) := by decide +kernel
theorem dJxc12de_init_da8c8_9 : decode cJxc12de_init_da8c8 9 = .ok (.return_, 1) := by decide +kernel
theorem dJx4a65c_init_da8c8_0 : decode cJx4a65c_init_da8c8 0 = .ok (.aload_n 0, 1) := by decide +kernel
theorem dJx4a65c_init_da8c8_1 : decode cJx4a65c_init_da8c8 1 = .ok (.invokespecial 1, 3) := by decide +kernel
theorem dJx4a65c_init_da8c8_4 : decode cJx4a65c_init_da8c8 4 = .ok (.aload_n 0, 1) := by decide +kernel
theorem dJx4a65c_init_da8c8_5 : decode cJx4a65c_init_da8c8 5 = .ok (.getstatic 39, 3) := by decide +kernel
theorem dJx4a65c_init_da8c8_8 : decode cJx4a65c_init_da8c8 8 = .ok (.putfield 9, 3) := by decide +kernel
theorem dJx4a65c_init_da8c8_11 : decode cJx4a65c_init_da8c8 11 = .ok (.return_, 1) := by decide +kernel
theorem dJx4a65c_grow_92f84_0 : decode cJx4a65c_grow_92f84 0 = .ok (.aload_n 0, 1) := by decide +kernel
theorem dJx4a65c_grow_92f84_1 : decode cJx4a65c_grow_92f84 1 = .ok (.getfield 9, 3) := by decide +kernel
theorem dJx4a65c_grow_92f84_4 : decode cJx4a65c_grow_92f84 4 = .ok (.arraylength, 1) := by decide +kernel
theorem dJx4a65c_grow_92f84_5 : decode cJx4a65c_grow_92f84 5 = .ok (.istore_n 2, 1) := by decide +kernel
theorem dJx4a65c_grow_92f84_6 : decode cJx4a65c_grow_92f84 6 = .ok (.iload_n 2, 1) := by decide +kernel
theorem dJx4a65c_grow_92f84_7 : decode cJx4a65c_grow_92f84 7 = .ok (.ifCond .gt 13, 3) := by decide +kernel
theorem dJx4a65c_grow_92f84_10 : decode cJx4a65c_grow_92f84 10 = .ok (.aload_n 0, 1) := by decide +kernel
theorem dJx4a65c_grow_92f84_11 : decode cJx4a65c_grow_92f84 11 = .ok (.getfield 9, 3) := by decide +kernel
theorem dJx4a65c_grow_92f84_14 : decode cJx4a65c_grow_92f84 14 = .ok (.getstatic 39, 3) := by decide +kernel
theorem dJx4a65c_grow_92f84_17 : decode cJx4a65c_grow_92f84 17 = .ok (.if_acmp .eq 28, 3) := by decide +kernel
theorem dJx4a65c_grow_92f84_20 : decode cJx4a65c_grow_92f84 20 = .ok (.iload_n 2, 1) := by decide +kernel
theorem dJx4a65c_grow_92f84_21 : decode cJx4a65c_grow_92f84 21 = .ok (.iload_n 1, 1) := by decide +kernel
theorem dJx4a65c_grow_92f84_22 : decode cJx4a65c_grow_92f84 22 = .ok (.iload_n 2, 1) := by decide +kernel
theorem dJx4a65c_grow_92f84_23 : decode cJx4a65c_grow_92f84 23 = .ok (.isub, 1) := by decide +kernel
theorem dJx4a65c_grow_92f84_24 : decode cJx4a65c_grow_92f84 24 = .ok (.iload_n 2, 1) := by decide +kernel
theorem dJx4a65c_grow_92f84_25 : decode cJx4a65c_grow_92f84 25 = .ok (.iconst 1, 1) := by decide +kernel
theorem dJx4a65c_grow_92f84_26 : decode cJx4a65c_grow_92f84 26 = .ok (.ishr, 1) := by decide +kernel
theorem dJx4a65c_grow_92f84_27 : decode cJx4a65c_grow_92f84 27 = .ok (.invokestatic 73, 3) := by decide +kernel
theorem dJx4a65c_grow_92f84_30 : decode cJx4a65c_grow_92f84 30 = .ok (.istore_n 3, 1) := by decide +kernel
theorem dJx4a65c_grow_92f84_31 : decode cJx4a65c_grow_92f84 31 = .ok (.aload_n 0, 1) := by decide +kernel
theorem dJx4a65c_grow_92f84_32 : decode cJx4a65c_grow_92f84 32 = .ok (.aload_n 0, 1) := by decide +kernel
theorem dJx4a65c_grow_92f84_33 : decode cJx4a65c_grow_92f84 33 = .ok (.getfield 9, 3) := by decide +kernel
theorem dJx4a65c_grow_92f84_36 : decode cJx4a65c_grow_92f84 36 = .ok (.iload_n 3, 1) := by decide +kernel
theorem dJx4a65c_grow_92f84_37 : decode cJx4a65c_grow_92f84 37 = .ok (.invokestatic 66, 3) := by decide +kernel
theorem dJx4a65c_grow_92f84_40 : decode cJx4a65c_grow_92f84 40 = .ok (.dup_x1, 1) := by decide +kernel
theorem dJx4a65c_grow_92f84_41 : decode cJx4a65c_grow_92f84 41 = .ok (.putfield 9, 3) := by decide +kernel
theorem dJx4a65c_grow_92f84_44 : decode cJx4a65c_grow_92f84 44 = .ok (.areturn, 1) := by decide +kernel
theorem dJx4a65c_grow_92f84_45 : decode cJx4a65c_grow_92f84 45 = .ok (.aload_n 0, 1) := by decide +kernel
theorem dJx4a65c_grow_92f84_46 : decode cJx4a65c_grow_92f84 46 = .ok (.bipush 10, 2) := by decide +kernel
theorem dJx4a65c_grow_92f84_48 : decode cJx4a65c_grow_92f84 48 = .ok (.iload_n 1, 1) := by decide +kernel
theorem dJx4a65c_grow_92f84_49 : decode cJx4a65c_grow_92f84 49 = .ok (.invokestatic 79, 3) := by decide +kernel
theorem dJx4a65c_grow_92f84_52 : decode cJx4a65c_grow_92f84 52 = .ok (.anewarray 7, 3) := by decide +kernel
theorem dJx4a65c_grow_92f84_55 : decode cJx4a65c_grow_92f84 55 = .ok (.dup_x1, 1) := by decide +kernel
theorem dJx4a65c_grow_92f84_56 : decode cJx4a65c_grow_92f84 56 = .ok (.putfield 9, 3) := by decide +kernel
theorem dJx4a65c_grow_92f84_59 : decode cJx4a65c_grow_92f84 59 = .ok (.areturn, 1) := by decide +kernel
theorem dJx4a65c_grow_d5877_0 : decode cJx4a65c_grow_d5877 0 = .ok (.aload_n 0, 1) := by decide +kernel
theorem dJx4a65c_grow_d5877_1 : decode cJx4a65c_grow_d5877 1 = .ok (.aload_n 0, 1) := by decide +kernel
theorem dJx4a65c_grow_d5877_2 : decode cJx4a65c_grow_d5877 2 = .ok (.getfield 48, 3) := by decide +kernel
theorem dJx4a65c_grow_d5877_5 : decode cJx4a65c_grow_d5877 5 = .ok (.iconst 1, 1) := by decide +kernel
theorem dJx4a65c_grow_d5877_6 : decode cJx4a65c_grow_d5877 6 = .ok (.iadd, 1) := by decide +kernel
theorem dJx4a65c_grow_d5877_7 : decode cJx4a65c_grow_d5877 7 = .ok (.invokevirtual 69, 3) := by decide +kernel
theorem dJx4a65c_grow_d5877_10 : decode cJx4a65c_grow_d5877 10 = .ok (.areturn, 1) := by decide +kernel
theorem dJx4a65c_size_8abf5_0 : decode cJx4a65c_size_8abf5 0 = .ok (.aload_n 0, 1) := by decide +kernel
theorem dJx4a65c_size_8abf5_1 : decode cJx4a65c_size_8abf5 1 = .ok (.getfield 48, 3) := by decide +kernel
theorem dJx4a65c_size_8abf5_4 : decode cJx4a65c_size_8abf5 4 = .ok (.ireturn, 1) := by decide +kernel
theorem dJx4a65c_elementData_915e3_0 : decode cJx4a65c_elementData_915e3 0 = .ok (.aload_n 0, 1) := by decide +kernel
theorem dJx4a65c_elementData_915e3_1 : decode cJx4a65c_elementData_915e3 1 = .ok (.getfield 9, 3) := by decide +kernel
theorem dJx4a65c_elementData_915e3_4 : decode cJx4a65c_elementData_915e3 4 = .ok (.iload_n 1, 1) := by decide +kernel
theorem dJx4a65c_elementData_915e3_5 : decode cJx4a65c_elementData_915e3 5 = .ok (.aaload, 1) := by decide +kernel
theorem dJx4a65c_elementData_915e3_6 : decode cJx4a65c_elementData_915e3 6 = .ok (.areturn, 1) := by decide +kernel
theorem dJx4a65c_get_915e3_0 : decode cJx4a65c_get_915e3 0 = .ok (.iload_n 1, 1) := by decide +kernel
theorem dJx4a65c_get_915e3_1 : decode cJx4a65c_get_915e3 1 = .ok (.aload_n 0, 1) := by decide +kernel
theorem dJx4a65c_get_915e3_2 : decode cJx4a65c_get_915e3 2 = .ok (.getfield 48, 3) := by decide +kernel
theorem dJx4a65c_get_915e3_5 : decode cJx4a65c_get_915e3 5 = .ok (.invokestatic 118, 3) := by decide +kernel
theorem dJx4a65c_get_915e3_8 : decode cJx4a65c_get_915e3 8 = .ok (.pop, 1) := by decide +kernel
theorem dJx4a65c_get_915e3_9 : decode cJx4a65c_get_915e3 9 = .ok (.aload_n 0, 1) := by decide +kernel
theorem dJx4a65c_get_915e3_10 : decode cJx4a65c_get_915e3 10 = .ok (.iload_n 1, 1) := by decide +kernel
theorem dJx4a65c_get_915e3_11 : decode cJx4a65c_get_915e3 11 = .ok (.invokevirtual 123, 3) := by decide +kernel
theorem dJx4a65c_get_915e3_14 : decode cJx4a65c_get_915e3 14 = .ok (.areturn, 1) := by decide +kernel
theorem dJx4a65c_add_72be8_0 : decode cJx4a65c_add_72be8 0 = .ok (.iload_n 3, 1) := by decide +kernel
theorem dJx4a65c_add_72be8_1 : decode cJx4a65c_add_72be8 1 = .ok (.aload_n 2, 1) := by decide +kernel
theorem dJx4a65c_add_72be8_2 : decode cJx4a65c_add_72be8 2 = .ok (.arraylength, 1) := by decide +kernel
theorem dJx4a65c_add_72be8_3 : decode cJx4a65c_add_72be8 3 = .ok (.if_icmp .ne 8, 3) := by decide +kernel
theorem dJx4a65c_add_72be8_6 : decode cJx4a65c_add_72be8 6 = .ok (.aload_n 0, 1) := by decide +kernel
theorem dJx4a65c_add_72be8_7 : decode cJx4a65c_add_72be8 7 = .ok (.invokevirtual 129, 3) := by decide +kernel
theorem dJx4a65c_add_72be8_10 : decode cJx4a65c_add_72be8 10 = .ok (.astore_n 2, 1) := by decide +kernel
theorem dJx4a65c_add_72be8_11 : decode cJx4a65c_add_72be8 11 = .ok (.aload_n 2, 1) := by decide +kernel
theorem dJx4a65c_add_72be8_12 : decode cJx4a65c_add_72be8 12 = .ok (.iload_n 3, 1) := by decide +kernel
theorem dJx4a65c_add_72be8_13 : decode cJx4a65c_add_72be8 13 = .ok (.aload_n 1, 1) := by decide +kernel
theorem dJx4a65c_add_72be8_14 : decode cJx4a65c_add_72be8 14 = .ok (.aastore, 1) := by decide +kernel
theorem dJx4a65c_add_72be8_15 : decode cJx4a65c_add_72be8 15 = .ok (.aload_n 0, 1) := by decide +kernel
theorem dJx4a65c_add_72be8_16 : decode cJx4a65c_add_72be8 16 = .ok (.iload_n 3, 1) := by decide +kernel
theorem dJx4a65c_add_72be8_17 : decode cJx4a65c_add_72be8 17 = .ok (.iconst 1, 1) := by decide +kernel
theorem dJx4a65c_add_72be8_18 : decode cJx4a65c_add_72be8 18 = .ok (.iadd, 1) := by decide +kernel
theorem dJx4a65c_add_72be8_19 : decode cJx4a65c_add_72be8 19 = .ok (.putfield 48, 3) := by decide +kernel
theorem dJx4a65c_add_72be8_22 : decode cJx4a65c_add_72be8 22 = .ok (.return_, 1) := by decide +kernel
theorem dJx4a65c_add_9ea2d_0 : decode cJx4a65c_add_9ea2d 0 = .ok (.aload_n 0, 1) := by decide +kernel
theorem dJx4a65c_add_9ea2d_1 : decode cJx4a65c_add_9ea2d 1 = .ok (.dup, 1) := by decide +kernel
theorem dJx4a65c_add_9ea2d_2 : decode cJx4a65c_add_9ea2d 2 = .ok (.getfield 63, 3) := by decide +kernel
theorem dJx4a65c_add_9ea2d_5 : decode cJx4a65c_add_9ea2d 5 = .ok (.iconst 1, 1) := by decide +kernel
theorem dJx4a65c_add_9ea2d_6 : decode cJx4a65c_add_9ea2d 6 = .ok (.iadd, 1) := by decide +kernel
theorem dJx4a65c_add_9ea2d_7 : decode cJx4a65c_add_9ea2d 7 = .ok (.putfield 63, 3) := by decide +kernel
theorem dJx4a65c_add_9ea2d_10 : decode cJx4a65c_add_9ea2d 10 = .ok (.aload_n 0, 1) := by decide +kernel
theorem dJx4a65c_add_9ea2d_11 : decode cJx4a65c_add_9ea2d 11 = .ok (.aload_n 1, 1) := by decide +kernel
theorem dJx4a65c_add_9ea2d_12 : decode cJx4a65c_add_9ea2d 12 = .ok (.aload_n 0, 1) := by decide +kernel
theorem dJx4a65c_add_9ea2d_13 : decode cJx4a65c_add_9ea2d 13 = .ok (.getfield 9, 3) := by decide +kernel
theorem dJx4a65c_add_9ea2d_16 : decode cJx4a65c_add_9ea2d 16 = .ok (.aload_n 0, 1) := by decide +kernel
theorem dJx4a65c_add_9ea2d_17 : decode cJx4a65c_add_9ea2d 17 = .ok (.getfield 48, 3) := by decide +kernel
theorem dJx4a65c_add_9ea2d_20 : decode cJx4a65c_add_9ea2d 20 = .ok (.invokevirtual 131, 3) := by decide +kernel
theorem dJx4a65c_add_9ea2d_23 : decode cJx4a65c_add_9ea2d 23 = .ok (.iconst 1, 1) := by decide +kernel
theorem dJx4a65c_add_9ea2d_24 : decode cJx4a65c_add_9ea2d 24 = .ok (.ireturn, 1) := by decide +kernel
theorem dJ7_copyOf_1904c_0 : decode cJ7_copyOf_1904c 0 = .ok (.aload_n 0, 1) := by decide +kernel
theorem dJ7_copyOf_1904c_1 : decode cJ7_copyOf_1904c 1 = .ok (.iload_n 1, 1) := by decide +kernel
theorem dJ7_copyOf_1904c_2 : decode cJ7_copyOf_1904c 2 = .ok (.aload_n 0, 1) := by decide +kernel
theorem dJ7_copyOf_1904c_3 : decode cJ7_copyOf_1904c 3 = .ok (.invokevirtual 86, 3) := by decide +kernel
theorem dJ7_copyOf_1904c_6 : decode cJ7_copyOf_1904c 6 = .ok (.invokestatic 300, 3) := by decide +kernel
theorem dJ7_copyOf_1904c_9 : decode cJ7_copyOf_1904c 9 = .ok (.areturn, 1) := by decide +kernel
theorem dJ7_copyOf_6403c_0 : decode cJ7_copyOf_6403c 0 = .ok (.aload_n 2, 1) := by decide +kernel
theorem dJ7_copyOf_6403c_1 : decode cJ7_copyOf_6403c 1 = .ok (.ldc 110, 2) := by decide +kernel
theorem dJ7_copyOf_6403c_3 : decode cJ7_copyOf_6403c 3 = .ok (.if_acmp .ne 10, 3) := by decide +kernel
theorem dJ7_copyOf_6403c_6 : decode cJ7_copyOf_6403c 6 = .ok (.iload_n 1, 1) := by decide +kernel
theorem dJ7_copyOf_6403c_7 : decode cJ7_copyOf_6403c 7 = .ok (.anewarray 2, 3) := by decide +kernel
theorem dJ7_copyOf_6403c_10 : decode cJ7_copyOf_6403c 10 = .ok (.goto 14, 3) := by decide +kernel
theorem dJ7_copyOf_6403c_13 : decode cJ7_copyOf_6403c 13 = .ok (.aload_n 2, 1) := by decide +kernel
theorem dJ7_copyOf_6403c_14 : decode cJ7_copyOf_6403c 14 = .ok (.invokevirtual 90, 3) := by decide +kernel
theorem dJ7_copyOf_6403c_17 : decode cJ7_copyOf_6403c 17 = .ok (.iload_n 1, 1) := by decide +kernel
theorem dJ7_copyOf_6403c_18 : decode cJ7_copyOf_6403c 18 = .ok (.invokestatic 95, 3) := by decide +kernel
theorem dJ7_copyOf_6403c_21 : decode cJ7_copyOf_6403c 21 = .ok (.checkcast 110, 3) := by decide +kernel
theorem dJ7_copyOf_6403c_24 : decode cJ7_copyOf_6403c 24 = .ok (.astore_n 3, 1) := by decide +kernel
theorem dJ7_copyOf_6403c_25 : decode cJ7_copyOf_6403c 25 = .ok (.aload_n 0, 1) := by decide +kernel
theorem dJ7_copyOf_6403c_26 : decode cJ7_copyOf_6403c 26 = .ok (.iconst 0, 1) := by decide +kernel
theorem dJ7_copyOf_6403c_27 : decode cJ7_copyOf_6403c 27 = .ok (.aload_n 3, 1) := by decide +kernel
theorem dJ7_copyOf_6403c_28 : decode cJ7_copyOf_6403c 28 = .ok (.iconst 0, 1) := by decide +kernel
theorem dJ7_copyOf_6403c_29 : decode cJ7_copyOf_6403c 29 = .ok (.aload_n 0, 1) := by decide +kernel
theorem dJ7_copyOf_6403c_30 : decode cJ7_copyOf_6403c 30 = .ok (.arraylength, 1) := by decide +kernel
theorem dJ7_copyOf_6403c_31 : decode cJ7_copyOf_6403c 31 = .ok (.iload_n 1, 1) := by decide +kernel
theorem dJ7_copyOf_6403c_32 : decode cJ7_copyOf_6403c 32 = .ok (.invokestatic 304, 3) := by decide +kernel
theorem dJ7_copyOf_6403c_35 : decode cJ7_copyOf_6403c 35 = .ok (.invokestatic 150, 3) := by decide +kernel
theorem dJ7_copyOf_6403c_38 : decode cJ7_copyOf_6403c 38 = .ok (.aload_n 3, 1) := by decide +kernel
theorem dJ7_copyOf_6403c_39 : decode cJ7_copyOf_6403c 39 = .ok (.areturn, 1) := by decide +kernel
theorem dJ15_checkIndex_7cf53_0 : decode cJ15_checkIndex_7cf53 0 = .ok (.iload_n 0, 1) := by decide +kernel
theorem dJ15_checkIndex_7cf53_1 : decode cJ15_checkIndex_7cf53 1 = .ok (.iload_n 1, 1) := by decide +kernel
theorem dJ15_checkIndex_7cf53_2 : decode cJ15_checkIndex_7cf53 2 = .ok (.aconst_null, 1) := by decide +kernel
theorem dJ15_checkIndex_7cf53_3 : decode cJ15_checkIndex_7cf53 3 = .ok (.invokestatic 105, 3) := by decide +kernel
theorem dJ15_checkIndex_7cf53_6 : decode cJ15_checkIndex_7cf53 6 = .ok (.ireturn, 1) := by decide +kernel
theorem dJ8_newLength_cabcc_0 : decode cJ8_newLength_cabcc 0 = .ok (.iload_n 0, 1) := by decide +kernel
theorem dJ8_newLength_cabcc_1 : decode cJ8_newLength_cabcc 1 = .ok (.iload_n 1, 1) := by decide +kernel
theorem dJ8_newLength_cabcc_2 : decode cJ8_newLength_cabcc 2 = .ok (.iload_n 2, 1) := by decide +kernel
theorem dJ8_newLength_cabcc_3 : decode cJ8_newLength_cabcc 3 = .ok (.invokestatic 194, 3) := by decide +kernel
theorem dJ8_newLength_cabcc_6 : decode cJ8_newLength_cabcc 6 = .ok (.iadd, 1) := by decide +kernel
theorem dJ8_newLength_cabcc_7 : decode cJ8_newLength_cabcc 7 = .ok (.istore_n 3, 1) := by decide +kernel
theorem dJ8_newLength_cabcc_8 : decode cJ8_newLength_cabcc 8 = .ok (.iconst 0, 1) := by decide +kernel
theorem dJ8_newLength_cabcc_9 : decode cJ8_newLength_cabcc 9 = .ok (.iload_n 3, 1) := by decide +kernel
theorem dJ8_newLength_cabcc_10 : decode cJ8_newLength_cabcc 10 = .ok (.if_icmp .ge 11, 3) := by decide +kernel
theorem dJ8_newLength_cabcc_13 : decode cJ8_newLength_cabcc 13 = .ok (.iload_n 3, 1) := by decide +kernel
theorem dJ8_newLength_cabcc_14 : decode cJ8_newLength_cabcc 14 = .ok (.ldc 200, 2) := by decide +kernel
theorem dJ8_newLength_cabcc_16 : decode cJ8_newLength_cabcc 16 = .ok (.if_icmp .gt 5, 3) := by decide +kernel
theorem dJ8_newLength_cabcc_19 : decode cJ8_newLength_cabcc 19 = .ok (.iload_n 3, 1) := by decide +kernel
theorem dJ8_newLength_cabcc_20 : decode cJ8_newLength_cabcc 20 = .ok (.ireturn, 1) := by decide +kernel
theorem dJ8_newLength_cabcc_21 : decode cJ8_newLength_cabcc 21 = .ok (.iload_n 0, 1) := by decide +kernel
theorem dJ8_newLength_cabcc_22 : decode cJ8_newLength_cabcc 22 = .ok (.iload_n 1, 1) := by decide +kernel
theorem dJ8_newLength_cabcc_23 : decode cJ8_newLength_cabcc 23 = .ok (.invokestatic 201, 3) := by decide +kernel
theorem dJ8_newLength_cabcc_26 : decode cJ8_newLength_cabcc 26 = .ok (.ireturn, 1) := by decide +kernel
theorem dJ8_hugeLength_7cf53_0 : decode cJ8_hugeLength_7cf53 0 = .ok (.iload_n 0, 1) := by decide +kernel
theorem dJ8_hugeLength_7cf53_1 : decode cJ8_hugeLength_7cf53 1 = .ok (.iload_n 1, 1) := by decide +kernel
theorem dJ8_hugeLength_7cf53_2 : decode cJ8_hugeLength_7cf53 2 = .ok (.iadd, 1) := by decide +kernel
theorem dJ8_hugeLength_7cf53_3 : decode cJ8_hugeLength_7cf53 3 = .ok (.istore_n 2, 1) := by decide +kernel
theorem dJ8_hugeLength_7cf53_4 : decode cJ8_hugeLength_7cf53 4 = .ok (.iload_n 2, 1) := by decide +kernel
theorem dJ8_hugeLength_7cf53_5 : decode cJ8_hugeLength_7cf53 5 = .ok (.ifCond .ge 44, 3) := by decide +kernel
theorem dJ8_hugeLength_7cf53_8 : decode cJ8_hugeLength_7cf53 8 = .ok (.new 204, 3) := by decide +kernel
theorem dJ8_hugeLength_7cf53_11 : decode cJ8_hugeLength_7cf53 11 = .ok (.dup, 1) := by decide +kernel
theorem dJ8_hugeLength_7cf53_12 : decode cJ8_hugeLength_7cf53 12 = .ok (.new 89, 3) := by decide +kernel
theorem dJ8_hugeLength_7cf53_15 : decode cJ8_hugeLength_7cf53 15 = .ok (.dup, 1) := by decide +kernel
theorem dJ8_hugeLength_7cf53_16 : decode cJ8_hugeLength_7cf53 16 = .ok (.invokespecial 91, 3) := by decide +kernel
theorem dJ8_hugeLength_7cf53_19 : decode cJ8_hugeLength_7cf53 19 = .ok (.ldc 206, 2) := by decide +kernel
theorem dJ8_hugeLength_7cf53_21 : decode cJ8_hugeLength_7cf53 21 = .ok (.invokevirtual 94, 3) := by decide +kernel
theorem dJ8_hugeLength_7cf53_24 : decode cJ8_hugeLength_7cf53 24 = .ok (.iload_n 0, 1) := by decide +kernel
theorem dJ8_hugeLength_7cf53_25 : decode cJ8_hugeLength_7cf53 25 = .ok (.invokevirtual 98, 3) := by decide +kernel
theorem dJ8_hugeLength_7cf53_28 : decode cJ8_hugeLength_7cf53 28 = .ok (.ldc 208, 2) := by decide +kernel
theorem dJ8_hugeLength_7cf53_30 : decode cJ8_hugeLength_7cf53 30 = .ok (.invokevirtual 94, 3) := by decide +kernel
theorem dJ8_hugeLength_7cf53_33 : decode cJ8_hugeLength_7cf53 33 = .ok (.iload_n 1, 1) := by decide +kernel
theorem dJ8_hugeLength_7cf53_34 : decode cJ8_hugeLength_7cf53 34 = .ok (.invokevirtual 98, 3) := by decide +kernel
theorem dJ8_hugeLength_7cf53_37 : decode cJ8_hugeLength_7cf53 37 = .ok (.ldc 210, 2) := by decide +kernel
theorem dJ8_hugeLength_7cf53_39 : decode cJ8_hugeLength_7cf53 39 = .ok (.invokevirtual 94, 3) := by decide +kernel
theorem dJ8_hugeLength_7cf53_42 : decode cJ8_hugeLength_7cf53 42 = .ok (.invokevirtual 101, 3) := by decide +kernel
theorem dJ8_hugeLength_7cf53_45 : decode cJ8_hugeLength_7cf53 45 = .ok (.invokespecial 212, 3) := by decide +kernel
theorem dJ8_hugeLength_7cf53_48 : decode cJ8_hugeLength_7cf53 48 = .ok (.athrow, 1) := by decide +kernel
theorem dJ8_hugeLength_7cf53_49 : decode cJ8_hugeLength_7cf53 49 = .ok (.iload_n 2, 1) := by decide +kernel
theorem dJ8_hugeLength_7cf53_50 : decode cJ8_hugeLength_7cf53 50 = .ok (.ldc 200, 2) := by decide +kernel
theorem dJ8_hugeLength_7cf53_52 : decode cJ8_hugeLength_7cf53 52 = .ok (.if_icmp .gt 6, 3) := by decide +kernel
theorem dJ8_hugeLength_7cf53_55 : decode cJ8_hugeLength_7cf53 55 = .ok (.ldc 200, 2) := by decide +kernel
theorem dJ8_hugeLength_7cf53_57 : decode cJ8_hugeLength_7cf53 57 = .ok (.ireturn, 1) := by decide +kernel
theorem dJ8_hugeLength_7cf53_58 : decode cJ8_hugeLength_7cf53 58 = .ok (.iload_n 2, 1) := by decide +kernel
theorem dJ8_hugeLength_7cf53_59 : decode cJ8_hugeLength_7cf53 59 = .ok (.ireturn, 1) := by decide +kernel
theorem dJ3_checkIndex_8e157_0 : decode cJ3_checkIndex_8e157 0 = .ok (.iload_n 0, 1) := by decide +kernel
theorem dJ3_checkIndex_8e157_1 : decode cJ3_checkIndex_8e157 1 = .ok (.ifCond .lt 8, 3) := by decide +kernel
theorem dJ3_checkIndex_8e157_4 : decode cJ3_checkIndex_8e157 4 = .ok (.iload_n 0, 1) := by decide +kernel
theorem dJ3_checkIndex_8e157_5 : decode cJ3_checkIndex_8e157 5 = .ok (.iload_n 1, 1) := by decide +kernel
theorem dJ3_checkIndex_8e157_6 : decode cJ3_checkIndex_8e157 6 = .ok (.if_icmp .lt 10, 3) := by decide +kernel
theorem dJ3_checkIndex_8e157_9 : decode cJ3_checkIndex_8e157 9 = .ok (.aload_n 2, 1) := by decide +kernel
theorem dJ3_checkIndex_8e157_10 : decode cJ3_checkIndex_8e157 10 = .ok (.iload_n 0, 1) := by decide +kernel
theorem dJ3_checkIndex_8e157_11 : decode cJ3_checkIndex_8e157 11 = .ok (.iload_n 1, 1) := by decide +kernel
theorem dJ3_checkIndex_8e157_12 : decode cJ3_checkIndex_8e157 12 = .ok (.invokestatic 95, 3) := by decide +kernel
theorem dJ3_checkIndex_8e157_15 : decode cJ3_checkIndex_8e157 15 = .ok (.athrow, 1) := by decide +kernel
theorem dJ3_checkIndex_8e157_16 : decode cJ3_checkIndex_8e157 16 = .ok (.iload_n 0, 1) := by decide +kernel
theorem dJ3_checkIndex_8e157_17 : decode cJ3_checkIndex_8e157 17 = .ok (.ireturn, 1) := by decide +kernel
end
section
theorem dX0_init_0 : decode cX0_init 0 = .ok (.aload_n 0, 1) := by decide +kernel
theorem dX0_init_1 : decode cX0_init 1 = .ok (.invokespecial 3, 3) := by decide +kernel
theorem dX0_init_4 : decode cX0_init 4 = .ok (.aload_n 0, 1) := by decide +kernel
theorem dX0_init_5 : decode cX0_init 5 = .ok (.bipush 10, 2) := by decide +kernel
theorem dX0_init_7 : decode cX0_init 7 = .ok (.newarray .int, 2) := by decide +kernel
theorem dX0_init_9 : decode cX0_init 9 = .ok (.putfield 9, 3) := by decide +kernel
theorem dX0_init_12 : decode cX0_init 12 = .ok (.aload_n 0, 1) := by decide +kernel
theorem dX0_init_13 : decode cX0_init 13 = .ok (.bipush 10, 2) := by decide +kernel
theorem dX0_init_15 : decode cX0_init 15 = .ok (.newarray .long, 2) := by decide +kernel
theorem dX0_init_17 : decode cX0_init 17 = .ok (.putfield 15, 3) := by decide +kernel
theorem dX0_init_20 : decode cX0_init 20 = .ok (.iconst 0, 1) := by decide +kernel
theorem dX0_init_21 : decode cX0_init 21 = .ok (.istore_n 1, 1) := by decide +kernel
theorem dX0_init_22 : decode cX0_init 22 = .ok (.iload_n 1, 1) := by decide +kernel
theorem dX0_init_23 : decode cX0_init 23 = .ok (.bipush 10, 2) := by decide +kernel
theorem dX0_init_25 : decode cX0_init 25 = .ok (.if_icmp .ge 18, 3) := by decide +kernel
theorem dX0_init_28 : decode cX0_init 28 = .ok (.aload_n 0, 1) := by decide +kernel
theorem dX0_init_29 : decode cX0_init 29 = .ok (.getfield 9, 3) := by decide +kernel
theorem dX0_init_32 : decode cX0_init 32 = .ok (.iload_n 1, 1) := by decide +kernel
theorem dX0_init_33 : decode cX0_init 33 = .ok (.iconst 1, 1) := by decide +kernel
theorem dX0_init_34 : decode cX0_init 34 = .ok (.iload_n 1, 1) := by decide +kernel
theorem dX0_init_35 : decode cX0_init 35 = .ok (.ishl, 1) := by decide +kernel
theorem dX0_init_36 : decode cX0_init 36 = .ok (.iastore, 1) := by decide +kernel
theorem dX0_init_37 : decode cX0_init 37 = .ok (.iinc 1 1, 3) := by decide +kernel
theorem dX0_init_40 : decode cX0_init 40 = .ok (.goto (-18), 3) := by decide +kernel
theorem dX0_init_43 : decode cX0_init 43 = .ok (.return_, 1) := by decide +kernel
theorem dX0_become_0 : decode cX0_become 0 = .ok (.aload_n 1, 1) := by decide +kernel
theorem dX0_become_1 : decode cX0_become 1 = .ok (.getfield 9, 3) := by decide +kernel
theorem dX0_become_4 : decode cX0_become 4 = .ok (.iconst 0, 1) := by decide +kernel
theorem dX0_become_5 : decode cX0_become 5 = .ok (.aload_n 0, 1) := by decide +kernel
theorem dX0_become_6 : decode cX0_become 6 = .ok (.getfield 9, 3) := by decide +kernel
theorem dX0_become_9 : decode cX0_become 9 = .ok (.iconst 0, 1) := by decide +kernel
theorem dX0_become_10 : decode cX0_become 10 = .ok (.bipush 10, 2) := by decide +kernel
theorem dX0_become_12 : decode cX0_become 12 = .ok (.invokestatic 19, 3) := by decide +kernel
theorem dX0_become_15 : decode cX0_become 15 = .ok (.aload_n 1, 1) := by decide +kernel
theorem dX0_become_16 : decode cX0_become 16 = .ok (.getfield 15, 3) := by decide +kernel
theorem dX0_become_19 : decode cX0_become 19 = .ok (.iconst 0, 1) := by decide +kernel
theorem dX0_become_20 : decode cX0_become 20 = .ok (.aload_n 0, 1) := by decide +kernel
theorem dX0_become_21 : decode cX0_become 21 = .ok (.getfield 15, 3) := by decide +kernel
theorem dX0_become_24 : decode cX0_become 24 = .ok (.iconst 0, 1) := by decide +kernel
theorem dX0_become_25 : decode cX0_become 25 = .ok (.bipush 10, 2) := by decide +kernel
theorem dX0_become_27 : decode cX0_become 27 = .ok (.invokestatic 19, 3) := by decide +kernel
theorem dX0_become_30 : decode cX0_become 30 = .ok (.aload_n 0, 1) := by decide +kernel
theorem dX0_become_31 : decode cX0_become 31 = .ok (.aload_n 1, 1) := by decide +kernel
theorem dX0_become_32 : decode cX0_become 32 = .ok (.getfield 25, 3) := by decide +kernel
theorem dX0_become_35 : decode cX0_become 35 = .ok (.putfield 25, 3) := by decide +kernel
theorem dX0_become_38 : decode cX0_become 38 = .ok (.return_, 1) := by decide +kernel
theorem dX0_restOf_0 : decode cX0_restOf 0 = .ok (.iconst 0, 1) := by decide +kernel
theorem dX0_restOf_1 : decode cX0_restOf 1 = .ok (.istore_n 2, 1) := by decide +kernel
theorem dX0_restOf_2 : decode cX0_restOf 2 = .ok (.iconst 0, 1) := by decide +kernel
theorem dX0_restOf_3 : decode cX0_restOf 3 = .ok (.istore_n 3, 1) := by decide +kernel
theorem dX0_restOf_4 : decode cX0_restOf 4 = .ok (.iload_n 3, 1) := by decide +kernel
theorem dX0_restOf_5 : decode cX0_restOf 5 = .ok (.bipush 10, 2) := by decide +kernel
theorem dX0_restOf_7 : decode cX0_restOf 7 = .ok (.if_icmp .ge 26, 3) := by decide +kernel
theorem dX0_restOf_10 : decode cX0_restOf 10 = .ok (.iload_n 3, 1) := by decide +kernel
theorem dX0_restOf_11 : decode cX0_restOf 11 = .ok (.iload_n 1, 1) := by decide +kernel
theorem dX0_restOf_12 : decode cX0_restOf 12 = .ok (.invokestatic 29, 3) := by decide +kernel
theorem dX0_restOf_15 : decode cX0_restOf 15 = .ok (.ifCond .eq 12, 3) := by decide +kernel
theorem dX0_restOf_18 : decode cX0_restOf 18 = .ok (.iload_n 2, 1) := by decide +kernel
theorem dX0_restOf_19 : decode cX0_restOf 19 = .ok (.aload_n 0, 1) := by decide +kernel
theorem dX0_restOf_20 : decode cX0_restOf 20 = .ok (.getfield 9, 3) := by decide +kernel
theorem dX0_restOf_23 : decode cX0_restOf 23 = .ok (.iload_n 3, 1) := by decide +kernel
theorem dX0_restOf_24 : decode cX0_restOf 24 = .ok (.iaload, 1) := by decide +kernel
theorem dX0_restOf_25 : decode cX0_restOf 25 = .ok (.ixor, 1) := by decide +kernel
theorem dX0_restOf_26 : decode cX0_restOf 26 = .ok (.istore_n 2, 1) := by decide +kernel
theorem dX0_restOf_27 : decode cX0_restOf 27 = .ok (.iinc 3 1, 3) := by decide +kernel
theorem dX0_restOf_30 : decode cX0_restOf 30 = .ok (.goto (-26), 3) := by decide +kernel
theorem dX0_restOf_33 : decode cX0_restOf 33 = .ok (.iload_n 2, 1) := by decide +kernel
theorem dX0_restOf_34 : decode cX0_restOf 34 = .ok (.ireturn, 1) := by decide +kernel
theorem dX0_rowsOf_0 : decode cX0_rowsOf 0 = .ok (.lconst 0, 1) := by decide +kernel
theorem dX0_rowsOf_1 : decode cX0_rowsOf 1 = .ok (.lstore_n 2, 1) := by decide +kernel
theorem dX0_rowsOf_2 : decode cX0_rowsOf 2 = .ok (.iconst 0, 1) := by decide +kernel
theorem dX0_rowsOf_3 : decode cX0_rowsOf 3 = .ok (.istore 4, 2) := by decide +kernel
theorem dX0_rowsOf_5 : decode cX0_rowsOf 5 = .ok (.iload 4, 2) := by decide +kernel
theorem dX0_rowsOf_7 : decode cX0_rowsOf 7 = .ok (.bipush 10, 2) := by decide +kernel
theorem dX0_rowsOf_9 : decode cX0_rowsOf 9 = .ok (.if_icmp .ge 28, 3) := by decide +kernel
theorem dX0_rowsOf_12 : decode cX0_rowsOf 12 = .ok (.iload 4, 2) := by decide +kernel
theorem dX0_rowsOf_14 : decode cX0_rowsOf 14 = .ok (.iload_n 1, 1) := by decide +kernel
theorem dX0_rowsOf_15 : decode cX0_rowsOf 15 = .ok (.invokestatic 29, 3) := by decide +kernel
theorem dX0_rowsOf_18 : decode cX0_rowsOf 18 = .ok (.ifCond .eq 13, 3) := by decide +kernel
theorem dX0_rowsOf_21 : decode cX0_rowsOf 21 = .ok (.lload_n 2, 1) := by decide +kernel
theorem dX0_rowsOf_22 : decode cX0_rowsOf 22 = .ok (.aload_n 0, 1) := by decide +kernel
theorem dX0_rowsOf_23 : decode cX0_rowsOf 23 = .ok (.getfield 15, 3) := by decide +kernel
theorem dX0_rowsOf_26 : decode cX0_rowsOf 26 = .ok (.iload 4, 2) := by decide +kernel
theorem dX0_rowsOf_28 : decode cX0_rowsOf 28 = .ok (.laload, 1) := by decide +kernel
theorem dX0_rowsOf_29 : decode cX0_rowsOf 29 = .ok (.lxor, 1) := by decide +kernel
theorem dX0_rowsOf_30 : decode cX0_rowsOf 30 = .ok (.lstore_n 2, 1) := by decide +kernel
theorem dX0_rowsOf_31 : decode cX0_rowsOf 31 = .ok (.iinc 4 1, 3) := by decide +kernel
theorem dX0_rowsOf_34 : decode cX0_rowsOf 34 = .ok (.goto (-29), 3) := by decide +kernel
theorem dX0_rowsOf_37 : decode cX0_rowsOf 37 = .ok (.lload_n 2, 1) := by decide +kernel
theorem dX0_rowsOf_38 : decode cX0_rowsOf 38 = .ok (.lreturn, 1) := by decide +kernel
theorem dX0_learn_0 : decode cX0_learn 0 = .ok (.aload_n 0, 1) := by decide +kernel
theorem dX0_learn_1 : decode cX0_learn 1 = .ok (.iload_n 1, 1) := by decide +kernel
theorem dX0_learn_2 : decode cX0_learn 2 = .ok (.invokevirtual 33, 3) := by decide +kernel
theorem dX0_learn_5 : decode cX0_learn 5 = .ok (.istore 4, 2) := by decide +kernel
theorem dX0_learn_7 : decode cX0_learn 7 = .ok (.iload 4, 2) := by decide +kernel
theorem dX0_learn_9 : decode cX0_learn 9 = .ok (.ifCond .ne 5, 3) := by decide +kernel
theorem dX0_learn_12 : decode cX0_learn 12 = .ok (.iconst 0, 1) := by decide +kernel
theorem dX0_learn_13 : decode cX0_learn 13 = .ok (.ireturn, 1) := by decide +kernel
theorem dX0_learn_14 : decode cX0_learn 14 = .ok (.aload_n 0, 1) := by decide +kernel
theorem dX0_learn_15 : decode cX0_learn 15 = .ok (.iload_n 1, 1) := by decide +kernel
theorem dX0_learn_16 : decode cX0_learn 16 = .ok (.invokevirtual 37, 3) := by decide +kernel
theorem dX0_learn_19 : decode cX0_learn 19 = .ok (.lload_n 2, 1) := by decide +kernel
theorem dX0_learn_20 : decode cX0_learn 20 = .ok (.lxor, 1) := by decide +kernel
theorem dX0_learn_21 : decode cX0_learn 21 = .ok (.lstore 5, 2) := by decide +kernel
theorem dX0_learn_23 : decode cX0_learn 23 = .ok (.iload 4, 2) := by decide +kernel
theorem dX0_learn_25 : decode cX0_learn 25 = .ok (.invokestatic 41, 3) := by decide +kernel
theorem dX0_learn_28 : decode cX0_learn 28 = .ok (.istore 7, 2) := by decide +kernel
theorem dX0_learn_30 : decode cX0_learn 30 = .ok (.iconst 0, 1) := by decide +kernel
theorem dX0_learn_31 : decode cX0_learn 31 = .ok (.istore 8, 2) := by decide +kernel
theorem dX0_learn_33 : decode cX0_learn 33 = .ok (.iload 8, 2) := by decide +kernel
theorem dX0_learn_35 : decode cX0_learn 35 = .ok (.bipush 10, 2) := by decide +kernel
theorem dX0_learn_37 : decode cX0_learn 37 = .ok (.if_icmp .ge 46, 3) := by decide +kernel
theorem dX0_learn_40 : decode cX0_learn 40 = .ok (.aload_n 0, 1) := by decide +kernel
theorem dX0_learn_41 : decode cX0_learn 41 = .ok (.getfield 9, 3) := by decide +kernel
theorem dX0_learn_44 : decode cX0_learn 44 = .ok (.iload 8, 2) := by decide +kernel
theorem dX0_learn_46 : decode cX0_learn 46 = .ok (.iaload, 1) := by decide +kernel
theorem dX0_learn_47 : decode cX0_learn 47 = .ok (.iload 7, 2) := by decide +kernel
theorem dX0_learn_49 : decode cX0_learn 49 = .ok (.iand, 1) := by decide +kernel
theorem dX0_learn_50 : decode cX0_learn 50 = .ok (.ifCond .eq 27, 3) := by decide +kernel
theorem dX0_learn_53 : decode cX0_learn 53 = .ok (.aload_n 0, 1) := by decide +kernel
theorem dX0_learn_54 : decode cX0_learn 54 = .ok (.getfield 9, 3) := by decide +kernel
theorem dX0_learn_57 : decode cX0_learn 57 = .ok (.iload 8, 2) := by decide +kernel
theorem dX0_learn_59 : decode cX0_learn 59 = .ok (.dup2, 1) := by decide +kernel
theorem dX0_learn_60 : decode cX0_learn 60 = .ok (.iaload, 1) := by decide +kernel
theorem dX0_learn_61 : decode cX0_learn 61 = .ok (.iload 4, 2) := by decide +kernel
theorem dX0_learn_63 : decode cX0_learn 63 = .ok (.ixor, 1) := by decide +kernel
theorem dX0_learn_64 : decode cX0_learn 64 = .ok (.iastore, 1) := by decide +kernel
theorem dX0_learn_65 : decode cX0_learn 65 = .ok (.aload_n 0, 1) := by decide +kernel
theorem dX0_learn_66 : decode cX0_learn 66 = .ok (.getfield 15, 3) := by decide +kernel
theorem dX0_learn_69 : decode cX0_learn 69 = .ok (.iload 8, 2) := by decide +kernel
theorem dX0_learn_71 : decode cX0_learn 71 = .ok (.dup2, 1) := by decide +kernel
theorem dX0_learn_72 : decode cX0_learn 72 = .ok (.laload, 1) := by decide +kernel
theorem dX0_learn_73 : decode cX0_learn 73 = .ok (.lload 5, 2) := by decide +kernel
theorem dX0_learn_75 : decode cX0_learn 75 = .ok (.lxor, 1) := by decide +kernel
theorem dX0_learn_76 : decode cX0_learn 76 = .ok (.lastore, 1) := by decide +kernel
theorem dX0_learn_77 : decode cX0_learn 77 = .ok (.iinc 8 1, 3) := by decide +kernel
theorem dX0_learn_80 : decode cX0_learn 80 = .ok (.goto (-47), 3) := by decide +kernel
theorem dX0_learn_83 : decode cX0_learn 83 = .ok (.aload_n 0, 1) := by decide +kernel
theorem dX0_learn_84 : decode cX0_learn 84 = .ok (.dup, 1) := by decide +kernel
theorem dX0_learn_85 : decode cX0_learn 85 = .ok (.getfield 25, 3) := by decide +kernel
theorem dX0_learn_88 : decode cX0_learn 88 = .ok (.iconst 1, 1) := by decide +kernel
theorem dX0_learn_89 : decode cX0_learn 89 = .ok (.iadd, 1) := by decide +kernel
theorem dX0_learn_90 : decode cX0_learn 90 = .ok (.putfield 25, 3) := by decide +kernel
theorem dX0_learn_93 : decode cX0_learn 93 = .ok (.iconst 1, 1) := by decide +kernel
theorem dX0_learn_94 : decode cX0_learn 94 = .ok (.ireturn, 1) := by decide +kernel
theorem dX0_isWorkedOut_0 : decode cX0_isWorkedOut 0 = .ok (.iload_n 1, 1) := by decide +kernel
theorem dX0_isWorkedOut_1 : decode cX0_isWorkedOut 1 = .ok (.ifCond .lt 22, 3) := by decide +kernel
theorem dX0_isWorkedOut_4 : decode cX0_isWorkedOut 4 = .ok (.iload_n 1, 1) := by decide +kernel
theorem dX0_isWorkedOut_5 : decode cX0_isWorkedOut 5 = .ok (.bipush 10, 2) := by decide +kernel
theorem dX0_isWorkedOut_7 : decode cX0_isWorkedOut 7 = .ok (.if_icmp .ge 16, 3) := by decide +kernel
theorem dX0_isWorkedOut_10 : decode cX0_isWorkedOut 10 = .ok (.aload_n 0, 1) := by decide +kernel
theorem dX0_isWorkedOut_11 : decode cX0_isWorkedOut 11 = .ok (.getfield 9, 3) := by decide +kernel
theorem dX0_isWorkedOut_14 : decode cX0_isWorkedOut 14 = .ok (.iload_n 1, 1) := by decide +kernel
theorem dX0_isWorkedOut_15 : decode cX0_isWorkedOut 15 = .ok (.iaload, 1) := by decide +kernel
theorem dX0_isWorkedOut_16 : decode cX0_isWorkedOut 16 = .ok (.ifCond .ne 7, 3) := by decide +kernel
theorem dX0_isWorkedOut_19 : decode cX0_isWorkedOut 19 = .ok (.iconst 1, 1) := by decide +kernel
theorem dX0_isWorkedOut_20 : decode cX0_isWorkedOut 20 = .ok (.goto 4, 3) := by decide +kernel
theorem dX0_isWorkedOut_23 : decode cX0_isWorkedOut 23 = .ok (.iconst 0, 1) := by decide +kernel
theorem dX0_isWorkedOut_24 : decode cX0_isWorkedOut 24 = .ok (.ireturn, 1) := by decide +kernel
theorem dX0_workedOut_0 : decode cX0_workedOut 0 = .ok (.aload_n 0, 1) := by decide +kernel
theorem dX0_workedOut_1 : decode cX0_workedOut 1 = .ok (.iconst 0, 1) := by decide +kernel
theorem dX0_workedOut_2 : decode cX0_workedOut 2 = .ok (.invokevirtual 46, 3) := by decide +kernel
theorem dX0_workedOut_5 : decode cX0_workedOut 5 = .ok (.ireturn, 1) := by decide +kernel
theorem dX0_workedOutWith_0 : decode cX0_workedOutWith 0 = .ok (.iconst 0, 1) := by decide +kernel
theorem dX0_workedOutWith_1 : decode cX0_workedOutWith 1 = .ok (.istore_n 2, 1) := by decide +kernel
theorem dX0_workedOutWith_2 : decode cX0_workedOutWith 2 = .ok (.iconst 0, 1) := by decide +kernel
theorem dX0_workedOutWith_3 : decode cX0_workedOutWith 3 = .ok (.istore_n 3, 1) := by decide +kernel
theorem dX0_workedOutWith_4 : decode cX0_workedOutWith 4 = .ok (.iload_n 3, 1) := by decide +kernel
theorem dX0_workedOutWith_5 : decode cX0_workedOutWith 5 = .ok (.bipush 10, 2) := by decide +kernel
theorem dX0_workedOutWith_7 : decode cX0_workedOutWith 7 = .ok (.if_icmp .ge 34, 3) := by decide +kernel
theorem dX0_workedOutWith_10 : decode cX0_workedOutWith 10 = .ok (.aload_n 0, 1) := by decide +kernel
theorem dX0_workedOutWith_11 : decode cX0_workedOutWith 11 = .ok (.getfield 9, 3) := by decide +kernel
theorem dX0_workedOutWith_14 : decode cX0_workedOutWith 14 = .ok (.iload_n 3, 1) := by decide +kernel
theorem dX0_workedOutWith_15 : decode cX0_workedOutWith 15 = .ok (.iaload, 1) := by decide +kernel
theorem dX0_workedOutWith_16 : decode cX0_workedOutWith 16 = .ok (.ifCond .eq 13, 3) := by decide +kernel
theorem dX0_workedOutWith_19 : decode cX0_workedOutWith 19 = .ok (.aload_n 0, 1) := by decide +kernel
theorem dX0_workedOutWith_20 : decode cX0_workedOutWith 20 = .ok (.getfield 9, 3) := by decide +kernel
theorem dX0_workedOutWith_23 : decode cX0_workedOutWith 23 = .ok (.iload_n 3, 1) := by decide +kernel
theorem dX0_workedOutWith_24 : decode cX0_workedOutWith 24 = .ok (.iaload, 1) := by decide +kernel
theorem dX0_workedOutWith_25 : decode cX0_workedOutWith 25 = .ok (.iload_n 1, 1) := by decide +kernel
theorem dX0_workedOutWith_26 : decode cX0_workedOutWith 26 = .ok (.if_icmp .ne 9, 3) := by decide +kernel
theorem dX0_workedOutWith_29 : decode cX0_workedOutWith 29 = .ok (.iload_n 2, 1) := by decide +kernel
theorem dX0_workedOutWith_30 : decode cX0_workedOutWith 30 = .ok (.iconst 1, 1) := by decide +kernel
theorem dX0_workedOutWith_31 : decode cX0_workedOutWith 31 = .ok (.iload_n 3, 1) := by decide +kernel
theorem dX0_workedOutWith_32 : decode cX0_workedOutWith 32 = .ok (.ishl, 1) := by decide +kernel
theorem dX0_workedOutWith_33 : decode cX0_workedOutWith 33 = .ok (.ior, 1) := by decide +kernel
theorem dX0_workedOutWith_34 : decode cX0_workedOutWith 34 = .ok (.istore_n 2, 1) := by decide +kernel
theorem dX0_workedOutWith_35 : decode cX0_workedOutWith 35 = .ok (.iinc 3 1, 3) := by decide +kernel
theorem dX0_workedOutWith_38 : decode cX0_workedOutWith 38 = .ok (.goto (-34), 3) := by decide +kernel
theorem dX0_workedOutWith_41 : decode cX0_workedOutWith 41 = .ok (.iload_n 2, 1) := by decide +kernel
theorem dX0_workedOutWith_42 : decode cX0_workedOutWith 42 = .ok (.ireturn, 1) := by decide +kernel
theorem dX1_init_0 : decode cX1_init 0 = .ok (.aload_n 0, 1) := by decide +kernel
theorem dX1_init_1 : decode cX1_init 1 = .ok (.invokespecial 3, 3) := by decide +kernel
theorem dX1_init_4 : decode cX1_init 4 = .ok (.aload_n 0, 1) := by decide +kernel
theorem dX1_init_5 : decode cX1_init 5 = .ok (.iload_n 1, 1) := by decide +kernel
theorem dX1_init_6 : decode cX1_init 6 = .ok (.putfield 9, 3) := by decide +kernel
theorem dX1_init_9 : decode cX1_init 9 = .ok (.aload_n 0, 1) := by decide +kernel
theorem dX1_init_10 : decode cX1_init 10 = .ok (.bipush 52, 2) := by decide +kernel
theorem dX1_init_12 : decode cX1_init 12 = .ok (.newarray .int, 2) := by decide +kernel
theorem dX1_init_14 : decode cX1_init 14 = .ok (.putfield 15, 3) := by decide +kernel
theorem dX1_init_17 : decode cX1_init 17 = .ok (.aload_n 0, 1) := by decide +kernel
theorem dX1_init_18 : decode cX1_init 18 = .ok (.new 19, 3) := by decide +kernel
theorem dX1_init_21 : decode cX1_init 21 = .ok (.dup, 1) := by decide +kernel
theorem dX1_init_22 : decode cX1_init 22 = .ok (.invokespecial 21, 3) := by decide +kernel
theorem dX1_init_25 : decode cX1_init 25 = .ok (.putfield 22, 3) := by decide +kernel
theorem dX1_init_28 : decode cX1_init 28 = .ok (.return_, 1) := by decide +kernel
theorem dX1_mayHave_0 : decode cX1_mayHave 0 = .ok (.aload_n 0, 1) := by decide +kernel
theorem dX1_mayHave_1 : decode cX1_mayHave 1 = .ok (.getfield 9, 3) := by decide +kernel
theorem dX1_mayHave_4 : decode cX1_mayHave 4 = .ok (.iconst 3, 1) := by decide +kernel
theorem dX1_mayHave_5 : decode cX1_mayHave 5 = .ok (.if_icmp .eq 13, 3) := by decide +kernel
theorem dX1_mayHave_8 : decode cX1_mayHave 8 = .ok (.iload_n 1, 1) := by decide +kernel
theorem dX1_mayHave_9 : decode cX1_mayHave 9 = .ok (.invokestatic 26, 3) := by decide +kernel
theorem dX1_mayHave_12 : decode cX1_mayHave 12 = .ok (.iconst 1, 1) := by decide +kernel
theorem dX1_mayHave_13 : decode cX1_mayHave 13 = .ok (.if_icmp .eq 5, 3) := by decide +kernel
theorem dX1_mayHave_16 : decode cX1_mayHave 16 = .ok (.iconst 0, 1) := by decide +kernel
theorem dX1_mayHave_17 : decode cX1_mayHave 17 = .ok (.ireturn, 1) := by decide +kernel
theorem dX1_mayHave_18 : decode cX1_mayHave 18 = .ok (.iconst 0, 1) := by decide +kernel
theorem dX1_mayHave_19 : decode cX1_mayHave 19 = .ok (.istore_n 2, 1) := by decide +kernel
theorem dX1_mayHave_20 : decode cX1_mayHave 20 = .ok (.iload_n 2, 1) := by decide +kernel
theorem dX1_mayHave_21 : decode cX1_mayHave 21 = .ok (.aload_n 0, 1) := by decide +kernel
theorem dX1_mayHave_22 : decode cX1_mayHave 22 = .ok (.getfield 32, 3) := by decide +kernel
theorem dX1_mayHave_25 : decode cX1_mayHave 25 = .ok (.if_icmp .ge 21, 3) := by decide +kernel
theorem dX1_mayHave_28 : decode cX1_mayHave 28 = .ok (.aload_n 0, 1) := by decide +kernel
theorem dX1_mayHave_29 : decode cX1_mayHave 29 = .ok (.getfield 15, 3) := by decide +kernel
theorem dX1_mayHave_32 : decode cX1_mayHave 32 = .ok (.iload_n 2, 1) := by decide +kernel
theorem dX1_mayHave_33 : decode cX1_mayHave 33 = .ok (.iaload, 1) := by decide +kernel
theorem dX1_mayHave_34 : decode cX1_mayHave 34 = .ok (.iload_n 1, 1) := by decide +kernel
theorem dX1_mayHave_35 : decode cX1_mayHave 35 = .ok (.if_icmp .ne 5, 3) := by decide +kernel
theorem dX1_mayHave_38 : decode cX1_mayHave 38 = .ok (.iconst 0, 1) := by decide +kernel
theorem dX1_mayHave_39 : decode cX1_mayHave 39 = .ok (.ireturn, 1) := by decide +kernel
theorem dX1_mayHave_40 : decode cX1_mayHave 40 = .ok (.iinc 2 1, 3) := by decide +kernel
theorem dX1_mayHave_43 : decode cX1_mayHave 43 = .ok (.goto (-23), 3) := by decide +kernel
theorem dX1_mayHave_46 : decode cX1_mayHave 46 = .ok (.iconst 1, 1) := by decide +kernel
theorem dX1_mayHave_47 : decode cX1_mayHave 47 = .ok (.ireturn, 1) := by decide +kernel
theorem dX1_getSum_0 : decode cX1_getSum 0 = .ok (.aload_n 0, 1) := by decide +kernel
theorem dX1_getSum_1 : decode cX1_getSum 1 = .ok (.iload_n 1, 1) := by decide +kernel
theorem dX1_getSum_2 : decode cX1_getSum 2 = .ok (.invokevirtual 35, 3) := by decide +kernel
theorem dX1_getSum_5 : decode cX1_getSum 5 = .ok (.pop, 1) := by decide +kernel
theorem dX1_getSum_6 : decode cX1_getSum 6 = .ok (.aload_n 0, 1) := by decide +kernel
theorem dX1_getSum_7 : decode cX1_getSum 7 = .ok (.dup, 1) := by decide +kernel
theorem dX1_getSum_8 : decode cX1_getSum 8 = .ok (.getfield 32, 3) := by decide +kernel
theorem dX1_getSum_11 : decode cX1_getSum 11 = .ok (.iconst 1, 1) := by decide +kernel
theorem dX1_getSum_12 : decode cX1_getSum 12 = .ok (.iadd, 1) := by decide +kernel
theorem dX1_getSum_13 : decode cX1_getSum 13 = .ok (.putfield 32, 3) := by decide +kernel
theorem dX1_getSum_16 : decode cX1_getSum 16 = .ok (.iload_n 1, 1) := by decide +kernel
theorem dX1_getSum_17 : decode cX1_getSum 17 = .ok (.invokestatic 26, 3) := by decide +kernel
theorem dX1_getSum_20 : decode cX1_getSum 20 = .ok (.iconst 1, 1) := by decide +kernel
theorem dX1_getSum_21 : decode cX1_getSum 21 = .ok (.if_icmp .ne 13, 3) := by decide +kernel
theorem dX1_getSum_24 : decode cX1_getSum 24 = .ok (.aload_n 0, 1) := by decide +kernel
theorem dX1_getSum_25 : decode cX1_getSum 25 = .ok (.dup, 1) := by decide +kernel
theorem dX1_getSum_26 : decode cX1_getSum 26 = .ok (.getfield 39, 3) := by decide +kernel
theorem dX1_getSum_29 : decode cX1_getSum 29 = .ok (.iload_n 1, 1) := by decide +kernel
theorem dX1_getSum_30 : decode cX1_getSum 30 = .ok (.ior, 1) := by decide +kernel
theorem dX1_getSum_31 : decode cX1_getSum 31 = .ok (.putfield 39, 3) := by decide +kernel
theorem dX1_getSum_34 : decode cX1_getSum 34 = .ok (.return_, 1) := by decide +kernel
theorem dX1_hear_0 : decode cX1_hear 0 = .ok (.aload_n 0, 1) := by decide +kernel
theorem dX1_hear_1 : decode cX1_hear 1 = .ok (.dup, 1) := by decide +kernel
theorem dX1_hear_2 : decode cX1_hear 2 = .ok (.getfield 42, 3) := by decide +kernel
theorem dX1_hear_5 : decode cX1_hear 5 = .ok (.lconst 1, 1) := by decide +kernel
theorem dX1_hear_6 : decode cX1_hear 6 = .ok (.iload_n 2, 1) := by decide +kernel
theorem dX1_hear_7 : decode cX1_hear 7 = .ok (.lshl, 1) := by decide +kernel
theorem dX1_hear_8 : decode cX1_hear 8 = .ok (.lor, 1) := by decide +kernel
theorem dX1_hear_9 : decode cX1_hear 9 = .ok (.putfield 42, 3) := by decide +kernel
theorem dX1_hear_12 : decode cX1_hear 12 = .ok (.aload_n 0, 1) := by decide +kernel
theorem dX1_hear_13 : decode cX1_hear 13 = .ok (.iload_n 1, 1) := by decide +kernel
theorem dX1_hear_14 : decode cX1_hear 14 = .ok (.invokevirtual 35, 3) := by decide +kernel
theorem dX1_hear_17 : decode cX1_hear 17 = .ok (.ireturn, 1) := by decide +kernel
theorem dX1_addRow_0 : decode cX1_addRow 0 = .ok (.aload_n 0, 1) := by decide +kernel
theorem dX1_addRow_1 : decode cX1_addRow 1 = .ok (.getfield 46, 3) := by decide +kernel
theorem dX1_addRow_4 : decode cX1_addRow 4 = .ok (.aload_n 0, 1) := by decide +kernel
theorem dX1_addRow_5 : decode cX1_addRow 5 = .ok (.getfield 15, 3) := by decide +kernel
theorem dX1_addRow_8 : decode cX1_addRow 8 = .ok (.arraylength, 1) := by decide +kernel
theorem dX1_addRow_9 : decode cX1_addRow 9 = .ok (.if_icmp .lt 5, 3) := by decide +kernel
theorem dX1_addRow_12 : decode cX1_addRow 12 = .ok (.iconst 0, 1) := by decide +kernel
theorem dX1_addRow_13 : decode cX1_addRow 13 = .ok (.ireturn, 1) := by decide +kernel
theorem dX1_addRow_14 : decode cX1_addRow 14 = .ok (.aload_n 0, 1) := by decide +kernel
theorem dX1_addRow_15 : decode cX1_addRow 15 = .ok (.getfield 15, 3) := by decide +kernel
theorem dX1_addRow_18 : decode cX1_addRow 18 = .ok (.aload_n 0, 1) := by decide +kernel
theorem dX1_addRow_19 : decode cX1_addRow 19 = .ok (.getfield 46, 3) := by decide +kernel
theorem dX1_addRow_22 : decode cX1_addRow 22 = .ok (.iload_n 1, 1) := by decide +kernel
theorem dX1_addRow_23 : decode cX1_addRow 23 = .ok (.iastore, 1) := by decide +kernel
theorem dX1_addRow_24 : decode cX1_addRow 24 = .ok (.aload_n 0, 1) := by decide +kernel
theorem dX1_addRow_25 : decode cX1_addRow 25 = .ok (.dup, 1) := by decide +kernel
theorem dX1_addRow_26 : decode cX1_addRow 26 = .ok (.getfield 46, 3) := by decide +kernel
theorem dX1_addRow_29 : decode cX1_addRow 29 = .ok (.iconst 1, 1) := by decide +kernel
theorem dX1_addRow_30 : decode cX1_addRow 30 = .ok (.iadd, 1) := by decide +kernel
theorem dX1_addRow_31 : decode cX1_addRow 31 = .ok (.putfield 46, 3) := by decide +kernel
theorem dX1_addRow_34 : decode cX1_addRow 34 = .ok (.aload_n 0, 1) := by decide +kernel
theorem dX1_addRow_35 : decode cX1_addRow 35 = .ok (.getfield 22, 3) := by decide +kernel
theorem dX1_addRow_38 : decode cX1_addRow 38 = .ok (.iload_n 1, 1) := by decide +kernel
theorem dX1_addRow_39 : decode cX1_addRow 39 = .ok (.lconst 1, 1) := by decide +kernel
theorem dX1_addRow_40 : decode cX1_addRow 40 = .ok (.aload_n 0, 1) := by decide +kernel
theorem dX1_addRow_41 : decode cX1_addRow 41 = .ok (.getfield 46, 3) := by decide +kernel
theorem dX1_addRow_44 : decode cX1_addRow 44 = .ok (.iconst 1, 1) := by decide +kernel
theorem dX1_addRow_45 : decode cX1_addRow 45 = .ok (.isub, 1) := by decide +kernel
theorem dX1_addRow_46 : decode cX1_addRow 46 = .ok (.lshl, 1) := by decide +kernel
theorem dX1_addRow_47 : decode cX1_addRow 47 = .ok (.invokevirtual 49, 3) := by decide +kernel
theorem dX1_addRow_50 : decode cX1_addRow 50 = .ok (.ireturn, 1) := by decide +kernel
theorem dX1_isEvenInAllRows_0 : decode cX1_isEvenInAllRows 0 = .ok (.iconst 0, 1) := by decide +kernel
theorem dX1_isEvenInAllRows_1 : decode cX1_isEvenInAllRows 1 = .ok (.istore_n 2, 1) := by decide +kernel
theorem dX1_isEvenInAllRows_2 : decode cX1_isEvenInAllRows 2 = .ok (.iload_n 2, 1) := by decide +kernel
theorem dX1_isEvenInAllRows_3 : decode cX1_isEvenInAllRows 3 = .ok (.aload_n 0, 1) := by decide +kernel
theorem dX1_isEvenInAllRows_4 : decode cX1_isEvenInAllRows 4 = .ok (.getfield 46, 3) := by decide +kernel
theorem dX1_isEvenInAllRows_7 : decode cX1_isEvenInAllRows 7 = .ok (.if_icmp .ge 27, 3) := by decide +kernel
theorem dX1_isEvenInAllRows_10 : decode cX1_isEvenInAllRows 10 = .ok (.aload_n 0, 1) := by decide +kernel
theorem dX1_isEvenInAllRows_11 : decode cX1_isEvenInAllRows 11 = .ok (.getfield 15, 3) := by decide +kernel
theorem dX1_isEvenInAllRows_14 : decode cX1_isEvenInAllRows 14 = .ok (.iload_n 2, 1) := by decide +kernel
theorem dX1_isEvenInAllRows_15 : decode cX1_isEvenInAllRows 15 = .ok (.iaload, 1) := by decide +kernel
theorem dX1_isEvenInAllRows_16 : decode cX1_isEvenInAllRows 16 = .ok (.iload_n 1, 1) := by decide +kernel
theorem dX1_isEvenInAllRows_17 : decode cX1_isEvenInAllRows 17 = .ok (.iand, 1) := by decide +kernel
theorem dX1_isEvenInAllRows_18 : decode cX1_isEvenInAllRows 18 = .ok (.invokestatic 26, 3) := by decide +kernel
theorem dX1_isEvenInAllRows_21 : decode cX1_isEvenInAllRows 21 = .ok (.iconst 1, 1) := by decide +kernel
theorem dX1_isEvenInAllRows_22 : decode cX1_isEvenInAllRows 22 = .ok (.iand, 1) := by decide +kernel
theorem dX1_isEvenInAllRows_23 : decode cX1_isEvenInAllRows 23 = .ok (.ifCond .eq 5, 3) := by decide +kernel
theorem dX1_isEvenInAllRows_26 : decode cX1_isEvenInAllRows 26 = .ok (.iconst 0, 1) := by decide +kernel
theorem dX1_isEvenInAllRows_27 : decode cX1_isEvenInAllRows 27 = .ok (.ireturn, 1) := by decide +kernel
theorem dX1_isEvenInAllRows_28 : decode cX1_isEvenInAllRows 28 = .ok (.iinc 2 1, 3) := by decide +kernel
theorem dX1_isEvenInAllRows_31 : decode cX1_isEvenInAllRows 31 = .ok (.goto (-29), 3) := by decide +kernel
theorem dX1_isEvenInAllRows_34 : decode cX1_isEvenInAllRows 34 = .ok (.iconst 1, 1) := by decide +kernel
theorem dX1_isEvenInAllRows_35 : decode cX1_isEvenInAllRows 35 = .ok (.ireturn, 1) := by decide +kernel
theorem dX1_isServedBy_0 : decode cX1_isServedBy 0 = .ok (.aload_n 0, 1) := by decide +kernel
theorem dX1_isServedBy_1 : decode cX1_isServedBy 1 = .ok (.aload_n 1, 1) := by decide +kernel
theorem dX1_isServedBy_2 : decode cX1_isServedBy 2 = .ok (.invokevirtual 53, 3) := by decide +kernel
theorem dX1_isServedBy_5 : decode cX1_isServedBy 5 = .ok (.iload_n 2, 1) := by decide +kernel
theorem dX1_isServedBy_6 : decode cX1_isServedBy 6 = .ok (.invokevirtual 57, 3) := by decide +kernel
theorem dX1_isServedBy_9 : decode cX1_isServedBy 9 = .ok (.ireturn, 1) := by decide +kernel
theorem dX1_wouldBeServedBy_0 : decode cX1_wouldBeServedBy 0 = .ok (.aload_n 0, 1) := by decide +kernel
theorem dX1_wouldBeServedBy_1 : decode cX1_wouldBeServedBy 1 = .ok (.aload_n 0, 1) := by decide +kernel
theorem dX1_wouldBeServedBy_2 : decode cX1_wouldBeServedBy 2 = .ok (.getfield 22, 3) := by decide +kernel
theorem dX1_wouldBeServedBy_5 : decode cX1_wouldBeServedBy 5 = .ok (.iload_n 1, 1) := by decide +kernel
theorem dX1_wouldBeServedBy_6 : decode cX1_wouldBeServedBy 6 = .ok (.invokevirtual 61, 3) := by decide +kernel
theorem dX1_wouldBeServedBy_9 : decode cX1_wouldBeServedBy 9 = .ok (.iload_n 2, 1) := by decide +kernel
theorem dX1_wouldBeServedBy_10 : decode cX1_wouldBeServedBy 10 = .ok (.invokevirtual 57, 3) := by decide +kernel
theorem dX1_wouldBeServedBy_13 : decode cX1_wouldBeServedBy 13 = .ok (.ireturn, 1) := by decide +kernel
theorem dX1_isServedWith_0 : decode cX1_isServedWith 0 = .ok (.aload_n 0, 1) := by decide +kernel
theorem dX1_isServedWith_1 : decode cX1_isServedWith 1 = .ok (.getfield 9, 3) := by decide +kernel
theorem dX1_isServedWith_4 : decode cX1_isServedWith 4 = .ok (.iconst 2, 1) := by decide +kernel
theorem dX1_isServedWith_5 : decode cX1_isServedWith 5 = .ok (.if_icmp .ne 28, 3) := by decide +kernel
theorem dX1_isServedWith_8 : decode cX1_isServedWith 8 = .ok (.aload_n 0, 1) := by decide +kernel
theorem dX1_isServedWith_9 : decode cX1_isServedWith 9 = .ok (.getfield 39, 3) := by decide +kernel
theorem dX1_isServedWith_12 : decode cX1_isServedWith 12 = .ok (.iload_n 2, 1) := by decide +kernel
theorem dX1_isServedWith_13 : decode cX1_isServedWith 13 = .ok (.if_icmp .eq 14, 3) := by decide +kernel
theorem dX1_isServedWith_16 : decode cX1_isServedWith 16 = .ok (.iload_n 1, 1) := by decide +kernel
theorem dX1_isServedWith_17 : decode cX1_isServedWith 17 = .ok (.aload_n 0, 1) := by decide +kernel
theorem dX1_isServedWith_18 : decode cX1_isServedWith 18 = .ok (.getfield 39, 3) := by decide +kernel
theorem dX1_isServedWith_21 : decode cX1_isServedWith 21 = .ok (.iconst (-1), 1) := by decide +kernel
theorem dX1_isServedWith_22 : decode cX1_isServedWith 22 = .ok (.ixor, 1) := by decide +kernel
theorem dX1_isServedWith_23 : decode cX1_isServedWith 23 = .ok (.iand, 1) := by decide +kernel
theorem dX1_isServedWith_24 : decode cX1_isServedWith 24 = .ok (.ifCond .eq 7, 3) := by decide +kernel
theorem dX1_isServedWith_27 : decode cX1_isServedWith 27 = .ok (.iconst 1, 1) := by decide +kernel
theorem dX1_isServedWith_28 : decode cX1_isServedWith 28 = .ok (.goto 4, 3) := by decide +kernel
theorem dX1_isServedWith_31 : decode cX1_isServedWith 31 = .ok (.iconst 0, 1) := by decide +kernel
theorem dX1_isServedWith_32 : decode cX1_isServedWith 32 = .ok (.ireturn, 1) := by decide +kernel
theorem dX1_isServedWith_33 : decode cX1_isServedWith 33 = .ok (.aload_n 0, 1) := by decide +kernel
theorem dX1_isServedWith_34 : decode cX1_isServedWith 34 = .ok (.getfield 64, 3) := by decide +kernel
theorem dX1_isServedWith_37 : decode cX1_isServedWith 37 = .ok (.iload_n 1, 1) := by decide +kernel
theorem dX1_isServedWith_38 : decode cX1_isServedWith 38 = .ok (.iconst (-1), 1) := by decide +kernel
theorem dX1_isServedWith_39 : decode cX1_isServedWith 39 = .ok (.ixor, 1) := by decide +kernel
theorem dX1_isServedWith_40 : decode cX1_isServedWith 40 = .ok (.iand, 1) := by decide +kernel
theorem dX1_isServedWith_41 : decode cX1_isServedWith 41 = .ok (.ifCond .ne 7, 3) := by decide +kernel
theorem dX1_isServedWith_44 : decode cX1_isServedWith 44 = .ok (.iconst 1, 1) := by decide +kernel
theorem dX1_isServedWith_45 : decode cX1_isServedWith 45 = .ok (.goto 4, 3) := by decide +kernel
theorem dX1_isServedWith_48 : decode cX1_isServedWith 48 = .ok (.iconst 0, 1) := by decide +kernel
theorem dX1_isServedWith_49 : decode cX1_isServedWith 49 = .ok (.ireturn, 1) := by decide +kernel
theorem dX2_init_0 : decode cX2_init 0 = .ok (.aload_n 0, 1) := by decide +kernel
theorem dX2_init_1 : decode cX2_init 1 = .ok (.invokespecial 3, 3) := by decide +kernel
theorem dX2_init_4 : decode cX2_init 4 = .ok (.aload_n 0, 1) := by decide +kernel
theorem dX2_init_5 : decode cX2_init 5 = .ok (.bipush 100, 2) := by decide +kernel
theorem dX2_init_7 : decode cX2_init 7 = .ok (.newarray .int, 2) := by decide +kernel
theorem dX2_init_9 : decode cX2_init 9 = .ok (.putfield 9, 3) := by decide +kernel
theorem dX2_init_12 : decode cX2_init 12 = .ok (.aload_n 0, 1) := by decide +kernel
theorem dX2_init_13 : decode cX2_init 13 = .ok (.bipush 100, 2) := by decide +kernel
theorem dX2_init_15 : decode cX2_init 15 = .ok (.newarray .int, 2) := by decide +kernel
theorem dX2_init_17 : decode cX2_init 17 = .ok (.putfield 15, 3) := by decide +kernel
theorem dX2_init_20 : decode cX2_init 20 = .ok (.aload_n 0, 1) := by decide +kernel
theorem dX2_init_21 : decode cX2_init 21 = .ok (.bipush 100, 2) := by decide +kernel
theorem dX2_init_23 : decode cX2_init 23 = .ok (.newarray .int, 2) := by decide +kernel
theorem dX2_init_25 : decode cX2_init 25 = .ok (.putfield 18, 3) := by decide +kernel
theorem dX2_init_28 : decode cX2_init 28 = .ok (.aload_n 0, 1) := by decide +kernel
theorem dX2_init_29 : decode cX2_init 29 = .ok (.bipush 10, 2) := by decide +kernel
theorem dX2_init_31 : decode cX2_init 31 = .ok (.newarray .int, 2) := by decide +kernel
theorem dX2_init_33 : decode cX2_init 33 = .ok (.putfield 21, 3) := by decide +kernel
theorem dX2_init_36 : decode cX2_init 36 = .ok (.aload_n 0, 1) := by decide +kernel
theorem dX2_init_37 : decode cX2_init 37 = .ok (.sipush 1024, 3) := by decide +kernel
theorem dX2_init_40 : decode cX2_init 40 = .ok (.newarray .int, 2) := by decide +kernel
theorem dX2_init_42 : decode cX2_init 42 = .ok (.putfield 24, 3) := by decide +kernel
theorem dX2_init_45 : decode cX2_init 45 = .ok (.return_, 1) := by decide +kernel
theorem dX2_put_0 : decode cX2_put 0 = .ok (.aload_n 0, 1) := by decide +kernel
theorem dX2_put_1 : decode cX2_put 1 = .ok (.getfield 27, 3) := by decide +kernel
theorem dX2_put_4 : decode cX2_put 4 = .ok (.aload_n 0, 1) := by decide +kernel
theorem dX2_put_5 : decode cX2_put 5 = .ok (.getfield 9, 3) := by decide +kernel
theorem dX2_put_8 : decode cX2_put 8 = .ok (.arraylength, 1) := by decide +kernel
theorem dX2_put_9 : decode cX2_put 9 = .ok (.if_icmp .ge 43, 3) := by decide +kernel
theorem dX2_put_12 : decode cX2_put 12 = .ok (.aload_n 0, 1) := by decide +kernel
theorem dX2_put_13 : decode cX2_put 13 = .ok (.getfield 9, 3) := by decide +kernel
theorem dX2_put_16 : decode cX2_put 16 = .ok (.aload_n 0, 1) := by decide +kernel
theorem dX2_put_17 : decode cX2_put 17 = .ok (.getfield 27, 3) := by decide +kernel
theorem dX2_put_20 : decode cX2_put 20 = .ok (.iload_n 1, 1) := by decide +kernel
theorem dX2_put_21 : decode cX2_put 21 = .ok (.iastore, 1) := by decide +kernel
theorem dX2_put_22 : decode cX2_put 22 = .ok (.aload_n 0, 1) := by decide +kernel
theorem dX2_put_23 : decode cX2_put 23 = .ok (.getfield 15, 3) := by decide +kernel
theorem dX2_put_26 : decode cX2_put 26 = .ok (.aload_n 0, 1) := by decide +kernel
theorem dX2_put_27 : decode cX2_put 27 = .ok (.getfield 27, 3) := by decide +kernel
theorem dX2_put_30 : decode cX2_put 30 = .ok (.iload_n 2, 1) := by decide +kernel
theorem dX2_put_31 : decode cX2_put 31 = .ok (.iastore, 1) := by decide +kernel
theorem dX2_put_32 : decode cX2_put 32 = .ok (.aload_n 0, 1) := by decide +kernel
theorem dX2_put_33 : decode cX2_put 33 = .ok (.getfield 18, 3) := by decide +kernel
theorem dX2_put_36 : decode cX2_put 36 = .ok (.aload_n 0, 1) := by decide +kernel
theorem dX2_put_37 : decode cX2_put 37 = .ok (.getfield 27, 3) := by decide +kernel
theorem dX2_put_40 : decode cX2_put 40 = .ok (.iload_n 3, 1) := by decide +kernel
theorem dX2_put_41 : decode cX2_put 41 = .ok (.iastore, 1) := by decide +kernel
theorem dX2_put_42 : decode cX2_put 42 = .ok (.aload_n 0, 1) := by decide +kernel
theorem dX2_put_43 : decode cX2_put 43 = .ok (.dup, 1) := by decide +kernel
theorem dX2_put_44 : decode cX2_put 44 = .ok (.getfield 27, 3) := by decide +kernel
theorem dX2_put_47 : decode cX2_put 47 = .ok (.iconst 1, 1) := by decide +kernel
theorem dX2_put_48 : decode cX2_put 48 = .ok (.iadd, 1) := by decide +kernel
theorem dX2_put_49 : decode cX2_put 49 = .ok (.putfield 27, 3) := by decide +kernel
theorem dX2_put_52 : decode cX2_put 52 = .ok (.return_, 1) := by decide +kernel
theorem dX2_canBeSorted_0 : decode cX2_canBeSorted 0 = .ok (.aload_n 0, 1) := by decide +kernel
theorem dX2_canBeSorted_1 : decode cX2_canBeSorted 1 = .ok (.getfield 27, 3) := by decide +kernel
theorem dX2_canBeSorted_4 : decode cX2_canBeSorted 4 = .ok (.bipush 10, 2) := by decide +kernel
theorem dX2_canBeSorted_6 : decode cX2_canBeSorted 6 = .ok (.if_icmp .gt 7, 3) := by decide +kernel
theorem dX2_canBeSorted_9 : decode cX2_canBeSorted 9 = .ok (.iconst 1, 1) := by decide +kernel
theorem dX2_canBeSorted_10 : decode cX2_canBeSorted 10 = .ok (.goto 4, 3) := by decide +kernel
theorem dX2_canBeSorted_13 : decode cX2_canBeSorted 13 = .ok (.iconst 0, 1) := by decide +kernel
theorem dX2_canBeSorted_14 : decode cX2_canBeSorted 14 = .ok (.ireturn, 1) := by decide +kernel
theorem dX2_longestOrder_0 : decode cX2_longestOrder 0 = .ok (.aload_n 0, 1) := by decide +kernel
theorem dX2_longestOrder_1 : decode cX2_longestOrder 1 = .ok (.invokevirtual 31, 3) := by decide +kernel
theorem dX2_longestOrder_4 : decode cX2_longestOrder 4 = .ok (.aload_n 0, 1) := by decide +kernel
theorem dX2_longestOrder_5 : decode cX2_longestOrder 5 = .ok (.getfield 24, 3) := by decide +kernel
theorem dX2_longestOrder_8 : decode cX2_longestOrder 8 = .ok (.aload_n 0, 1) := by decide +kernel
theorem dX2_longestOrder_9 : decode cX2_longestOrder 9 = .ok (.invokevirtual 34, 3) := by decide +kernel
theorem dX2_longestOrder_12 : decode cX2_longestOrder 12 = .ok (.iaload, 1) := by decide +kernel
theorem dX2_longestOrder_13 : decode cX2_longestOrder 13 = .ok (.ireturn, 1) := by decide +kernel
theorem dX2_inTheOrder_0 : decode cX2_inTheOrder 0 = .ok (.iload_n 1, 1) := by decide +kernel
theorem dX2_inTheOrder_1 : decode cX2_inTheOrder 1 = .ok (.ifCond .lt 11, 3) := by decide +kernel
theorem dX2_inTheOrder_4 : decode cX2_inTheOrder 4 = .ok (.iload_n 1, 1) := by decide +kernel
theorem dX2_inTheOrder_5 : decode cX2_inTheOrder 5 = .ok (.aload_n 0, 1) := by decide +kernel
theorem dX2_inTheOrder_6 : decode cX2_inTheOrder 6 = .ok (.invokevirtual 38, 3) := by decide +kernel
theorem dX2_inTheOrder_9 : decode cX2_inTheOrder 9 = .ok (.if_icmp .lt 5, 3) := by decide +kernel
theorem dX2_inTheOrder_12 : decode cX2_inTheOrder 12 = .ok (.iconst (-1), 1) := by decide +kernel
theorem dX2_inTheOrder_13 : decode cX2_inTheOrder 13 = .ok (.ireturn, 1) := by decide +kernel
theorem dX2_inTheOrder_14 : decode cX2_inTheOrder 14 = .ok (.aload_n 0, 1) := by decide +kernel
theorem dX2_inTheOrder_15 : decode cX2_inTheOrder 15 = .ok (.invokevirtual 34, 3) := by decide +kernel
theorem dX2_inTheOrder_18 : decode cX2_inTheOrder 18 = .ok (.istore_n 2, 1) := by decide +kernel
theorem dX2_inTheOrder_19 : decode cX2_inTheOrder 19 = .ok (.iconst 0, 1) := by decide +kernel
theorem dX2_inTheOrder_20 : decode cX2_inTheOrder 20 = .ok (.istore_n 3, 1) := by decide +kernel
theorem dX2_inTheOrder_21 : decode cX2_inTheOrder 21 = .ok (.iload_n 3, 1) := by decide +kernel
theorem dX2_inTheOrder_22 : decode cX2_inTheOrder 22 = .ok (.iload_n 1, 1) := by decide +kernel
theorem dX2_inTheOrder_23 : decode cX2_inTheOrder 23 = .ok (.if_icmp .ge 22, 3) := by decide +kernel
theorem dX2_inTheOrder_26 : decode cX2_inTheOrder 26 = .ok (.iload_n 2, 1) := by decide +kernel
theorem dX2_inTheOrder_27 : decode cX2_inTheOrder 27 = .ok (.aload_n 0, 1) := by decide +kernel
theorem dX2_inTheOrder_28 : decode cX2_inTheOrder 28 = .ok (.getfield 21, 3) := by decide +kernel
theorem dX2_inTheOrder_31 : decode cX2_inTheOrder 31 = .ok (.aload_n 0, 1) := by decide +kernel
theorem dX2_inTheOrder_32 : decode cX2_inTheOrder 32 = .ok (.iload_n 2, 1) := by decide +kernel
theorem dX2_inTheOrder_33 : decode cX2_inTheOrder 33 = .ok (.invokevirtual 41, 3) := by decide +kernel
theorem dX2_inTheOrder_36 : decode cX2_inTheOrder 36 = .ok (.iaload, 1) := by decide +kernel
theorem dX2_inTheOrder_37 : decode cX2_inTheOrder 37 = .ok (.iand, 1) := by decide +kernel
theorem dX2_inTheOrder_38 : decode cX2_inTheOrder 38 = .ok (.istore_n 2, 1) := by decide +kernel
theorem dX2_inTheOrder_39 : decode cX2_inTheOrder 39 = .ok (.iinc 3 1, 3) := by decide +kernel
theorem dX2_inTheOrder_42 : decode cX2_inTheOrder 42 = .ok (.goto (-21), 3) := by decide +kernel
theorem dX2_inTheOrder_45 : decode cX2_inTheOrder 45 = .ok (.aload_n 0, 1) := by decide +kernel
theorem dX2_inTheOrder_46 : decode cX2_inTheOrder 46 = .ok (.iload_n 2, 1) := by decide +kernel
theorem dX2_inTheOrder_47 : decode cX2_inTheOrder 47 = .ok (.invokevirtual 41, 3) := by decide +kernel
theorem dX2_inTheOrder_50 : decode cX2_inTheOrder 50 = .ok (.ireturn, 1) := by decide +kernel
theorem dX2_fewestGroups_0 : decode cX2_fewestGroups 0 = .ok (.aload_n 0, 1) := by decide +kernel
theorem dX2_fewestGroups_1 : decode cX2_fewestGroups 1 = .ok (.invokevirtual 45, 3) := by decide +kernel
theorem dX2_fewestGroups_4 : decode cX2_fewestGroups 4 = .ok (.aload_n 0, 1) := by decide +kernel
theorem dX2_fewestGroups_5 : decode cX2_fewestGroups 5 = .ok (.getfield 24, 3) := by decide +kernel
theorem dX2_fewestGroups_8 : decode cX2_fewestGroups 8 = .ok (.aload_n 0, 1) := by decide +kernel
theorem dX2_fewestGroups_9 : decode cX2_fewestGroups 9 = .ok (.invokevirtual 34, 3) := by decide +kernel
theorem dX2_fewestGroups_12 : decode cX2_fewestGroups 12 = .ok (.iaload, 1) := by decide +kernel
theorem dX2_fewestGroups_13 : decode cX2_fewestGroups 13 = .ok (.ireturn, 1) := by decide +kernel
theorem dX2_inTheGroups_0 : decode cX2_inTheGroups 0 = .ok (.iload_n 1, 1) := by decide +kernel
theorem dX2_inTheGroups_1 : decode cX2_inTheGroups 1 = .ok (.ifCond .lt 11, 3) := by decide +kernel
theorem dX2_inTheGroups_4 : decode cX2_inTheGroups 4 = .ok (.iload_n 1, 1) := by decide +kernel
theorem dX2_inTheGroups_5 : decode cX2_inTheGroups 5 = .ok (.aload_n 0, 1) := by decide +kernel
theorem dX2_inTheGroups_6 : decode cX2_inTheGroups 6 = .ok (.invokevirtual 48, 3) := by decide +kernel
theorem dX2_inTheGroups_9 : decode cX2_inTheGroups 9 = .ok (.if_icmp .lt 5, 3) := by decide +kernel
theorem dX2_inTheGroups_12 : decode cX2_inTheGroups 12 = .ok (.iconst (-1), 1) := by decide +kernel
theorem dX2_inTheGroups_13 : decode cX2_inTheGroups 13 = .ok (.ireturn, 1) := by decide +kernel
theorem dX2_inTheGroups_14 : decode cX2_inTheGroups 14 = .ok (.aload_n 0, 1) := by decide +kernel
theorem dX2_inTheGroups_15 : decode cX2_inTheGroups 15 = .ok (.invokevirtual 34, 3) := by decide +kernel
theorem dX2_inTheGroups_18 : decode cX2_inTheGroups 18 = .ok (.istore_n 2, 1) := by decide +kernel
theorem dX2_inTheGroups_19 : decode cX2_inTheGroups 19 = .ok (.iconst 0, 1) := by decide +kernel
theorem dX2_inTheGroups_20 : decode cX2_inTheGroups 20 = .ok (.istore_n 3, 1) := by decide +kernel
theorem dX2_inTheGroups_21 : decode cX2_inTheGroups 21 = .ok (.iload_n 3, 1) := by decide +kernel
theorem dX2_inTheGroups_22 : decode cX2_inTheGroups 22 = .ok (.iload_n 1, 1) := by decide +kernel
theorem dX2_inTheGroups_23 : decode cX2_inTheGroups 23 = .ok (.if_icmp .ge 19, 3) := by decide +kernel
theorem dX2_inTheGroups_26 : decode cX2_inTheGroups 26 = .ok (.iload_n 2, 1) := by decide +kernel
theorem dX2_inTheGroups_27 : decode cX2_inTheGroups 27 = .ok (.aload_n 0, 1) := by decide +kernel
theorem dX2_inTheGroups_28 : decode cX2_inTheGroups 28 = .ok (.iload_n 2, 1) := by decide +kernel
theorem dX2_inTheGroups_29 : decode cX2_inTheGroups 29 = .ok (.invokevirtual 51, 3) := by decide +kernel
theorem dX2_inTheGroups_32 : decode cX2_inTheGroups 32 = .ok (.iconst (-1), 1) := by decide +kernel
theorem dX2_inTheGroups_33 : decode cX2_inTheGroups 33 = .ok (.ixor, 1) := by decide +kernel
theorem dX2_inTheGroups_34 : decode cX2_inTheGroups 34 = .ok (.iand, 1) := by decide +kernel
theorem dX2_inTheGroups_35 : decode cX2_inTheGroups 35 = .ok (.istore_n 2, 1) := by decide +kernel
theorem dX2_inTheGroups_36 : decode cX2_inTheGroups 36 = .ok (.iinc 3 1, 3) := by decide +kernel
theorem dX2_inTheGroups_39 : decode cX2_inTheGroups 39 = .ok (.goto (-18), 3) := by decide +kernel
theorem dX2_inTheGroups_42 : decode cX2_inTheGroups 42 = .ok (.aload_n 0, 1) := by decide +kernel
theorem dX2_inTheGroups_43 : decode cX2_inTheGroups 43 = .ok (.iload_n 2, 1) := by decide +kernel
theorem dX2_inTheGroups_44 : decode cX2_inTheGroups 44 = .ok (.invokevirtual 51, 3) := by decide +kernel
theorem dX2_inTheGroups_47 : decode cX2_inTheGroups 47 = .ok (.ireturn, 1) := by decide +kernel
theorem dX2_sortedCount_0 : decode cX2_sortedCount 0 = .ok (.aload_n 0, 1) := by decide +kernel
theorem dX2_sortedCount_1 : decode cX2_sortedCount 1 = .ok (.getfield 27, 3) := by decide +kernel
theorem dX2_sortedCount_4 : decode cX2_sortedCount 4 = .ok (.bipush 10, 2) := by decide +kernel
theorem dX2_sortedCount_6 : decode cX2_sortedCount 6 = .ok (.invokestatic 54, 3) := by decide +kernel
theorem dX2_sortedCount_9 : decode cX2_sortedCount 9 = .ok (.ireturn, 1) := by decide +kernel
theorem dX2_allNeeds_0 : decode cX2_allNeeds 0 = .ok (.iconst 1, 1) := by decide +kernel
theorem dX2_allNeeds_1 : decode cX2_allNeeds 1 = .ok (.aload_n 0, 1) := by decide +kernel
theorem dX2_allNeeds_2 : decode cX2_allNeeds 2 = .ok (.invokevirtual 60, 3) := by decide +kernel
theorem dX2_allNeeds_5 : decode cX2_allNeeds 5 = .ok (.ishl, 1) := by decide +kernel
theorem dX2_allNeeds_6 : decode cX2_allNeeds 6 = .ok (.iconst 1, 1) := by decide +kernel
theorem dX2_allNeeds_7 : decode cX2_allNeeds 7 = .ok (.isub, 1) := by decide +kernel
theorem dX2_allNeeds_8 : decode cX2_allNeeds 8 = .ok (.ireturn, 1) := by decide +kernel
theorem dX2_fillOrders_0 : decode cX2_fillOrders 0 = .ok (.iconst 0, 1) := by decide +kernel
theorem dX2_fillOrders_1 : decode cX2_fillOrders 1 = .ok (.istore_n 1, 1) := by decide +kernel
theorem dX2_fillOrders_2 : decode cX2_fillOrders 2 = .ok (.iload_n 1, 1) := by decide +kernel
theorem dX2_fillOrders_3 : decode cX2_fillOrders 3 = .ok (.aload_n 0, 1) := by decide +kernel
theorem dX2_fillOrders_4 : decode cX2_fillOrders 4 = .ok (.invokevirtual 60, 3) := by decide +kernel
theorem dX2_fillOrders_7 : decode cX2_fillOrders 7 = .ok (.if_icmp .ge 20, 3) := by decide +kernel
theorem dX2_fillOrders_10 : decode cX2_fillOrders 10 = .ok (.aload_n 0, 1) := by decide +kernel
theorem dX2_fillOrders_11 : decode cX2_fillOrders 11 = .ok (.getfield 21, 3) := by decide +kernel
theorem dX2_fillOrders_14 : decode cX2_fillOrders 14 = .ok (.iload_n 1, 1) := by decide +kernel
theorem dX2_fillOrders_15 : decode cX2_fillOrders 15 = .ok (.aload_n 0, 1) := by decide +kernel
theorem dX2_fillOrders_16 : decode cX2_fillOrders 16 = .ok (.iload_n 1, 1) := by decide +kernel
theorem dX2_fillOrders_17 : decode cX2_fillOrders 17 = .ok (.invokevirtual 63, 3) := by decide +kernel
theorem dX2_fillOrders_20 : decode cX2_fillOrders 20 = .ok (.iastore, 1) := by decide +kernel
theorem dX2_fillOrders_21 : decode cX2_fillOrders 21 = .ok (.iinc 1 1, 3) := by decide +kernel
theorem dX2_fillOrders_24 : decode cX2_fillOrders 24 = .ok (.goto (-22), 3) := by decide +kernel
theorem dX2_fillOrders_27 : decode cX2_fillOrders 27 = .ok (.aload_n 0, 1) := by decide +kernel
theorem dX2_fillOrders_28 : decode cX2_fillOrders 28 = .ok (.getfield 24, 3) := by decide +kernel
theorem dX2_fillOrders_31 : decode cX2_fillOrders 31 = .ok (.iconst 0, 1) := by decide +kernel
theorem dX2_fillOrders_32 : decode cX2_fillOrders 32 = .ok (.iconst 0, 1) := by decide +kernel
theorem dX2_fillOrders_33 : decode cX2_fillOrders 33 = .ok (.iastore, 1) := by decide +kernel
theorem dX2_fillOrders_34 : decode cX2_fillOrders 34 = .ok (.iconst 1, 1) := by decide +kernel
theorem dX2_fillOrders_35 : decode cX2_fillOrders 35 = .ok (.istore_n 1, 1) := by decide +kernel
theorem dX2_fillOrders_36 : decode cX2_fillOrders 36 = .ok (.iload_n 1, 1) := by decide +kernel
theorem dX2_fillOrders_37 : decode cX2_fillOrders 37 = .ok (.aload_n 0, 1) := by decide +kernel
theorem dX2_fillOrders_38 : decode cX2_fillOrders 38 = .ok (.invokevirtual 34, 3) := by decide +kernel
theorem dX2_fillOrders_41 : decode cX2_fillOrders 41 = .ok (.if_icmp .gt 62, 3) := by decide +kernel
theorem dX2_fillOrders_44 : decode cX2_fillOrders 44 = .ok (.iconst 0, 1) := by decide +kernel
theorem dX2_fillOrders_45 : decode cX2_fillOrders 45 = .ok (.istore_n 2, 1) := by decide +kernel
theorem dX2_fillOrders_46 : decode cX2_fillOrders 46 = .ok (.iconst 0, 1) := by decide +kernel
theorem dX2_fillOrders_47 : decode cX2_fillOrders 47 = .ok (.istore_n 3, 1) := by decide +kernel
theorem dX2_fillOrders_48 : decode cX2_fillOrders 48 = .ok (.iload_n 3, 1) := by decide +kernel
theorem dX2_fillOrders_49 : decode cX2_fillOrders 49 = .ok (.aload_n 0, 1) := by decide +kernel
theorem dX2_fillOrders_50 : decode cX2_fillOrders 50 = .ok (.invokevirtual 60, 3) := by decide +kernel
theorem dX2_fillOrders_53 : decode cX2_fillOrders 53 = .ok (.if_icmp .ge 37, 3) := by decide +kernel
theorem dX2_fillOrders_56 : decode cX2_fillOrders 56 = .ok (.iload_n 3, 1) := by decide +kernel
theorem dX2_fillOrders_57 : decode cX2_fillOrders 57 = .ok (.iload_n 1, 1) := by decide +kernel
theorem dX2_fillOrders_58 : decode cX2_fillOrders 58 = .ok (.invokestatic 66, 3) := by decide +kernel
theorem dX2_fillOrders_61 : decode cX2_fillOrders 61 = .ok (.ifCond .eq 23, 3) := by decide +kernel
theorem dX2_fillOrders_64 : decode cX2_fillOrders 64 = .ok (.iload_n 2, 1) := by decide +kernel
theorem dX2_fillOrders_65 : decode cX2_fillOrders 65 = .ok (.iconst 1, 1) := by decide +kernel
theorem dX2_fillOrders_66 : decode cX2_fillOrders 66 = .ok (.aload_n 0, 1) := by decide +kernel
theorem dX2_fillOrders_67 : decode cX2_fillOrders 67 = .ok (.getfield 24, 3) := by decide +kernel
theorem dX2_fillOrders_70 : decode cX2_fillOrders 70 = .ok (.iload_n 1, 1) := by decide +kernel
theorem dX2_fillOrders_71 : decode cX2_fillOrders 71 = .ok (.aload_n 0, 1) := by decide +kernel
theorem dX2_fillOrders_72 : decode cX2_fillOrders 72 = .ok (.getfield 21, 3) := by decide +kernel
theorem dX2_fillOrders_75 : decode cX2_fillOrders 75 = .ok (.iload_n 3, 1) := by decide +kernel
theorem dX2_fillOrders_76 : decode cX2_fillOrders 76 = .ok (.iaload, 1) := by decide +kernel
theorem dX2_fillOrders_77 : decode cX2_fillOrders 77 = .ok (.iand, 1) := by decide +kernel
theorem dX2_fillOrders_78 : decode cX2_fillOrders 78 = .ok (.iaload, 1) := by decide +kernel
theorem dX2_fillOrders_79 : decode cX2_fillOrders 79 = .ok (.iadd, 1) := by decide +kernel
theorem dX2_fillOrders_80 : decode cX2_fillOrders 80 = .ok (.invokestatic 70, 3) := by decide +kernel
theorem dX2_fillOrders_83 : decode cX2_fillOrders 83 = .ok (.istore_n 2, 1) := by decide +kernel
theorem dX2_fillOrders_84 : decode cX2_fillOrders 84 = .ok (.iinc 3 1, 3) := by decide +kernel
theorem dX2_fillOrders_87 : decode cX2_fillOrders 87 = .ok (.goto (-39), 3) := by decide +kernel
theorem dX2_fillOrders_90 : decode cX2_fillOrders 90 = .ok (.aload_n 0, 1) := by decide +kernel
theorem dX2_fillOrders_91 : decode cX2_fillOrders 91 = .ok (.getfield 24, 3) := by decide +kernel
theorem dX2_fillOrders_94 : decode cX2_fillOrders 94 = .ok (.iload_n 1, 1) := by decide +kernel
theorem dX2_fillOrders_95 : decode cX2_fillOrders 95 = .ok (.iload_n 2, 1) := by decide +kernel
theorem dX2_fillOrders_96 : decode cX2_fillOrders 96 = .ok (.iastore, 1) := by decide +kernel
theorem dX2_fillOrders_97 : decode cX2_fillOrders 97 = .ok (.iinc 1 1, 3) := by decide +kernel
theorem dX2_fillOrders_100 : decode cX2_fillOrders 100 = .ok (.goto (-64), 3) := by decide +kernel
theorem dX2_fillOrders_103 : decode cX2_fillOrders 103 = .ok (.return_, 1) := by decide +kernel
theorem dX2_canStandBehind_0 : decode cX2_canStandBehind 0 = .ok (.iconst 0, 1) := by decide +kernel
theorem dX2_canStandBehind_1 : decode cX2_canStandBehind 1 = .ok (.istore_n 2, 1) := by decide +kernel
theorem dX2_canStandBehind_2 : decode cX2_canStandBehind 2 = .ok (.iconst 0, 1) := by decide +kernel
theorem dX2_canStandBehind_3 : decode cX2_canStandBehind 3 = .ok (.istore_n 3, 1) := by decide +kernel
theorem dX2_canStandBehind_4 : decode cX2_canStandBehind 4 = .ok (.iload_n 3, 1) := by decide +kernel
theorem dX2_canStandBehind_5 : decode cX2_canStandBehind 5 = .ok (.aload_n 0, 1) := by decide +kernel
theorem dX2_canStandBehind_6 : decode cX2_canStandBehind 6 = .ok (.invokevirtual 60, 3) := by decide +kernel
theorem dX2_canStandBehind_9 : decode cX2_canStandBehind 9 = .ok (.if_icmp .ge 48, 3) := by decide +kernel
theorem dX2_canStandBehind_12 : decode cX2_canStandBehind 12 = .ok (.aload_n 0, 1) := by decide +kernel
theorem dX2_canStandBehind_13 : decode cX2_canStandBehind 13 = .ok (.getfield 15, 3) := by decide +kernel
theorem dX2_canStandBehind_16 : decode cX2_canStandBehind 16 = .ok (.iload_n 1, 1) := by decide +kernel
theorem dX2_canStandBehind_17 : decode cX2_canStandBehind 17 = .ok (.iaload, 1) := by decide +kernel
theorem dX2_canStandBehind_18 : decode cX2_canStandBehind 18 = .ok (.aload_n 0, 1) := by decide +kernel
theorem dX2_canStandBehind_19 : decode cX2_canStandBehind 19 = .ok (.getfield 15, 3) := by decide +kernel
theorem dX2_canStandBehind_22 : decode cX2_canStandBehind 22 = .ok (.iload_n 3, 1) := by decide +kernel
theorem dX2_canStandBehind_23 : decode cX2_canStandBehind 23 = .ok (.iaload, 1) := by decide +kernel
theorem dX2_canStandBehind_24 : decode cX2_canStandBehind 24 = .ok (.if_icmp .eq 27, 3) := by decide +kernel
theorem dX2_canStandBehind_27 : decode cX2_canStandBehind 27 = .ok (.aload_n 0, 1) := by decide +kernel
theorem dX2_canStandBehind_28 : decode cX2_canStandBehind 28 = .ok (.getfield 15, 3) := by decide +kernel
theorem dX2_canStandBehind_31 : decode cX2_canStandBehind 31 = .ok (.iload_n 3, 1) := by decide +kernel
theorem dX2_canStandBehind_32 : decode cX2_canStandBehind 32 = .ok (.iaload, 1) := by decide +kernel
theorem dX2_canStandBehind_33 : decode cX2_canStandBehind 33 = .ok (.aload_n 0, 1) := by decide +kernel
theorem dX2_canStandBehind_34 : decode cX2_canStandBehind 34 = .ok (.getfield 18, 3) := by decide +kernel
theorem dX2_canStandBehind_37 : decode cX2_canStandBehind 37 = .ok (.iload_n 1, 1) := by decide +kernel
theorem dX2_canStandBehind_38 : decode cX2_canStandBehind 38 = .ok (.iaload, 1) := by decide +kernel
theorem dX2_canStandBehind_39 : decode cX2_canStandBehind 39 = .ok (.invokestatic 66, 3) := by decide +kernel
theorem dX2_canStandBehind_42 : decode cX2_canStandBehind 42 = .ok (.ifCond .eq 9, 3) := by decide +kernel
theorem dX2_canStandBehind_45 : decode cX2_canStandBehind 45 = .ok (.iload_n 2, 1) := by decide +kernel
theorem dX2_canStandBehind_46 : decode cX2_canStandBehind 46 = .ok (.iconst 1, 1) := by decide +kernel
theorem dX2_canStandBehind_47 : decode cX2_canStandBehind 47 = .ok (.iload_n 3, 1) := by decide +kernel
theorem dX2_canStandBehind_48 : decode cX2_canStandBehind 48 = .ok (.ishl, 1) := by decide +kernel
theorem dX2_canStandBehind_49 : decode cX2_canStandBehind 49 = .ok (.ior, 1) := by decide +kernel
theorem dX2_canStandBehind_50 : decode cX2_canStandBehind 50 = .ok (.istore_n 2, 1) := by decide +kernel
theorem dX2_canStandBehind_51 : decode cX2_canStandBehind 51 = .ok (.iinc 3 1, 3) := by decide +kernel
theorem dX2_canStandBehind_54 : decode cX2_canStandBehind 54 = .ok (.goto (-50), 3) := by decide +kernel
theorem dX2_canStandBehind_57 : decode cX2_canStandBehind 57 = .ok (.iload_n 2, 1) := by decide +kernel
theorem dX2_canStandBehind_58 : decode cX2_canStandBehind 58 = .ok (.ireturn, 1) := by decide +kernel
theorem dX2_firstOfLongest_0 : decode cX2_firstOfLongest 0 = .ok (.iconst 0, 1) := by decide +kernel
theorem dX2_firstOfLongest_1 : decode cX2_firstOfLongest 1 = .ok (.istore_n 2, 1) := by decide +kernel
theorem dX2_firstOfLongest_2 : decode cX2_firstOfLongest 2 = .ok (.iload_n 2, 1) := by decide +kernel
theorem dX2_firstOfLongest_3 : decode cX2_firstOfLongest 3 = .ok (.aload_n 0, 1) := by decide +kernel
theorem dX2_firstOfLongest_4 : decode cX2_firstOfLongest 4 = .ok (.invokevirtual 60, 3) := by decide +kernel
theorem dX2_firstOfLongest_7 : decode cX2_firstOfLongest 7 = .ok (.if_icmp .ge 43, 3) := by decide +kernel
theorem dX2_firstOfLongest_10 : decode cX2_firstOfLongest 10 = .ok (.iload_n 2, 1) := by decide +kernel
theorem dX2_firstOfLongest_11 : decode cX2_firstOfLongest 11 = .ok (.iload_n 1, 1) := by decide +kernel
theorem dX2_firstOfLongest_12 : decode cX2_firstOfLongest 12 = .ok (.invokestatic 66, 3) := by decide +kernel
theorem dX2_firstOfLongest_15 : decode cX2_firstOfLongest 15 = .ok (.ifCond .eq 29, 3) := by decide +kernel
theorem dX2_firstOfLongest_18 : decode cX2_firstOfLongest 18 = .ok (.iconst 1, 1) := by decide +kernel
theorem dX2_firstOfLongest_19 : decode cX2_firstOfLongest 19 = .ok (.aload_n 0, 1) := by decide +kernel
theorem dX2_firstOfLongest_20 : decode cX2_firstOfLongest 20 = .ok (.getfield 24, 3) := by decide +kernel
theorem dX2_firstOfLongest_23 : decode cX2_firstOfLongest 23 = .ok (.iload_n 1, 1) := by decide +kernel
theorem dX2_firstOfLongest_24 : decode cX2_firstOfLongest 24 = .ok (.aload_n 0, 1) := by decide +kernel
theorem dX2_firstOfLongest_25 : decode cX2_firstOfLongest 25 = .ok (.getfield 21, 3) := by decide +kernel
theorem dX2_firstOfLongest_28 : decode cX2_firstOfLongest 28 = .ok (.iload_n 2, 1) := by decide +kernel
theorem dX2_firstOfLongest_29 : decode cX2_firstOfLongest 29 = .ok (.iaload, 1) := by decide +kernel
theorem dX2_firstOfLongest_30 : decode cX2_firstOfLongest 30 = .ok (.iand, 1) := by decide +kernel
theorem dX2_firstOfLongest_31 : decode cX2_firstOfLongest 31 = .ok (.iaload, 1) := by decide +kernel
theorem dX2_firstOfLongest_32 : decode cX2_firstOfLongest 32 = .ok (.iadd, 1) := by decide +kernel
theorem dX2_firstOfLongest_33 : decode cX2_firstOfLongest 33 = .ok (.aload_n 0, 1) := by decide +kernel
theorem dX2_firstOfLongest_34 : decode cX2_firstOfLongest 34 = .ok (.getfield 24, 3) := by decide +kernel
theorem dX2_firstOfLongest_37 : decode cX2_firstOfLongest 37 = .ok (.iload_n 1, 1) := by decide +kernel
theorem dX2_firstOfLongest_38 : decode cX2_firstOfLongest 38 = .ok (.iaload, 1) := by decide +kernel
theorem dX2_firstOfLongest_39 : decode cX2_firstOfLongest 39 = .ok (.if_icmp .ne 5, 3) := by decide +kernel
theorem dX2_firstOfLongest_42 : decode cX2_firstOfLongest 42 = .ok (.iload_n 2, 1) := by decide +kernel
theorem dX2_firstOfLongest_43 : decode cX2_firstOfLongest 43 = .ok (.ireturn, 1) := by decide +kernel
theorem dX2_firstOfLongest_44 : decode cX2_firstOfLongest 44 = .ok (.iinc 2 1, 3) := by decide +kernel
theorem dX2_firstOfLongest_47 : decode cX2_firstOfLongest 47 = .ok (.goto (-45), 3) := by decide +kernel
theorem dX2_firstOfLongest_50 : decode cX2_firstOfLongest 50 = .ok (.iconst 0, 1) := by decide +kernel
theorem dX2_firstOfLongest_51 : decode cX2_firstOfLongest 51 = .ok (.ireturn, 1) := by decide +kernel
theorem dX2_fillGroups_0 : decode cX2_fillGroups 0 = .ok (.iconst 0, 1) := by decide +kernel
theorem dX2_fillGroups_1 : decode cX2_fillGroups 1 = .ok (.istore_n 1, 1) := by decide +kernel
theorem dX2_fillGroups_2 : decode cX2_fillGroups 2 = .ok (.iload_n 1, 1) := by decide +kernel
theorem dX2_fillGroups_3 : decode cX2_fillGroups 3 = .ok (.aload_n 0, 1) := by decide +kernel
theorem dX2_fillGroups_4 : decode cX2_fillGroups 4 = .ok (.invokevirtual 60, 3) := by decide +kernel
theorem dX2_fillGroups_7 : decode cX2_fillGroups 7 = .ok (.if_icmp .ge 20, 3) := by decide +kernel
theorem dX2_fillGroups_10 : decode cX2_fillGroups 10 = .ok (.aload_n 0, 1) := by decide +kernel
theorem dX2_fillGroups_11 : decode cX2_fillGroups 11 = .ok (.getfield 21, 3) := by decide +kernel
theorem dX2_fillGroups_14 : decode cX2_fillGroups 14 = .ok (.iload_n 1, 1) := by decide +kernel
theorem dX2_fillGroups_15 : decode cX2_fillGroups 15 = .ok (.aload_n 0, 1) := by decide +kernel
theorem dX2_fillGroups_16 : decode cX2_fillGroups 16 = .ok (.iload_n 1, 1) := by decide +kernel
theorem dX2_fillGroups_17 : decode cX2_fillGroups 17 = .ok (.invokevirtual 73, 3) := by decide +kernel
theorem dX2_fillGroups_20 : decode cX2_fillGroups 20 = .ok (.iastore, 1) := by decide +kernel
theorem dX2_fillGroups_21 : decode cX2_fillGroups 21 = .ok (.iinc 1 1, 3) := by decide +kernel
theorem dX2_fillGroups_24 : decode cX2_fillGroups 24 = .ok (.goto (-22), 3) := by decide +kernel
theorem dX2_fillGroups_27 : decode cX2_fillGroups 27 = .ok (.aload_n 0, 1) := by decide +kernel
theorem dX2_fillGroups_28 : decode cX2_fillGroups 28 = .ok (.getfield 24, 3) := by decide +kernel
theorem dX2_fillGroups_31 : decode cX2_fillGroups 31 = .ok (.iconst 0, 1) := by decide +kernel
theorem dX2_fillGroups_32 : decode cX2_fillGroups 32 = .ok (.iconst 0, 1) := by decide +kernel
theorem dX2_fillGroups_33 : decode cX2_fillGroups 33 = .ok (.iastore, 1) := by decide +kernel
theorem dX2_fillGroups_34 : decode cX2_fillGroups 34 = .ok (.iconst 1, 1) := by decide +kernel
theorem dX2_fillGroups_35 : decode cX2_fillGroups 35 = .ok (.istore_n 1, 1) := by decide +kernel
theorem dX2_fillGroups_36 : decode cX2_fillGroups 36 = .ok (.iload_n 1, 1) := by decide +kernel
theorem dX2_fillGroups_37 : decode cX2_fillGroups 37 = .ok (.aload_n 0, 1) := by decide +kernel
theorem dX2_fillGroups_38 : decode cX2_fillGroups 38 = .ok (.invokevirtual 34, 3) := by decide +kernel
theorem dX2_fillGroups_41 : decode cX2_fillGroups 41 = .ok (.if_icmp .gt 70, 3) := by decide +kernel
theorem dX2_fillGroups_44 : decode cX2_fillGroups 44 = .ok (.iload_n 1, 1) := by decide +kernel
theorem dX2_fillGroups_45 : decode cX2_fillGroups 45 = .ok (.invokestatic 76, 3) := by decide +kernel
theorem dX2_fillGroups_48 : decode cX2_fillGroups 48 = .ok (.istore_n 2, 1) := by decide +kernel
theorem dX2_fillGroups_49 : decode cX2_fillGroups 49 = .ok (.iload_n 1, 1) := by decide +kernel
theorem dX2_fillGroups_50 : decode cX2_fillGroups 50 = .ok (.iload_n 1, 1) := by decide +kernel
theorem dX2_fillGroups_51 : decode cX2_fillGroups 51 = .ok (.iconst 1, 1) := by decide +kernel
theorem dX2_fillGroups_52 : decode cX2_fillGroups 52 = .ok (.isub, 1) := by decide +kernel
theorem dX2_fillGroups_53 : decode cX2_fillGroups 53 = .ok (.iand, 1) := by decide +kernel
theorem dX2_fillGroups_54 : decode cX2_fillGroups 54 = .ok (.istore_n 3, 1) := by decide +kernel
theorem dX2_fillGroups_55 : decode cX2_fillGroups 55 = .ok (.aload_n 0, 1) := by decide +kernel
theorem dX2_fillGroups_56 : decode cX2_fillGroups 56 = .ok (.getfield 24, 3) := by decide +kernel
theorem dX2_fillGroups_59 : decode cX2_fillGroups 59 = .ok (.iload_n 3, 1) := by decide +kernel
theorem dX2_fillGroups_60 : decode cX2_fillGroups 60 = .ok (.iaload, 1) := by decide +kernel
theorem dX2_fillGroups_61 : decode cX2_fillGroups 61 = .ok (.iconst 1, 1) := by decide +kernel
theorem dX2_fillGroups_62 : decode cX2_fillGroups 62 = .ok (.if_icmp .gt 20, 3) := by decide +kernel
theorem dX2_fillGroups_65 : decode cX2_fillGroups 65 = .ok (.iload_n 3, 1) := by decide +kernel
theorem dX2_fillGroups_66 : decode cX2_fillGroups 66 = .ok (.aload_n 0, 1) := by decide +kernel
theorem dX2_fillGroups_67 : decode cX2_fillGroups 67 = .ok (.getfield 21, 3) := by decide +kernel
theorem dX2_fillGroups_70 : decode cX2_fillGroups 70 = .ok (.iload_n 2, 1) := by decide +kernel
theorem dX2_fillGroups_71 : decode cX2_fillGroups 71 = .ok (.iaload, 1) := by decide +kernel
theorem dX2_fillGroups_72 : decode cX2_fillGroups 72 = .ok (.iconst (-1), 1) := by decide +kernel
theorem dX2_fillGroups_73 : decode cX2_fillGroups 73 = .ok (.ixor, 1) := by decide +kernel
theorem dX2_fillGroups_74 : decode cX2_fillGroups 74 = .ok (.iand, 1) := by decide +kernel
theorem dX2_fillGroups_75 : decode cX2_fillGroups 75 = .ok (.ifCond .ne 7, 3) := by decide +kernel
theorem dX2_fillGroups_78 : decode cX2_fillGroups 78 = .ok (.iconst 1, 1) := by decide +kernel
theorem dX2_fillGroups_79 : decode cX2_fillGroups 79 = .ok (.goto 4, 3) := by decide +kernel
theorem dX2_fillGroups_82 : decode cX2_fillGroups 82 = .ok (.iconst 0, 1) := by decide +kernel
theorem dX2_fillGroups_83 : decode cX2_fillGroups 83 = .ok (.istore 4, 2) := by decide +kernel
theorem dX2_fillGroups_85 : decode cX2_fillGroups 85 = .ok (.aload_n 0, 1) := by decide +kernel
theorem dX2_fillGroups_86 : decode cX2_fillGroups 86 = .ok (.getfield 24, 3) := by decide +kernel
theorem dX2_fillGroups_89 : decode cX2_fillGroups 89 = .ok (.iload_n 1, 1) := by decide +kernel
theorem dX2_fillGroups_90 : decode cX2_fillGroups 90 = .ok (.iload 4, 2) := by decide +kernel
theorem dX2_fillGroups_92 : decode cX2_fillGroups 92 = .ok (.ifCond .eq 7, 3) := by decide +kernel
theorem dX2_fillGroups_95 : decode cX2_fillGroups 95 = .ok (.iconst 1, 1) := by decide +kernel
theorem dX2_fillGroups_96 : decode cX2_fillGroups 96 = .ok (.goto 8, 3) := by decide +kernel
theorem dX2_fillGroups_99 : decode cX2_fillGroups 99 = .ok (.aload_n 0, 1) := by decide +kernel
theorem dX2_fillGroups_100 : decode cX2_fillGroups 100 = .ok (.iload_n 1, 1) := by decide +kernel
theorem dX2_fillGroups_101 : decode cX2_fillGroups 101 = .ok (.invokevirtual 81, 3) := by decide +kernel
theorem dX2_fillGroups_104 : decode cX2_fillGroups 104 = .ok (.iastore, 1) := by decide +kernel
theorem dX2_fillGroups_105 : decode cX2_fillGroups 105 = .ok (.iinc 1 1, 3) := by decide +kernel
theorem dX2_fillGroups_108 : decode cX2_fillGroups 108 = .ok (.goto (-72), 3) := by decide +kernel
theorem dX2_fillGroups_111 : decode cX2_fillGroups 111 = .ok (.return_, 1) := by decide +kernel
theorem dX2_canBeGroupedWith_0 : decode cX2_canBeGroupedWith 0 = .ok (.iconst 0, 1) := by decide +kernel
theorem dX2_canBeGroupedWith_1 : decode cX2_canBeGroupedWith 1 = .ok (.istore_n 2, 1) := by decide +kernel
theorem dX2_canBeGroupedWith_2 : decode cX2_canBeGroupedWith 2 = .ok (.iconst 0, 1) := by decide +kernel
theorem dX2_canBeGroupedWith_3 : decode cX2_canBeGroupedWith 3 = .ok (.istore_n 3, 1) := by decide +kernel
theorem dX2_canBeGroupedWith_4 : decode cX2_canBeGroupedWith 4 = .ok (.iload_n 3, 1) := by decide +kernel
theorem dX2_canBeGroupedWith_5 : decode cX2_canBeGroupedWith 5 = .ok (.aload_n 0, 1) := by decide +kernel
theorem dX2_canBeGroupedWith_6 : decode cX2_canBeGroupedWith 6 = .ok (.invokevirtual 60, 3) := by decide +kernel
theorem dX2_canBeGroupedWith_9 : decode cX2_canBeGroupedWith 9 = .ok (.if_icmp .ge 93, 3) := by decide +kernel
theorem dX2_canBeGroupedWith_12 : decode cX2_canBeGroupedWith 12 = .ok (.aload_n 0, 1) := by decide +kernel
theorem dX2_canBeGroupedWith_13 : decode cX2_canBeGroupedWith 13 = .ok (.getfield 9, 3) := by decide +kernel
theorem dX2_canBeGroupedWith_16 : decode cX2_canBeGroupedWith 16 = .ok (.iload_n 1, 1) := by decide +kernel
theorem dX2_canBeGroupedWith_17 : decode cX2_canBeGroupedWith 17 = .ok (.iaload, 1) := by decide +kernel
theorem dX2_canBeGroupedWith_18 : decode cX2_canBeGroupedWith 18 = .ok (.aload_n 0, 1) := by decide +kernel
theorem dX2_canBeGroupedWith_19 : decode cX2_canBeGroupedWith 19 = .ok (.getfield 9, 3) := by decide +kernel
theorem dX2_canBeGroupedWith_22 : decode cX2_canBeGroupedWith 22 = .ok (.iload_n 3, 1) := by decide +kernel
theorem dX2_canBeGroupedWith_23 : decode cX2_canBeGroupedWith 23 = .ok (.iaload, 1) := by decide +kernel
theorem dX2_canBeGroupedWith_24 : decode cX2_canBeGroupedWith 24 = .ok (.if_icmp .eq 43, 3) := by decide +kernel
theorem dX2_canBeGroupedWith_27 : decode cX2_canBeGroupedWith 27 = .ok (.aload_n 0, 1) := by decide +kernel
theorem dX2_canBeGroupedWith_28 : decode cX2_canBeGroupedWith 28 = .ok (.getfield 15, 3) := by decide +kernel
theorem dX2_canBeGroupedWith_31 : decode cX2_canBeGroupedWith 31 = .ok (.iload_n 1, 1) := by decide +kernel
theorem dX2_canBeGroupedWith_32 : decode cX2_canBeGroupedWith 32 = .ok (.iaload, 1) := by decide +kernel
theorem dX2_canBeGroupedWith_33 : decode cX2_canBeGroupedWith 33 = .ok (.aload_n 0, 1) := by decide +kernel
theorem dX2_canBeGroupedWith_34 : decode cX2_canBeGroupedWith 34 = .ok (.getfield 18, 3) := by decide +kernel
theorem dX2_canBeGroupedWith_37 : decode cX2_canBeGroupedWith 37 = .ok (.iload_n 3, 1) := by decide +kernel
theorem dX2_canBeGroupedWith_38 : decode cX2_canBeGroupedWith 38 = .ok (.iaload, 1) := by decide +kernel
theorem dX2_canBeGroupedWith_39 : decode cX2_canBeGroupedWith 39 = .ok (.invokestatic 66, 3) := by decide +kernel
theorem dX2_canBeGroupedWith_42 : decode cX2_canBeGroupedWith 42 = .ok (.ifCond .ne 25, 3) := by decide +kernel
theorem dX2_canBeGroupedWith_45 : decode cX2_canBeGroupedWith 45 = .ok (.aload_n 0, 1) := by decide +kernel
theorem dX2_canBeGroupedWith_46 : decode cX2_canBeGroupedWith 46 = .ok (.getfield 15, 3) := by decide +kernel
theorem dX2_canBeGroupedWith_49 : decode cX2_canBeGroupedWith 49 = .ok (.iload_n 3, 1) := by decide +kernel
theorem dX2_canBeGroupedWith_50 : decode cX2_canBeGroupedWith 50 = .ok (.iaload, 1) := by decide +kernel
theorem dX2_canBeGroupedWith_51 : decode cX2_canBeGroupedWith 51 = .ok (.aload_n 0, 1) := by decide +kernel
theorem dX2_canBeGroupedWith_52 : decode cX2_canBeGroupedWith 52 = .ok (.getfield 18, 3) := by decide +kernel
theorem dX2_canBeGroupedWith_55 : decode cX2_canBeGroupedWith 55 = .ok (.iload_n 1, 1) := by decide +kernel
theorem dX2_canBeGroupedWith_56 : decode cX2_canBeGroupedWith 56 = .ok (.iaload, 1) := by decide +kernel
theorem dX2_canBeGroupedWith_57 : decode cX2_canBeGroupedWith 57 = .ok (.invokestatic 66, 3) := by decide +kernel
theorem dX2_canBeGroupedWith_60 : decode cX2_canBeGroupedWith 60 = .ok (.ifCond .ne 7, 3) := by decide +kernel
theorem dX2_canBeGroupedWith_63 : decode cX2_canBeGroupedWith 63 = .ok (.iconst 1, 1) := by decide +kernel
theorem dX2_canBeGroupedWith_64 : decode cX2_canBeGroupedWith 64 = .ok (.goto 4, 3) := by decide +kernel
theorem dX2_canBeGroupedWith_67 : decode cX2_canBeGroupedWith 67 = .ok (.iconst 0, 1) := by decide +kernel
theorem dX2_canBeGroupedWith_68 : decode cX2_canBeGroupedWith 68 = .ok (.istore 4, 2) := by decide +kernel
theorem dX2_canBeGroupedWith_70 : decode cX2_canBeGroupedWith 70 = .ok (.aload_n 0, 1) := by decide +kernel
theorem dX2_canBeGroupedWith_71 : decode cX2_canBeGroupedWith 71 = .ok (.getfield 15, 3) := by decide +kernel
theorem dX2_canBeGroupedWith_74 : decode cX2_canBeGroupedWith 74 = .ok (.iload_n 1, 1) := by decide +kernel
theorem dX2_canBeGroupedWith_75 : decode cX2_canBeGroupedWith 75 = .ok (.iaload, 1) := by decide +kernel
theorem dX2_canBeGroupedWith_76 : decode cX2_canBeGroupedWith 76 = .ok (.aload_n 0, 1) := by decide +kernel
theorem dX2_canBeGroupedWith_77 : decode cX2_canBeGroupedWith 77 = .ok (.getfield 15, 3) := by decide +kernel
theorem dX2_canBeGroupedWith_80 : decode cX2_canBeGroupedWith 80 = .ok (.iload_n 3, 1) := by decide +kernel
theorem dX2_canBeGroupedWith_81 : decode cX2_canBeGroupedWith 81 = .ok (.iaload, 1) := by decide +kernel
theorem dX2_canBeGroupedWith_82 : decode cX2_canBeGroupedWith 82 = .ok (.if_icmp .eq 8, 3) := by decide +kernel
theorem dX2_canBeGroupedWith_85 : decode cX2_canBeGroupedWith 85 = .ok (.iload 4, 2) := by decide +kernel
theorem dX2_canBeGroupedWith_87 : decode cX2_canBeGroupedWith 87 = .ok (.ifCond .eq 9, 3) := by decide +kernel
theorem dX2_canBeGroupedWith_90 : decode cX2_canBeGroupedWith 90 = .ok (.iload_n 2, 1) := by decide +kernel
theorem dX2_canBeGroupedWith_91 : decode cX2_canBeGroupedWith 91 = .ok (.iconst 1, 1) := by decide +kernel
theorem dX2_canBeGroupedWith_92 : decode cX2_canBeGroupedWith 92 = .ok (.iload_n 3, 1) := by decide +kernel
theorem dX2_canBeGroupedWith_93 : decode cX2_canBeGroupedWith 93 = .ok (.ishl, 1) := by decide +kernel
theorem dX2_canBeGroupedWith_94 : decode cX2_canBeGroupedWith 94 = .ok (.ior, 1) := by decide +kernel
theorem dX2_canBeGroupedWith_95 : decode cX2_canBeGroupedWith 95 = .ok (.istore_n 2, 1) := by decide +kernel
theorem dX2_canBeGroupedWith_96 : decode cX2_canBeGroupedWith 96 = .ok (.iinc 3 1, 3) := by decide +kernel
theorem dX2_canBeGroupedWith_99 : decode cX2_canBeGroupedWith 99 = .ok (.goto (-95), 3) := by decide +kernel
theorem dX2_canBeGroupedWith_102 : decode cX2_canBeGroupedWith 102 = .ok (.iload_n 2, 1) := by decide +kernel
theorem dX2_canBeGroupedWith_103 : decode cX2_canBeGroupedWith 103 = .ok (.ireturn, 1) := by decide +kernel
theorem dX2_fewestOfSeveral_0 : decode cX2_fewestOfSeveral 0 = .ok (.iload_n 1, 1) := by decide +kernel
theorem dX2_fewestOfSeveral_1 : decode cX2_fewestOfSeveral 1 = .ok (.invokestatic 84, 3) := by decide +kernel
theorem dX2_fewestOfSeveral_4 : decode cX2_fewestOfSeveral 4 = .ok (.istore_n 2, 1) := by decide +kernel
theorem dX2_fewestOfSeveral_5 : decode cX2_fewestOfSeveral 5 = .ok (.iload_n 1, 1) := by decide +kernel
theorem dX2_fewestOfSeveral_6 : decode cX2_fewestOfSeveral 6 = .ok (.iload_n 2, 1) := by decide +kernel
theorem dX2_fewestOfSeveral_7 : decode cX2_fewestOfSeveral 7 = .ok (.iconst (-1), 1) := by decide +kernel
theorem dX2_fewestOfSeveral_8 : decode cX2_fewestOfSeveral 8 = .ok (.ixor, 1) := by decide +kernel
theorem dX2_fewestOfSeveral_9 : decode cX2_fewestOfSeveral 9 = .ok (.iand, 1) := by decide +kernel
theorem dX2_fewestOfSeveral_10 : decode cX2_fewestOfSeveral 10 = .ok (.istore_n 3, 1) := by decide +kernel
theorem dX2_fewestOfSeveral_11 : decode cX2_fewestOfSeveral 11 = .ok (.bipush 10, 2) := by decide +kernel
theorem dX2_fewestOfSeveral_13 : decode cX2_fewestOfSeveral 13 = .ok (.istore 4, 2) := by decide +kernel
theorem dX2_fewestOfSeveral_15 : decode cX2_fewestOfSeveral 15 = .ok (.iload_n 3, 1) := by decide +kernel
theorem dX2_fewestOfSeveral_16 : decode cX2_fewestOfSeveral 16 = .ok (.istore 5, 2) := by decide +kernel
theorem dX2_fewestOfSeveral_18 : decode cX2_fewestOfSeveral 18 = .ok (.iload 5, 2) := by decide +kernel
theorem dX2_fewestOfSeveral_20 : decode cX2_fewestOfSeveral 20 = .ok (.ifCond .le 47, 3) := by decide +kernel
theorem dX2_fewestOfSeveral_23 : decode cX2_fewestOfSeveral 23 = .ok (.iload 5, 2) := by decide +kernel
theorem dX2_fewestOfSeveral_25 : decode cX2_fewestOfSeveral 25 = .ok (.iconst 1, 1) := by decide +kernel
theorem dX2_fewestOfSeveral_26 : decode cX2_fewestOfSeveral 26 = .ok (.isub, 1) := by decide +kernel
theorem dX2_fewestOfSeveral_27 : decode cX2_fewestOfSeveral 27 = .ok (.iload_n 3, 1) := by decide +kernel
theorem dX2_fewestOfSeveral_28 : decode cX2_fewestOfSeveral 28 = .ok (.iand, 1) := by decide +kernel
theorem dX2_fewestOfSeveral_29 : decode cX2_fewestOfSeveral 29 = .ok (.istore 5, 2) := by decide +kernel
theorem dX2_fewestOfSeveral_31 : decode cX2_fewestOfSeveral 31 = .ok (.aload_n 0, 1) := by decide +kernel
theorem dX2_fewestOfSeveral_32 : decode cX2_fewestOfSeveral 32 = .ok (.getfield 24, 3) := by decide +kernel
theorem dX2_fewestOfSeveral_35 : decode cX2_fewestOfSeveral 35 = .ok (.iload_n 2, 1) := by decide +kernel
theorem dX2_fewestOfSeveral_36 : decode cX2_fewestOfSeveral 36 = .ok (.iload 5, 2) := by decide +kernel
theorem dX2_fewestOfSeveral_38 : decode cX2_fewestOfSeveral 38 = .ok (.ior, 1) := by decide +kernel
theorem dX2_fewestOfSeveral_39 : decode cX2_fewestOfSeveral 39 = .ok (.iaload, 1) := by decide +kernel
theorem dX2_fewestOfSeveral_40 : decode cX2_fewestOfSeveral 40 = .ok (.iconst 1, 1) := by decide +kernel
theorem dX2_fewestOfSeveral_41 : decode cX2_fewestOfSeveral 41 = .ok (.if_icmp .ne (-23), 3) := by decide +kernel
theorem dX2_fewestOfSeveral_44 : decode cX2_fewestOfSeveral 44 = .ok (.iload 4, 2) := by decide +kernel
theorem dX2_fewestOfSeveral_46 : decode cX2_fewestOfSeveral 46 = .ok (.iconst 1, 1) := by decide +kernel
theorem dX2_fewestOfSeveral_47 : decode cX2_fewestOfSeveral 47 = .ok (.aload_n 0, 1) := by decide +kernel
theorem dX2_fewestOfSeveral_48 : decode cX2_fewestOfSeveral 48 = .ok (.getfield 24, 3) := by decide +kernel
theorem dX2_fewestOfSeveral_51 : decode cX2_fewestOfSeveral 51 = .ok (.iload_n 3, 1) := by decide +kernel
theorem dX2_fewestOfSeveral_52 : decode cX2_fewestOfSeveral 52 = .ok (.iload 5, 2) := by decide +kernel
theorem dX2_fewestOfSeveral_54 : decode cX2_fewestOfSeveral 54 = .ok (.iconst (-1), 1) := by decide +kernel
theorem dX2_fewestOfSeveral_55 : decode cX2_fewestOfSeveral 55 = .ok (.ixor, 1) := by decide +kernel
theorem dX2_fewestOfSeveral_56 : decode cX2_fewestOfSeveral 56 = .ok (.iand, 1) := by decide +kernel
theorem dX2_fewestOfSeveral_57 : decode cX2_fewestOfSeveral 57 = .ok (.iaload, 1) := by decide +kernel
theorem dX2_fewestOfSeveral_58 : decode cX2_fewestOfSeveral 58 = .ok (.iadd, 1) := by decide +kernel
theorem dX2_fewestOfSeveral_59 : decode cX2_fewestOfSeveral 59 = .ok (.invokestatic 54, 3) := by decide +kernel
theorem dX2_fewestOfSeveral_62 : decode cX2_fewestOfSeveral 62 = .ok (.istore 4, 2) := by decide +kernel
theorem dX2_fewestOfSeveral_64 : decode cX2_fewestOfSeveral 64 = .ok (.goto (-46), 3) := by decide +kernel
theorem dX2_fewestOfSeveral_67 : decode cX2_fewestOfSeveral 67 = .ok (.iload 4, 2) := by decide +kernel
theorem dX2_fewestOfSeveral_69 : decode cX2_fewestOfSeveral 69 = .ok (.ireturn, 1) := by decide +kernel
theorem dX2_firstOfFewest_0 : decode cX2_firstOfFewest 0 = .ok (.iload_n 1, 1) := by decide +kernel
theorem dX2_firstOfFewest_1 : decode cX2_firstOfFewest 1 = .ok (.invokestatic 84, 3) := by decide +kernel
theorem dX2_firstOfFewest_4 : decode cX2_firstOfFewest 4 = .ok (.istore_n 2, 1) := by decide +kernel
theorem dX2_firstOfFewest_5 : decode cX2_firstOfFewest 5 = .ok (.iload_n 2, 1) := by decide +kernel
theorem dX2_firstOfFewest_6 : decode cX2_firstOfFewest 6 = .ok (.istore_n 3, 1) := by decide +kernel
theorem dX2_firstOfFewest_7 : decode cX2_firstOfFewest 7 = .ok (.iload_n 3, 1) := by decide +kernel
theorem dX2_firstOfFewest_8 : decode cX2_firstOfFewest 8 = .ok (.iload_n 1, 1) := by decide +kernel
theorem dX2_firstOfFewest_9 : decode cX2_firstOfFewest 9 = .ok (.if_icmp .gt 68, 3) := by decide +kernel
theorem dX2_firstOfFewest_12 : decode cX2_firstOfFewest 12 = .ok (.iload_n 3, 1) := by decide +kernel
theorem dX2_firstOfFewest_13 : decode cX2_firstOfFewest 13 = .ok (.iload_n 2, 1) := by decide +kernel
theorem dX2_firstOfFewest_14 : decode cX2_firstOfFewest 14 = .ok (.iand, 1) := by decide +kernel
theorem dX2_firstOfFewest_15 : decode cX2_firstOfFewest 15 = .ok (.ifCond .eq 25, 3) := by decide +kernel
theorem dX2_firstOfFewest_18 : decode cX2_firstOfFewest 18 = .ok (.iload_n 3, 1) := by decide +kernel
theorem dX2_firstOfFewest_19 : decode cX2_firstOfFewest 19 = .ok (.iload_n 1, 1) := by decide +kernel
theorem dX2_firstOfFewest_20 : decode cX2_firstOfFewest 20 = .ok (.iconst (-1), 1) := by decide +kernel
theorem dX2_firstOfFewest_21 : decode cX2_firstOfFewest 21 = .ok (.ixor, 1) := by decide +kernel
theorem dX2_firstOfFewest_22 : decode cX2_firstOfFewest 22 = .ok (.iand, 1) := by decide +kernel
theorem dX2_firstOfFewest_23 : decode cX2_firstOfFewest 23 = .ok (.ifCond .ne 17, 3) := by decide +kernel
theorem dX2_firstOfFewest_26 : decode cX2_firstOfFewest 26 = .ok (.aload_n 0, 1) := by decide +kernel
theorem dX2_firstOfFewest_27 : decode cX2_firstOfFewest 27 = .ok (.getfield 24, 3) := by decide +kernel
theorem dX2_firstOfFewest_30 : decode cX2_firstOfFewest 30 = .ok (.iload_n 3, 1) := by decide +kernel
theorem dX2_firstOfFewest_31 : decode cX2_firstOfFewest 31 = .ok (.iaload, 1) := by decide +kernel
theorem dX2_firstOfFewest_32 : decode cX2_firstOfFewest 32 = .ok (.iconst 1, 1) := by decide +kernel
theorem dX2_firstOfFewest_33 : decode cX2_firstOfFewest 33 = .ok (.if_icmp .ne 7, 3) := by decide +kernel
theorem dX2_firstOfFewest_36 : decode cX2_firstOfFewest 36 = .ok (.iconst 1, 1) := by decide +kernel
theorem dX2_firstOfFewest_37 : decode cX2_firstOfFewest 37 = .ok (.goto 4, 3) := by decide +kernel
theorem dX2_firstOfFewest_40 : decode cX2_firstOfFewest 40 = .ok (.iconst 0, 1) := by decide +kernel
theorem dX2_firstOfFewest_41 : decode cX2_firstOfFewest 41 = .ok (.istore 4, 2) := by decide +kernel
theorem dX2_firstOfFewest_43 : decode cX2_firstOfFewest 43 = .ok (.iload 4, 2) := by decide +kernel
theorem dX2_firstOfFewest_45 : decode cX2_firstOfFewest 45 = .ok (.ifCond .eq 26, 3) := by decide +kernel
theorem dX2_firstOfFewest_48 : decode cX2_firstOfFewest 48 = .ok (.iconst 1, 1) := by decide +kernel
theorem dX2_firstOfFewest_49 : decode cX2_firstOfFewest 49 = .ok (.aload_n 0, 1) := by decide +kernel
theorem dX2_firstOfFewest_50 : decode cX2_firstOfFewest 50 = .ok (.getfield 24, 3) := by decide +kernel
theorem dX2_firstOfFewest_53 : decode cX2_firstOfFewest 53 = .ok (.iload_n 1, 1) := by decide +kernel
theorem dX2_firstOfFewest_54 : decode cX2_firstOfFewest 54 = .ok (.iload_n 3, 1) := by decide +kernel
theorem dX2_firstOfFewest_55 : decode cX2_firstOfFewest 55 = .ok (.iconst (-1), 1) := by decide +kernel
theorem dX2_firstOfFewest_56 : decode cX2_firstOfFewest 56 = .ok (.ixor, 1) := by decide +kernel
theorem dX2_firstOfFewest_57 : decode cX2_firstOfFewest 57 = .ok (.iand, 1) := by decide +kernel
theorem dX2_firstOfFewest_58 : decode cX2_firstOfFewest 58 = .ok (.iaload, 1) := by decide +kernel
theorem dX2_firstOfFewest_59 : decode cX2_firstOfFewest 59 = .ok (.iadd, 1) := by decide +kernel
theorem dX2_firstOfFewest_60 : decode cX2_firstOfFewest 60 = .ok (.aload_n 0, 1) := by decide +kernel
theorem dX2_firstOfFewest_61 : decode cX2_firstOfFewest 61 = .ok (.getfield 24, 3) := by decide +kernel
theorem dX2_firstOfFewest_64 : decode cX2_firstOfFewest 64 = .ok (.iload_n 1, 1) := by decide +kernel
theorem dX2_firstOfFewest_65 : decode cX2_firstOfFewest 65 = .ok (.iaload, 1) := by decide +kernel
theorem dX2_firstOfFewest_66 : decode cX2_firstOfFewest 66 = .ok (.if_icmp .ne 5, 3) := by decide +kernel
theorem dX2_firstOfFewest_69 : decode cX2_firstOfFewest 69 = .ok (.iload_n 3, 1) := by decide +kernel
theorem dX2_firstOfFewest_70 : decode cX2_firstOfFewest 70 = .ok (.ireturn, 1) := by decide +kernel
theorem dX2_firstOfFewest_71 : decode cX2_firstOfFewest 71 = .ok (.iinc 3 1, 3) := by decide +kernel
theorem dX2_firstOfFewest_74 : decode cX2_firstOfFewest 74 = .ok (.goto (-67), 3) := by decide +kernel
theorem dX2_firstOfFewest_77 : decode cX2_firstOfFewest 77 = .ok (.iload_n 1, 1) := by decide +kernel
theorem dX2_firstOfFewest_78 : decode cX2_firstOfFewest 78 = .ok (.ireturn, 1) := by decide +kernel
end
section
theorem dX3_init_0 : decode cX3_init 0 = .ok (.aload_n 0, 1) := by decide +kernel
theorem dX3_init_1 : decode cX3_init 1 = .ok (.invokespecial 1, 3) := by decide +kernel
theorem dX3_init_4 : decode cX3_init 4 = .ok (.aload_n 0, 1) := by decide +kernel
theorem dX3_init_5 : decode cX3_init 5 = .ok (.bipush 10, 2) := by decide +kernel
theorem dX3_init_7 : decode cX3_init 7 = .ok (.newarray .long, 2) := by decide +kernel
theorem dX3_init_9 : decode cX3_init 9 = .ok (.putfield 9, 3) := by decide +kernel
theorem dX3_init_12 : decode cX3_init 12 = .ok (.aload_n 0, 1) := by decide +kernel
theorem dX3_init_13 : decode cX3_init 13 = .ok (.new 13, 3) := by decide +kernel
theorem dX3_init_16 : decode cX3_init 16 = .ok (.dup, 1) := by decide +kernel
theorem dX3_init_17 : decode cX3_init 17 = .ok (.invokespecial 15, 3) := by decide +kernel
theorem dX3_init_20 : decode cX3_init 20 = .ok (.putfield 16, 3) := by decide +kernel
theorem dX3_init_23 : decode cX3_init 23 = .ok (.aload_n 0, 1) := by decide +kernel
theorem dX3_init_24 : decode cX3_init 24 = .ok (.bipush 40, 2) := by decide +kernel
theorem dX3_init_26 : decode cX3_init 26 = .ok (.newarray .int, 2) := by decide +kernel
theorem dX3_init_28 : decode cX3_init 28 = .ok (.putfield 20, 3) := by decide +kernel
theorem dX3_init_31 : decode cX3_init 31 = .ok (.aload_n 0, 1) := by decide +kernel
theorem dX3_init_32 : decode cX3_init 32 = .ok (.bipush 40, 2) := by decide +kernel
theorem dX3_init_34 : decode cX3_init 34 = .ok (.newarray .int, 2) := by decide +kernel
theorem dX3_init_36 : decode cX3_init 36 = .ok (.putfield 24, 3) := by decide +kernel
theorem dX3_init_39 : decode cX3_init 39 = .ok (.aload_n 0, 1) := by decide +kernel
theorem dX3_init_40 : decode cX3_init 40 = .ok (.bipush 40, 2) := by decide +kernel
theorem dX3_init_42 : decode cX3_init 42 = .ok (.newarray .int, 2) := by decide +kernel
theorem dX3_init_44 : decode cX3_init 44 = .ok (.putfield 27, 3) := by decide +kernel
theorem dX3_init_47 : decode cX3_init 47 = .ok (.aload_n 0, 1) := by decide +kernel
theorem dX3_init_48 : decode cX3_init 48 = .ok (.new 30, 3) := by decide +kernel
theorem dX3_init_51 : decode cX3_init 51 = .ok (.dup, 1) := by decide +kernel
theorem dX3_init_52 : decode cX3_init 52 = .ok (.invokespecial 32, 3) := by decide +kernel
theorem dX3_init_55 : decode cX3_init 55 = .ok (.putfield 33, 3) := by decide +kernel
theorem dX3_init_58 : decode cX3_init 58 = .ok (.aload_n 0, 1) := by decide +kernel
theorem dX3_init_59 : decode cX3_init 59 = .ok (.new 37, 3) := by decide +kernel
theorem dX3_init_62 : decode cX3_init 62 = .ok (.dup, 1) := by decide +kernel
theorem dX3_init_63 : decode cX3_init 63 = .ok (.invokespecial 39, 3) := by decide +kernel
theorem dX3_init_66 : decode cX3_init 66 = .ok (.putfield 40, 3) := by decide +kernel
theorem dX3_init_69 : decode cX3_init 69 = .ok (.aload_n 0, 1) := by decide +kernel
theorem dX3_init_70 : decode cX3_init 70 = .ok (.iconst 5, 1) := by decide +kernel
theorem dX3_init_71 : decode cX3_init 71 = .ok (.newarray .int, 2) := by decide +kernel
theorem dX3_init_73 : decode cX3_init 73 = .ok (.putfield 44, 3) := by decide +kernel
theorem dX3_init_76 : decode cX3_init 76 = .ok (.return_, 1) := by decide +kernel
theorem dX3_piece_0 : decode cX3_piece 0 = .ok (.aload_n 0, 1) := by decide +kernel
theorem dX3_piece_1 : decode cX3_piece 1 = .ok (.getfield 47, 3) := by decide +kernel
theorem dX3_piece_4 : decode cX3_piece 4 = .ok (.ifCond .le 6, 3) := by decide +kernel
theorem dX3_piece_7 : decode cX3_piece 7 = .ok (.bipush (-5), 2) := by decide +kernel
theorem dX3_piece_9 : decode cX3_piece 9 = .ok (.ireturn, 1) := by decide +kernel
theorem dX3_piece_10 : decode cX3_piece 10 = .ok (.aload_n 0, 1) := by decide +kernel
theorem dX3_piece_11 : decode cX3_piece 11 = .ok (.getfield 51, 3) := by decide +kernel
theorem dX3_piece_14 : decode cX3_piece 14 = .ok (.bipush 10, 2) := by decide +kernel
theorem dX3_piece_16 : decode cX3_piece 16 = .ok (.if_icmp .lt 6, 3) := by decide +kernel
theorem dX3_piece_19 : decode cX3_piece 19 = .ok (.bipush (-4), 2) := by decide +kernel
theorem dX3_piece_21 : decode cX3_piece 21 = .ok (.ireturn, 1) := by decide +kernel
theorem dX3_piece_22 : decode cX3_piece 22 = .ok (.aload_n 0, 1) := by decide +kernel
theorem dX3_piece_23 : decode cX3_piece 23 = .ok (.getfield 9, 3) := by decide +kernel
theorem dX3_piece_26 : decode cX3_piece 26 = .ok (.aload_n 0, 1) := by decide +kernel
theorem dX3_piece_27 : decode cX3_piece 27 = .ok (.getfield 51, 3) := by decide +kernel
theorem dX3_piece_30 : decode cX3_piece 30 = .ok (.lload_n 1, 1) := by decide +kernel
theorem dX3_piece_31 : decode cX3_piece 31 = .ok (.lastore, 1) := by decide +kernel
theorem dX3_piece_32 : decode cX3_piece 32 = .ok (.aload_n 0, 1) := by decide +kernel
theorem dX3_piece_33 : decode cX3_piece 33 = .ok (.dup, 1) := by decide +kernel
theorem dX3_piece_34 : decode cX3_piece 34 = .ok (.getfield 51, 3) := by decide +kernel
theorem dX3_piece_37 : decode cX3_piece 37 = .ok (.iconst 1, 1) := by decide +kernel
theorem dX3_piece_38 : decode cX3_piece 38 = .ok (.iadd, 1) := by decide +kernel
theorem dX3_piece_39 : decode cX3_piece 39 = .ok (.putfield 51, 3) := by decide +kernel
theorem dX3_piece_42 : decode cX3_piece 42 = .ok (.aload_n 0, 1) := by decide +kernel
theorem dX3_piece_43 : decode cX3_piece 43 = .ok (.getfield 51, 3) := by decide +kernel
theorem dX3_piece_46 : decode cX3_piece 46 = .ok (.iconst 1, 1) := by decide +kernel
theorem dX3_piece_47 : decode cX3_piece 47 = .ok (.isub, 1) := by decide +kernel
theorem dX3_piece_48 : decode cX3_piece 48 = .ok (.ireturn, 1) := by decide +kernel
theorem dX3_bytes_0 : decode cX3_bytes 0 = .ok (.aload_n 0, 1) := by decide +kernel
theorem dX3_bytes_1 : decode cX3_bytes 1 = .ok (.iload_n 1, 1) := by decide +kernel
theorem dX3_bytes_2 : decode cX3_bytes 2 = .ok (.invokevirtual 54, 3) := by decide +kernel
theorem dX3_bytes_5 : decode cX3_bytes 5 = .ok (.ifCond .eq 12, 3) := by decide +kernel
theorem dX3_bytes_8 : decode cX3_bytes 8 = .ok (.aload_n 0, 1) := by decide +kernel
theorem dX3_bytes_9 : decode cX3_bytes 9 = .ok (.getfield 9, 3) := by decide +kernel
theorem dX3_bytes_12 : decode cX3_bytes 12 = .ok (.iload_n 1, 1) := by decide +kernel
theorem dX3_bytes_13 : decode cX3_bytes 13 = .ok (.laload, 1) := by decide +kernel
theorem dX3_bytes_14 : decode cX3_bytes 14 = .ok (.goto 4, 3) := by decide +kernel
theorem dX3_bytes_17 : decode cX3_bytes 17 = .ok (.lconst 0, 1) := by decide +kernel
theorem dX3_bytes_18 : decode cX3_bytes 18 = .ok (.lreturn, 1) := by decide +kernel
theorem dX3_listener_0 : decode cX3_listener 0 = .ok (.iload_n 1, 1) := by decide +kernel
theorem dX3_listener_1 : decode cX3_listener 1 = .ok (.ifCond .lt 8, 3) := by decide +kernel
theorem dX3_listener_4 : decode cX3_listener 4 = .ok (.iload_n 1, 1) := by decide +kernel
theorem dX3_listener_5 : decode cX3_listener 5 = .ok (.iconst 4, 1) := by decide +kernel
theorem dX3_listener_6 : decode cX3_listener 6 = .ok (.if_icmp .le 6, 3) := by decide +kernel
theorem dX3_listener_9 : decode cX3_listener 9 = .ok (.bipush (-2), 2) := by decide +kernel
theorem dX3_listener_11 : decode cX3_listener 11 = .ok (.ireturn, 1) := by decide +kernel
theorem dX3_listener_12 : decode cX3_listener 12 = .ok (.aload_n 0, 1) := by decide +kernel
theorem dX3_listener_13 : decode cX3_listener 13 = .ok (.getfield 16, 3) := by decide +kernel
theorem dX3_listener_16 : decode cX3_listener 16 = .ok (.invokevirtual 58, 3) := by decide +kernel
theorem dX3_listener_19 : decode cX3_listener 19 = .ok (.bipush 10, 2) := by decide +kernel
theorem dX3_listener_21 : decode cX3_listener 21 = .ok (.if_icmp .lt 6, 3) := by decide +kernel
theorem dX3_listener_24 : decode cX3_listener 24 = .ok (.bipush (-4), 2) := by decide +kernel
theorem dX3_listener_26 : decode cX3_listener 26 = .ok (.ireturn, 1) := by decide +kernel
theorem dX3_listener_27 : decode cX3_listener 27 = .ok (.aload_n 0, 1) := by decide +kernel
theorem dX3_listener_28 : decode cX3_listener 28 = .ok (.getfield 16, 3) := by decide +kernel
theorem dX3_listener_31 : decode cX3_listener 31 = .ok (.new 62, 3) := by decide +kernel
theorem dX3_listener_34 : decode cX3_listener 34 = .ok (.dup, 1) := by decide +kernel
theorem dX3_listener_35 : decode cX3_listener 35 = .ok (.iload_n 1, 1) := by decide +kernel
theorem dX3_listener_36 : decode cX3_listener 36 = .ok (.invokespecial 64, 3) := by decide +kernel
theorem dX3_listener_39 : decode cX3_listener 39 = .ok (.invokevirtual 67, 3) := by decide +kernel
theorem dX3_listener_42 : decode cX3_listener 42 = .ok (.pop, 1) := by decide +kernel
theorem dX3_listener_43 : decode cX3_listener 43 = .ok (.aload_n 0, 1) := by decide +kernel
theorem dX3_listener_44 : decode cX3_listener 44 = .ok (.getfield 16, 3) := by decide +kernel
theorem dX3_listener_47 : decode cX3_listener 47 = .ok (.invokevirtual 58, 3) := by decide +kernel
theorem dX3_listener_50 : decode cX3_listener 50 = .ok (.iconst 1, 1) := by decide +kernel
theorem dX3_listener_51 : decode cX3_listener 51 = .ok (.isub, 1) := by decide +kernel
theorem dX3_listener_52 : decode cX3_listener 52 = .ok (.ireturn, 1) := by decide +kernel
theorem dX3_wants_0 : decode cX3_wants 0 = .ok (.aload_n 0, 1) := by decide +kernel
theorem dX3_wants_1 : decode cX3_wants 1 = .ok (.iload_n 1, 1) := by decide +kernel
theorem dX3_wants_2 : decode cX3_wants 2 = .ok (.invokevirtual 71, 3) := by decide +kernel
theorem dX3_wants_5 : decode cX3_wants 5 = .ok (.ifCond .eq 11, 3) := by decide +kernel
theorem dX3_wants_8 : decode cX3_wants 8 = .ok (.aload_n 0, 1) := by decide +kernel
theorem dX3_wants_9 : decode cX3_wants 9 = .ok (.iload_n 2, 1) := by decide +kernel
theorem dX3_wants_10 : decode cX3_wants 10 = .ok (.invokevirtual 54, 3) := by decide +kernel
theorem dX3_wants_13 : decode cX3_wants 13 = .ok (.ifCond .ne 5, 3) := by decide +kernel
theorem dX3_wants_16 : decode cX3_wants 16 = .ok (.iconst (-1), 1) := by decide +kernel
theorem dX3_wants_17 : decode cX3_wants 17 = .ok (.ireturn, 1) := by decide +kernel
theorem dX3_wants_18 : decode cX3_wants 18 = .ok (.aload_n 0, 1) := by decide +kernel
theorem dX3_wants_19 : decode cX3_wants 19 = .ok (.getfield 16, 3) := by decide +kernel
theorem dX3_wants_22 : decode cX3_wants 22 = .ok (.iload_n 1, 1) := by decide +kernel
theorem dX3_wants_23 : decode cX3_wants 23 = .ok (.invokevirtual 74, 3) := by decide +kernel
theorem dX3_wants_26 : decode cX3_wants 26 = .ok (.checkcast 62, 3) := by decide +kernel
theorem dX3_wants_29 : decode cX3_wants 29 = .ok (.astore_n 3, 1) := by decide +kernel
theorem dX3_wants_30 : decode cX3_wants 30 = .ok (.aload_n 3, 1) := by decide +kernel
theorem dX3_wants_31 : decode cX3_wants 31 = .ok (.getfield 78, 3) := by decide +kernel
theorem dX3_wants_34 : decode cX3_wants 34 = .ok (.iconst 2, 1) := by decide +kernel
theorem dX3_wants_35 : decode cX3_wants 35 = .ok (.if_icmp .ne 6, 3) := by decide +kernel
theorem dX3_wants_38 : decode cX3_wants 38 = .ok (.bipush (-3), 2) := by decide +kernel
theorem dX3_wants_40 : decode cX3_wants 40 = .ok (.ireturn, 1) := by decide +kernel
theorem dX3_wants_41 : decode cX3_wants 41 = .ok (.iload_n 2, 1) := by decide +kernel
theorem dX3_wants_42 : decode cX3_wants 42 = .ok (.aload_n 3, 1) := by decide +kernel
theorem dX3_wants_43 : decode cX3_wants 43 = .ok (.getfield 81, 3) := by decide +kernel
theorem dX3_wants_46 : decode cX3_wants 46 = .ok (.invokestatic 84, 3) := by decide +kernel
theorem dX3_wants_49 : decode cX3_wants 49 = .ok (.ifCond .eq 5, 3) := by decide +kernel
theorem dX3_wants_52 : decode cX3_wants 52 = .ok (.iconst 0, 1) := by decide +kernel
theorem dX3_wants_53 : decode cX3_wants 53 = .ok (.ireturn, 1) := by decide +kernel
theorem dX3_wants_54 : decode cX3_wants 54 = .ok (.aload_n 3, 1) := by decide +kernel
theorem dX3_wants_55 : decode cX3_wants 55 = .ok (.getfield 78, 3) := by decide +kernel
theorem dX3_wants_58 : decode cX3_wants 58 = .ok (.ifCond .ne 13, 3) := by decide +kernel
theorem dX3_wants_61 : decode cX3_wants 61 = .ok (.aload_n 3, 1) := by decide +kernel
theorem dX3_wants_62 : decode cX3_wants 62 = .ok (.getfield 81, 3) := by decide +kernel
theorem dX3_wants_65 : decode cX3_wants 65 = .ok (.ifCond .eq 6, 3) := by decide +kernel
theorem dX3_wants_68 : decode cX3_wants 68 = .ok (.bipush (-4), 2) := by decide +kernel
theorem dX3_wants_70 : decode cX3_wants 70 = .ok (.ireturn, 1) := by decide +kernel
theorem dX3_wants_71 : decode cX3_wants 71 = .ok (.aload_n 3, 1) := by decide +kernel
theorem dX3_wants_72 : decode cX3_wants 72 = .ok (.dup, 1) := by decide +kernel
theorem dX3_wants_73 : decode cX3_wants 73 = .ok (.getfield 81, 3) := by decide +kernel
theorem dX3_wants_76 : decode cX3_wants 76 = .ok (.iconst 1, 1) := by decide +kernel
theorem dX3_wants_77 : decode cX3_wants 77 = .ok (.iload_n 2, 1) := by decide +kernel
theorem dX3_wants_78 : decode cX3_wants 78 = .ok (.ishl, 1) := by decide +kernel
theorem dX3_wants_79 : decode cX3_wants 79 = .ok (.ior, 1) := by decide +kernel
theorem dX3_wants_80 : decode cX3_wants 80 = .ok (.putfield 81, 3) := by decide +kernel
theorem dX3_wants_83 : decode cX3_wants 83 = .ok (.iconst 1, 1) := by decide +kernel
theorem dX3_wants_84 : decode cX3_wants 84 = .ok (.ireturn, 1) := by decide +kernel
theorem dX3_has_0 : decode cX3_has 0 = .ok (.aload_n 0, 1) := by decide +kernel
theorem dX3_has_1 : decode cX3_has 1 = .ok (.iload_n 1, 1) := by decide +kernel
theorem dX3_has_2 : decode cX3_has 2 = .ok (.invokevirtual 71, 3) := by decide +kernel
theorem dX3_has_5 : decode cX3_has 5 = .ok (.ifCond .ne 5, 3) := by decide +kernel
theorem dX3_has_8 : decode cX3_has 8 = .ok (.iconst (-1), 1) := by decide +kernel
theorem dX3_has_9 : decode cX3_has 9 = .ok (.ireturn, 1) := by decide +kernel
theorem dX3_has_10 : decode cX3_has 10 = .ok (.aload_n 0, 1) := by decide +kernel
theorem dX3_has_11 : decode cX3_has 11 = .ok (.getfield 16, 3) := by decide +kernel
theorem dX3_has_14 : decode cX3_has 14 = .ok (.iload_n 1, 1) := by decide +kernel
theorem dX3_has_15 : decode cX3_has 15 = .ok (.invokevirtual 74, 3) := by decide +kernel
theorem dX3_has_18 : decode cX3_has 18 = .ok (.checkcast 62, 3) := by decide +kernel
theorem dX3_has_21 : decode cX3_has 21 = .ok (.astore_n 3, 1) := by decide +kernel
theorem dX3_has_22 : decode cX3_has 22 = .ok (.aload_n 0, 1) := by decide +kernel
theorem dX3_has_23 : decode cX3_has 23 = .ok (.iload_n 2, 1) := by decide +kernel
theorem dX3_has_24 : decode cX3_has 24 = .ok (.invokevirtual 88, 3) := by decide +kernel
theorem dX3_has_27 : decode cX3_has 27 = .ok (.ifCond .eq 11, 3) := by decide +kernel
theorem dX3_has_30 : decode cX3_has 30 = .ok (.aload_n 3, 1) := by decide +kernel
theorem dX3_has_31 : decode cX3_has 31 = .ok (.iload_n 2, 1) := by decide +kernel
theorem dX3_has_32 : decode cX3_has 32 = .ok (.invokevirtual 91, 3) := by decide +kernel
theorem dX3_has_35 : decode cX3_has 35 = .ok (.ifCond .ne 6, 3) := by decide +kernel
theorem dX3_has_38 : decode cX3_has 38 = .ok (.bipush (-2), 2) := by decide +kernel
theorem dX3_has_40 : decode cX3_has 40 = .ok (.ireturn, 1) := by decide +kernel
theorem dX3_has_41 : decode cX3_has 41 = .ok (.aload_n 0, 1) := by decide +kernel
theorem dX3_has_42 : decode cX3_has 42 = .ok (.getfield 47, 3) := by decide +kernel
theorem dX3_has_45 : decode cX3_has 45 = .ok (.ifCond .le 6, 3) := by decide +kernel
theorem dX3_has_48 : decode cX3_has 48 = .ok (.bipush (-5), 2) := by decide +kernel
theorem dX3_has_50 : decode cX3_has 50 = .ok (.ireturn, 1) := by decide +kernel
theorem dX3_has_51 : decode cX3_has 51 = .ok (.aload_n 3, 1) := by decide +kernel
theorem dX3_has_52 : decode cX3_has 52 = .ok (.getfield 94, 3) := by decide +kernel
theorem dX3_has_55 : decode cX3_has 55 = .ok (.bipush 12, 2) := by decide +kernel
theorem dX3_has_57 : decode cX3_has 57 = .ok (.if_icmp .lt 6, 3) := by decide +kernel
theorem dX3_has_60 : decode cX3_has 60 = .ok (.bipush (-4), 2) := by decide +kernel
theorem dX3_has_62 : decode cX3_has 62 = .ok (.ireturn, 1) := by decide +kernel
theorem dX3_has_63 : decode cX3_has 63 = .ok (.aload_n 3, 1) := by decide +kernel
theorem dX3_has_64 : decode cX3_has 64 = .ok (.iload_n 2, 1) := by decide +kernel
theorem dX3_has_65 : decode cX3_has 65 = .ok (.invokevirtual 97, 3) := by decide +kernel
theorem dX3_has_68 : decode cX3_has 68 = .ok (.aload_n 3, 1) := by decide +kernel
theorem dX3_has_69 : decode cX3_has 69 = .ok (.getfield 94, 3) := by decide +kernel
theorem dX3_has_72 : decode cX3_has 72 = .ok (.ireturn, 1) := by decide +kernel
theorem dX3_off_0 : decode cX3_off 0 = .ok (.aload_n 0, 1) := by decide +kernel
theorem dX3_off_1 : decode cX3_off 1 = .ok (.iload_n 1, 1) := by decide +kernel
theorem dX3_off_2 : decode cX3_off 2 = .ok (.invokevirtual 71, 3) := by decide +kernel
theorem dX3_off_5 : decode cX3_off 5 = .ok (.ifCond .ne 5, 3) := by decide +kernel
theorem dX3_off_8 : decode cX3_off 8 = .ok (.iconst (-1), 1) := by decide +kernel
theorem dX3_off_9 : decode cX3_off 9 = .ok (.ireturn, 1) := by decide +kernel
theorem dX3_off_10 : decode cX3_off 10 = .ok (.aload_n 0, 1) := by decide +kernel
theorem dX3_off_11 : decode cX3_off 11 = .ok (.getfield 16, 3) := by decide +kernel
theorem dX3_off_14 : decode cX3_off 14 = .ok (.iload_n 1, 1) := by decide +kernel
theorem dX3_off_15 : decode cX3_off 15 = .ok (.invokevirtual 74, 3) := by decide +kernel
theorem dX3_off_18 : decode cX3_off 18 = .ok (.checkcast 62, 3) := by decide +kernel
theorem dX3_off_21 : decode cX3_off 21 = .ok (.astore_n 3, 1) := by decide +kernel
theorem dX3_off_22 : decode cX3_off 22 = .ok (.aload_n 3, 1) := by decide +kernel
theorem dX3_off_23 : decode cX3_off 23 = .ok (.getfield 78, 3) := by decide +kernel
theorem dX3_off_26 : decode cX3_off 26 = .ok (.iconst 4, 1) := by decide +kernel
theorem dX3_off_27 : decode cX3_off 27 = .ok (.if_icmp .eq 6, 3) := by decide +kernel
theorem dX3_off_30 : decode cX3_off 30 = .ok (.bipush (-3), 2) := by decide +kernel
theorem dX3_off_32 : decode cX3_off 32 = .ok (.ireturn, 1) := by decide +kernel
theorem dX3_off_33 : decode cX3_off 33 = .ok (.iload_n 2, 1) := by decide +kernel
theorem dX3_off_34 : decode cX3_off 34 = .ok (.ifCond .eq 11, 3) := by decide +kernel
theorem dX3_off_37 : decode cX3_off 37 = .ok (.iload_n 2, 1) := by decide +kernel
theorem dX3_off_38 : decode cX3_off 38 = .ok (.iconst 1, 1) := by decide +kernel
theorem dX3_off_39 : decode cX3_off 39 = .ok (.if_icmp .eq 6, 3) := by decide +kernel
theorem dX3_off_42 : decode cX3_off 42 = .ok (.bipush (-2), 2) := by decide +kernel
theorem dX3_off_44 : decode cX3_off 44 = .ok (.ireturn, 1) := by decide +kernel
theorem dX3_off_45 : decode cX3_off 45 = .ok (.aload_n 3, 1) := by decide +kernel
theorem dX3_off_46 : decode cX3_off 46 = .ok (.getfield 100, 3) := by decide +kernel
theorem dX3_off_49 : decode cX3_off 49 = .ok (.invokestatic 104, 3) := by decide +kernel
theorem dX3_off_52 : decode cX3_off 52 = .ok (.istore 4, 2) := by decide +kernel
theorem dX3_off_54 : decode cX3_off 54 = .ok (.aload_n 3, 1) := by decide +kernel
theorem dX3_off_55 : decode cX3_off 55 = .ok (.iload_n 2, 1) := by decide +kernel
theorem dX3_off_56 : decode cX3_off 56 = .ok (.iconst 1, 1) := by decide +kernel
theorem dX3_off_57 : decode cX3_off 57 = .ok (.if_icmp .ne 7, 3) := by decide +kernel
theorem dX3_off_60 : decode cX3_off 60 = .ok (.iconst 1, 1) := by decide +kernel
theorem dX3_off_61 : decode cX3_off 61 = .ok (.goto 4, 3) := by decide +kernel
theorem dX3_off_64 : decode cX3_off 64 = .ok (.iconst 0, 1) := by decide +kernel
theorem dX3_off_65 : decode cX3_off 65 = .ok (.putfield 100, 3) := by decide +kernel
theorem dX3_off_68 : decode cX3_off 68 = .ok (.iload 4, 2) := by decide +kernel
theorem dX3_off_70 : decode cX3_off 70 = .ok (.ireturn, 1) := by decide +kernel
theorem dX3_say_0 : decode cX3_say 0 = .ok (.aload_n 0, 1) := by decide +kernel
theorem dX3_say_1 : decode cX3_say 1 = .ok (.iload_n 1, 1) := by decide +kernel
theorem dX3_say_2 : decode cX3_say 2 = .ok (.invokevirtual 88, 3) := by decide +kernel
theorem dX3_say_5 : decode cX3_say 5 = .ok (.ifCond .ne 6, 3) := by decide +kernel
theorem dX3_say_8 : decode cX3_say 8 = .ok (.bipush (-2), 2) := by decide +kernel
theorem dX3_say_10 : decode cX3_say 10 = .ok (.ireturn, 1) := by decide +kernel
theorem dX3_say_11 : decode cX3_say 11 = .ok (.aload_n 0, 1) := by decide +kernel
theorem dX3_say_12 : decode cX3_say 12 = .ok (.iload_n 1, 1) := by decide +kernel
theorem dX3_say_13 : decode cX3_say 13 = .ok (.invokevirtual 108, 3) := by decide +kernel
theorem dX3_say_16 : decode cX3_say 16 = .ok (.ireturn, 1) := by decide +kernel
theorem dX3_again_0 : decode cX3_again 0 = .ok (.aload_n 0, 1) := by decide +kernel
theorem dX3_again_1 : decode cX3_again 1 = .ok (.iload_n 1, 1) := by decide +kernel
theorem dX3_again_2 : decode cX3_again 2 = .ok (.invokevirtual 112, 3) := by decide +kernel
theorem dX3_again_5 : decode cX3_again 5 = .ok (.ifCond .ne 5, 3) := by decide +kernel
theorem dX3_again_8 : decode cX3_again 8 = .ok (.iconst (-1), 1) := by decide +kernel
theorem dX3_again_9 : decode cX3_again 9 = .ok (.ireturn, 1) := by decide +kernel
theorem dX3_again_10 : decode cX3_again 10 = .ok (.aload_n 0, 1) := by decide +kernel
theorem dX3_again_11 : decode cX3_again 11 = .ok (.aload_n 0, 1) := by decide +kernel
theorem dX3_again_12 : decode cX3_again 12 = .ok (.getfield 20, 3) := by decide +kernel
theorem dX3_again_15 : decode cX3_again 15 = .ok (.iload_n 1, 1) := by decide +kernel
theorem dX3_again_16 : decode cX3_again 16 = .ok (.iaload, 1) := by decide +kernel
theorem dX3_again_17 : decode cX3_again 17 = .ok (.invokevirtual 108, 3) := by decide +kernel
theorem dX3_again_20 : decode cX3_again 20 = .ok (.ireturn, 1) := by decide +kernel
theorem dX3_call_0 : decode cX3_call 0 = .ok (.aload_n 0, 1) := by decide +kernel
theorem dX3_call_1 : decode cX3_call 1 = .ok (.iload_n 1, 1) := by decide +kernel
theorem dX3_call_2 : decode cX3_call 2 = .ok (.invokevirtual 112, 3) := by decide +kernel
theorem dX3_call_5 : decode cX3_call 5 = .ok (.ifCond .ne 5, 3) := by decide +kernel
theorem dX3_call_8 : decode cX3_call 8 = .ok (.iconst (-1), 1) := by decide +kernel
theorem dX3_call_9 : decode cX3_call 9 = .ok (.ireturn, 1) := by decide +kernel
theorem dX3_call_10 : decode cX3_call 10 = .ok (.iload_n 2, 1) := by decide +kernel
theorem dX3_call_11 : decode cX3_call 11 = .ok (.tableswitch 46 0 2 #[25, 32, 39], 25) := by decide +kernel
theorem dX3_call_36 : decode cX3_call 36 = .ok (.aload_n 0, 1) := by decide +kernel
theorem dX3_call_37 : decode cX3_call 37 = .ok (.getfield 20, 3) := by decide +kernel
theorem dX3_call_40 : decode cX3_call 40 = .ok (.iload_n 1, 1) := by decide +kernel
theorem dX3_call_41 : decode cX3_call 41 = .ok (.iaload, 1) := by decide +kernel
theorem dX3_call_42 : decode cX3_call 42 = .ok (.ireturn, 1) := by decide +kernel
theorem dX3_call_43 : decode cX3_call 43 = .ok (.aload_n 0, 1) := by decide +kernel
theorem dX3_call_44 : decode cX3_call 44 = .ok (.getfield 24, 3) := by decide +kernel
theorem dX3_call_47 : decode cX3_call 47 = .ok (.iload_n 1, 1) := by decide +kernel
theorem dX3_call_48 : decode cX3_call 48 = .ok (.iaload, 1) := by decide +kernel
theorem dX3_call_49 : decode cX3_call 49 = .ok (.ireturn, 1) := by decide +kernel
theorem dX3_call_50 : decode cX3_call 50 = .ok (.aload_n 0, 1) := by decide +kernel
theorem dX3_call_51 : decode cX3_call 51 = .ok (.getfield 27, 3) := by decide +kernel
theorem dX3_call_54 : decode cX3_call 54 = .ok (.iload_n 1, 1) := by decide +kernel
theorem dX3_call_55 : decode cX3_call 55 = .ok (.iaload, 1) := by decide +kernel
theorem dX3_call_56 : decode cX3_call 56 = .ok (.ireturn, 1) := by decide +kernel
theorem dX3_call_57 : decode cX3_call 57 = .ok (.iconst (-1), 1) := by decide +kernel
theorem dX3_call_58 : decode cX3_call 58 = .ok (.ireturn, 1) := by decide +kernel
theorem dX3_sum_0 : decode cX3_sum 0 = .ok (.aload_n 0, 1) := by decide +kernel
theorem dX3_sum_1 : decode cX3_sum 1 = .ok (.iload_n 1, 1) := by decide +kernel
theorem dX3_sum_2 : decode cX3_sum 2 = .ok (.invokevirtual 112, 3) := by decide +kernel
theorem dX3_sum_5 : decode cX3_sum 5 = .ok (.ifCond .eq 16, 3) := by decide +kernel
theorem dX3_sum_8 : decode cX3_sum 8 = .ok (.aload_n 0, 1) := by decide +kernel
theorem dX3_sum_9 : decode cX3_sum 9 = .ok (.aload_n 0, 1) := by decide +kernel
theorem dX3_sum_10 : decode cX3_sum 10 = .ok (.getfield 20, 3) := by decide +kernel
theorem dX3_sum_13 : decode cX3_sum 13 = .ok (.iload_n 1, 1) := by decide +kernel
theorem dX3_sum_14 : decode cX3_sum 14 = .ok (.iaload, 1) := by decide +kernel
theorem dX3_sum_15 : decode cX3_sum 15 = .ok (.invokevirtual 115, 3) := by decide +kernel
theorem dX3_sum_18 : decode cX3_sum 18 = .ok (.goto 4, 3) := by decide +kernel
theorem dX3_sum_21 : decode cX3_sum 21 = .ok (.lconst 0, 1) := by decide +kernel
theorem dX3_sum_22 : decode cX3_sum 22 = .ok (.lreturn, 1) := by decide +kernel
theorem dX3_heard_0 : decode cX3_heard 0 = .ok (.aload_n 0, 1) := by decide +kernel
theorem dX3_heard_1 : decode cX3_heard 1 = .ok (.iload_n 1, 1) := by decide +kernel
theorem dX3_heard_2 : decode cX3_heard 2 = .ok (.invokevirtual 71, 3) := by decide +kernel
theorem dX3_heard_5 : decode cX3_heard 5 = .ok (.ifCond .eq 11, 3) := by decide +kernel
theorem dX3_heard_8 : decode cX3_heard 8 = .ok (.aload_n 0, 1) := by decide +kernel
theorem dX3_heard_9 : decode cX3_heard 9 = .ok (.iload_n 2, 1) := by decide +kernel
theorem dX3_heard_10 : decode cX3_heard 10 = .ok (.invokevirtual 112, 3) := by decide +kernel
theorem dX3_heard_13 : decode cX3_heard 13 = .ok (.ifCond .ne 5, 3) := by decide +kernel
theorem dX3_heard_16 : decode cX3_heard 16 = .ok (.iconst (-1), 1) := by decide +kernel
theorem dX3_heard_17 : decode cX3_heard 17 = .ok (.ireturn, 1) := by decide +kernel
theorem dX3_heard_18 : decode cX3_heard 18 = .ok (.aload_n 0, 1) := by decide +kernel
theorem dX3_heard_19 : decode cX3_heard 19 = .ok (.getfield 16, 3) := by decide +kernel
theorem dX3_heard_22 : decode cX3_heard 22 = .ok (.iload_n 1, 1) := by decide +kernel
theorem dX3_heard_23 : decode cX3_heard 23 = .ok (.invokevirtual 74, 3) := by decide +kernel
theorem dX3_heard_26 : decode cX3_heard 26 = .ok (.checkcast 62, 3) := by decide +kernel
theorem dX3_heard_29 : decode cX3_heard 29 = .ok (.getfield 119, 3) := by decide +kernel
theorem dX3_heard_32 : decode cX3_heard 32 = .ok (.iload_n 2, 1) := by decide +kernel
theorem dX3_heard_33 : decode cX3_heard 33 = .ok (.lshr, 1) := by decide +kernel
theorem dX3_heard_34 : decode cX3_heard 34 = .ok (.lconst 1, 1) := by decide +kernel
theorem dX3_heard_35 : decode cX3_heard 35 = .ok (.land, 1) := by decide +kernel
theorem dX3_heard_36 : decode cX3_heard 36 = .ok (.l2i, 1) := by decide +kernel
theorem dX3_heard_37 : decode cX3_heard 37 = .ok (.ireturn, 1) := by decide +kernel
theorem dX3_about_0 : decode cX3_about 0 = .ok (.aload_n 0, 1) := by decide +kernel
theorem dX3_about_1 : decode cX3_about 1 = .ok (.iload_n 1, 1) := by decide +kernel
theorem dX3_about_2 : decode cX3_about 2 = .ok (.invokevirtual 71, 3) := by decide +kernel
theorem dX3_about_5 : decode cX3_about 5 = .ok (.ifCond .ne 5, 3) := by decide +kernel
theorem dX3_about_8 : decode cX3_about 8 = .ok (.iconst (-1), 1) := by decide +kernel
theorem dX3_about_9 : decode cX3_about 9 = .ok (.ireturn, 1) := by decide +kernel
theorem dX3_about_10 : decode cX3_about 10 = .ok (.aload_n 0, 1) := by decide +kernel
theorem dX3_about_11 : decode cX3_about 11 = .ok (.getfield 16, 3) := by decide +kernel
theorem dX3_about_14 : decode cX3_about 14 = .ok (.iload_n 1, 1) := by decide +kernel
theorem dX3_about_15 : decode cX3_about 15 = .ok (.invokevirtual 74, 3) := by decide +kernel
theorem dX3_about_18 : decode cX3_about 18 = .ok (.checkcast 62, 3) := by decide +kernel
theorem dX3_about_21 : decode cX3_about 21 = .ok (.astore_n 3, 1) := by decide +kernel
theorem dX3_about_22 : decode cX3_about 22 = .ok (.iload_n 2, 1) := by decide +kernel
theorem dX3_about_23 : decode cX3_about 23 = .ok (.tableswitch 103 0 7 #[45, 50, 55, 60, 68, 81, 86, 95], 45) := by decide +kernel
theorem dX3_about_68 : decode cX3_about 68 = .ok (.aload_n 3, 1) := by decide +kernel
theorem dX3_about_69 : decode cX3_about 69 = .ok (.getfield 78, 3) := by decide +kernel
theorem dX3_about_72 : decode cX3_about 72 = .ok (.ireturn, 1) := by decide +kernel
theorem dX3_about_73 : decode cX3_about 73 = .ok (.aload_n 3, 1) := by decide +kernel
theorem dX3_about_74 : decode cX3_about 74 = .ok (.getfield 94, 3) := by decide +kernel
theorem dX3_about_77 : decode cX3_about 77 = .ok (.ireturn, 1) := by decide +kernel
theorem dX3_about_78 : decode cX3_about 78 = .ok (.aload_n 3, 1) := by decide +kernel
theorem dX3_about_79 : decode cX3_about 79 = .ok (.getfield 123, 3) := by decide +kernel
theorem dX3_about_82 : decode cX3_about 82 = .ok (.ireturn, 1) := by decide +kernel
theorem dX3_about_83 : decode cX3_about 83 = .ok (.aload_n 3, 1) := by decide +kernel
theorem dX3_about_84 : decode cX3_about 84 = .ok (.getfield 126, 3) := by decide +kernel
theorem dX3_about_87 : decode cX3_about 87 = .ok (.getfield 129, 3) := by decide +kernel
theorem dX3_about_90 : decode cX3_about 90 = .ok (.ireturn, 1) := by decide +kernel
theorem dX3_about_91 : decode cX3_about 91 = .ok (.aload_n 0, 1) := by decide +kernel
theorem dX3_about_92 : decode cX3_about 92 = .ok (.getfield 51, 3) := by decide +kernel
theorem dX3_about_95 : decode cX3_about 95 = .ok (.aload_n 3, 1) := by decide +kernel
theorem dX3_about_96 : decode cX3_about 96 = .ok (.getfield 126, 3) := by decide +kernel
theorem dX3_about_99 : decode cX3_about 99 = .ok (.getfield 129, 3) := by decide +kernel
theorem dX3_about_102 : decode cX3_about 102 = .ok (.isub, 1) := by decide +kernel
theorem dX3_about_103 : decode cX3_about 103 = .ok (.ireturn, 1) := by decide +kernel
theorem dX3_about_104 : decode cX3_about 104 = .ok (.aload_n 3, 1) := by decide +kernel
theorem dX3_about_105 : decode cX3_about 105 = .ok (.getfield 81, 3) := by decide +kernel
theorem dX3_about_108 : decode cX3_about 108 = .ok (.ireturn, 1) := by decide +kernel
theorem dX3_about_109 : decode cX3_about 109 = .ok (.aload_n 0, 1) := by decide +kernel
theorem dX3_about_110 : decode cX3_about 110 = .ok (.aload_n 3, 1) := by decide +kernel
theorem dX3_about_111 : decode cX3_about 111 = .ok (.invokevirtual 132, 3) := by decide +kernel
theorem dX3_about_114 : decode cX3_about 114 = .ok (.invokestatic 104, 3) := by decide +kernel
theorem dX3_about_117 : decode cX3_about 117 = .ok (.ireturn, 1) := by decide +kernel
theorem dX3_about_118 : decode cX3_about 118 = .ok (.aload_n 3, 1) := by decide +kernel
theorem dX3_about_119 : decode cX3_about 119 = .ok (.getfield 100, 3) := by decide +kernel
theorem dX3_about_122 : decode cX3_about 122 = .ok (.invokestatic 104, 3) := by decide +kernel
theorem dX3_about_125 : decode cX3_about 125 = .ok (.ireturn, 1) := by decide +kernel
theorem dX3_about_126 : decode cX3_about 126 = .ok (.iconst (-1), 1) := by decide +kernel
theorem dX3_about_127 : decode cX3_about 127 = .ok (.ireturn, 1) := by decide +kernel
theorem dX3_rowOf_0 : decode cX3_rowOf 0 = .ok (.aload_n 0, 1) := by decide +kernel
theorem dX3_rowOf_1 : decode cX3_rowOf 1 = .ok (.iload_n 1, 1) := by decide +kernel
theorem dX3_rowOf_2 : decode cX3_rowOf 2 = .ok (.invokevirtual 71, 3) := by decide +kernel
theorem dX3_rowOf_5 : decode cX3_rowOf 5 = .ok (.ifCond .ne 5, 3) := by decide +kernel
theorem dX3_rowOf_8 : decode cX3_rowOf 8 = .ok (.iconst (-1), 1) := by decide +kernel
theorem dX3_rowOf_9 : decode cX3_rowOf 9 = .ok (.ireturn, 1) := by decide +kernel
theorem dX3_rowOf_10 : decode cX3_rowOf 10 = .ok (.aload_n 0, 1) := by decide +kernel
theorem dX3_rowOf_11 : decode cX3_rowOf 11 = .ok (.getfield 16, 3) := by decide +kernel
theorem dX3_rowOf_14 : decode cX3_rowOf 14 = .ok (.iload_n 1, 1) := by decide +kernel
theorem dX3_rowOf_15 : decode cX3_rowOf 15 = .ok (.invokevirtual 74, 3) := by decide +kernel
theorem dX3_rowOf_18 : decode cX3_rowOf 18 = .ok (.checkcast 62, 3) := by decide +kernel
theorem dX3_rowOf_21 : decode cX3_rowOf 21 = .ok (.astore_n 3, 1) := by decide +kernel
theorem dX3_rowOf_22 : decode cX3_rowOf 22 = .ok (.iload_n 2, 1) := by decide +kernel
theorem dX3_rowOf_23 : decode cX3_rowOf 23 = .ok (.ifCond .lt 20, 3) := by decide +kernel
theorem dX3_rowOf_26 : decode cX3_rowOf 26 = .ok (.iload_n 2, 1) := by decide +kernel
theorem dX3_rowOf_27 : decode cX3_rowOf 27 = .ok (.aload_n 3, 1) := by decide +kernel
theorem dX3_rowOf_28 : decode cX3_rowOf 28 = .ok (.getfield 123, 3) := by decide +kernel
theorem dX3_rowOf_31 : decode cX3_rowOf 31 = .ok (.if_icmp .ge 12, 3) := by decide +kernel
theorem dX3_rowOf_34 : decode cX3_rowOf 34 = .ok (.aload_n 3, 1) := by decide +kernel
theorem dX3_rowOf_35 : decode cX3_rowOf 35 = .ok (.getfield 136, 3) := by decide +kernel
theorem dX3_rowOf_38 : decode cX3_rowOf 38 = .ok (.iload_n 2, 1) := by decide +kernel
theorem dX3_rowOf_39 : decode cX3_rowOf 39 = .ok (.iaload, 1) := by decide +kernel
theorem dX3_rowOf_40 : decode cX3_rowOf 40 = .ok (.goto 4, 3) := by decide +kernel
theorem dX3_rowOf_43 : decode cX3_rowOf 43 = .ok (.iconst (-1), 1) := by decide +kernel
theorem dX3_rowOf_44 : decode cX3_rowOf 44 = .ok (.ireturn, 1) := by decide +kernel
theorem dX3_solve_0 : decode cX3_solve 0 = .ok (.aload_n 0, 1) := by decide +kernel
theorem dX3_solve_1 : decode cX3_solve 1 = .ok (.iload_n 1, 1) := by decide +kernel
theorem dX3_solve_2 : decode cX3_solve 2 = .ok (.invokevirtual 71, 3) := by decide +kernel
theorem dX3_solve_5 : decode cX3_solve 5 = .ok (.ifCond .eq 11, 3) := by decide +kernel
theorem dX3_solve_8 : decode cX3_solve 8 = .ok (.aload_n 0, 1) := by decide +kernel
theorem dX3_solve_9 : decode cX3_solve 9 = .ok (.iload_n 2, 1) := by decide +kernel
theorem dX3_solve_10 : decode cX3_solve 10 = .ok (.invokevirtual 54, 3) := by decide +kernel
theorem dX3_solve_13 : decode cX3_solve 13 = .ok (.ifCond .ne 5, 3) := by decide +kernel
theorem dX3_solve_16 : decode cX3_solve 16 = .ok (.iconst (-1), 1) := by decide +kernel
theorem dX3_solve_17 : decode cX3_solve 17 = .ok (.ireturn, 1) := by decide +kernel
theorem dX3_solve_18 : decode cX3_solve 18 = .ok (.aload_n 0, 1) := by decide +kernel
theorem dX3_solve_19 : decode cX3_solve 19 = .ok (.iload_n 1, 1) := by decide +kernel
theorem dX3_solve_20 : decode cX3_solve 20 = .ok (.iload_n 2, 1) := by decide +kernel
theorem dX3_solve_21 : decode cX3_solve 21 = .ok (.invokevirtual 139, 3) := by decide +kernel
theorem dX3_solve_24 : decode cX3_solve 24 = .ok (.invokestatic 104, 3) := by decide +kernel
theorem dX3_solve_27 : decode cX3_solve 27 = .ok (.ireturn, 1) := by decide +kernel
theorem dX3_why_0 : decode cX3_why 0 = .ok (.aload_n 0, 1) := by decide +kernel
theorem dX3_why_1 : decode cX3_why 1 = .ok (.iload_n 1, 1) := by decide +kernel
theorem dX3_why_2 : decode cX3_why 2 = .ok (.iload_n 2, 1) := by decide +kernel
theorem dX3_why_3 : decode cX3_why 3 = .ok (.invokevirtual 139, 3) := by decide +kernel
theorem dX3_why_6 : decode cX3_why 6 = .ok (.ifCond .eq 25, 3) := by decide +kernel
theorem dX3_why_9 : decode cX3_why 9 = .ok (.aload_n 0, 1) := by decide +kernel
theorem dX3_why_10 : decode cX3_why 10 = .ok (.getfield 16, 3) := by decide +kernel
theorem dX3_why_13 : decode cX3_why 13 = .ok (.iload_n 1, 1) := by decide +kernel
theorem dX3_why_14 : decode cX3_why 14 = .ok (.invokevirtual 74, 3) := by decide +kernel
theorem dX3_why_17 : decode cX3_why 17 = .ok (.checkcast 62, 3) := by decide +kernel
theorem dX3_why_20 : decode cX3_why 20 = .ok (.getfield 126, 3) := by decide +kernel
theorem dX3_why_23 : decode cX3_why 23 = .ok (.getfield 142, 3) := by decide +kernel
theorem dX3_why_26 : decode cX3_why 26 = .ok (.iload_n 2, 1) := by decide +kernel
theorem dX3_why_27 : decode cX3_why 27 = .ok (.laload, 1) := by decide +kernel
theorem dX3_why_28 : decode cX3_why 28 = .ok (.goto 6, 3) := by decide +kernel
theorem dX3_why_31 : decode cX3_why 31 = .ok (.ldc2_w 145, 3) := by decide +kernel
theorem dX3_why_34 : decode cX3_why 34 = .ok (.lreturn, 1) := by decide +kernel
theorem dX3_gets_0 : decode cX3_gets 0 = .ok (.aload_n 0, 1) := by decide +kernel
theorem dX3_gets_1 : decode cX3_gets 1 = .ok (.iload_n 1, 1) := by decide +kernel
theorem dX3_gets_2 : decode cX3_gets 2 = .ok (.iload_n 2, 1) := by decide +kernel
theorem dX3_gets_3 : decode cX3_gets 3 = .ok (.invokevirtual 139, 3) := by decide +kernel
theorem dX3_gets_6 : decode cX3_gets 6 = .ok (.ifCond .ne 5, 3) := by decide +kernel
theorem dX3_gets_9 : decode cX3_gets 9 = .ok (.lconst 0, 1) := by decide +kernel
theorem dX3_gets_10 : decode cX3_gets 10 = .ok (.lreturn, 1) := by decide +kernel
theorem dX3_gets_11 : decode cX3_gets 11 = .ok (.aload_n 0, 1) := by decide +kernel
theorem dX3_gets_12 : decode cX3_gets 12 = .ok (.getfield 16, 3) := by decide +kernel
theorem dX3_gets_15 : decode cX3_gets 15 = .ok (.iload_n 1, 1) := by decide +kernel
theorem dX3_gets_16 : decode cX3_gets 16 = .ok (.invokevirtual 74, 3) := by decide +kernel
theorem dX3_gets_19 : decode cX3_gets 19 = .ok (.checkcast 62, 3) := by decide +kernel
theorem dX3_gets_22 : decode cX3_gets 22 = .ok (.astore_n 3, 1) := by decide +kernel
theorem dX3_gets_23 : decode cX3_gets 23 = .ok (.aload_n 3, 1) := by decide +kernel
theorem dX3_gets_24 : decode cX3_gets 24 = .ok (.getfield 126, 3) := by decide +kernel
theorem dX3_gets_27 : decode cX3_gets 27 = .ok (.getfield 142, 3) := by decide +kernel
theorem dX3_gets_30 : decode cX3_gets 30 = .ok (.iload_n 2, 1) := by decide +kernel
theorem dX3_gets_31 : decode cX3_gets 31 = .ok (.laload, 1) := by decide +kernel
theorem dX3_gets_32 : decode cX3_gets 32 = .ok (.lstore 4, 2) := by decide +kernel
theorem dX3_gets_34 : decode cX3_gets 34 = .ok (.lconst 0, 1) := by decide +kernel
theorem dX3_gets_35 : decode cX3_gets 35 = .ok (.lstore 6, 2) := by decide +kernel
theorem dX3_gets_37 : decode cX3_gets 37 = .ok (.iconst 0, 1) := by decide +kernel
theorem dX3_gets_38 : decode cX3_gets 38 = .ok (.istore 8, 2) := by decide +kernel
theorem dX3_gets_40 : decode cX3_gets 40 = .ok (.iload 8, 2) := by decide +kernel
theorem dX3_gets_42 : decode cX3_gets 42 = .ok (.aload_n 3, 1) := by decide +kernel
theorem dX3_gets_43 : decode cX3_gets 43 = .ok (.getfield 123, 3) := by decide +kernel
theorem dX3_gets_46 : decode cX3_gets 46 = .ok (.if_icmp .ge 37, 3) := by decide +kernel
theorem dX3_gets_49 : decode cX3_gets 49 = .ok (.lload 4, 2) := by decide +kernel
theorem dX3_gets_51 : decode cX3_gets 51 = .ok (.iload 8, 2) := by decide +kernel
theorem dX3_gets_53 : decode cX3_gets 53 = .ok (.lshr, 1) := by decide +kernel
theorem dX3_gets_54 : decode cX3_gets 54 = .ok (.lconst 1, 1) := by decide +kernel
theorem dX3_gets_55 : decode cX3_gets 55 = .ok (.land, 1) := by decide +kernel
theorem dX3_gets_56 : decode cX3_gets 56 = .ok (.lconst 0, 1) := by decide +kernel
theorem dX3_gets_57 : decode cX3_gets 57 = .ok (.lcmp, 1) := by decide +kernel
theorem dX3_gets_58 : decode cX3_gets 58 = .ok (.ifCond .eq 19, 3) := by decide +kernel
theorem dX3_gets_61 : decode cX3_gets 61 = .ok (.lload 6, 2) := by decide +kernel
theorem dX3_gets_63 : decode cX3_gets 63 = .ok (.aload_n 0, 1) := by decide +kernel
theorem dX3_gets_64 : decode cX3_gets 64 = .ok (.aload_n 3, 1) := by decide +kernel
theorem dX3_gets_65 : decode cX3_gets 65 = .ok (.getfield 136, 3) := by decide +kernel
theorem dX3_gets_68 : decode cX3_gets 68 = .ok (.iload 8, 2) := by decide +kernel
theorem dX3_gets_70 : decode cX3_gets 70 = .ok (.iaload, 1) := by decide +kernel
theorem dX3_gets_71 : decode cX3_gets 71 = .ok (.invokevirtual 115, 3) := by decide +kernel
theorem dX3_gets_74 : decode cX3_gets 74 = .ok (.lxor, 1) := by decide +kernel
theorem dX3_gets_75 : decode cX3_gets 75 = .ok (.lstore 6, 2) := by decide +kernel
theorem dX3_gets_77 : decode cX3_gets 77 = .ok (.iinc 8 1, 3) := by decide +kernel
theorem dX3_gets_80 : decode cX3_gets 80 = .ok (.goto (-40), 3) := by decide +kernel
theorem dX3_gets_83 : decode cX3_gets 83 = .ok (.lload 6, 2) := by decide +kernel
theorem dX3_gets_85 : decode cX3_gets 85 = .ok (.lreturn, 1) := by decide +kernel
theorem dX3_lack_0 : decode cX3_lack 0 = .ok (.aload_n 0, 1) := by decide +kernel
theorem dX3_lack_1 : decode cX3_lack 1 = .ok (.iload_n 1, 1) := by decide +kernel
theorem dX3_lack_2 : decode cX3_lack 2 = .ok (.invokevirtual 71, 3) := by decide +kernel
theorem dX3_lack_5 : decode cX3_lack 5 = .ok (.ifCond .eq 20, 3) := by decide +kernel
theorem dX3_lack_8 : decode cX3_lack 8 = .ok (.aload_n 0, 1) := by decide +kernel
theorem dX3_lack_9 : decode cX3_lack 9 = .ok (.iload_n 2, 1) := by decide +kernel
theorem dX3_lack_10 : decode cX3_lack 10 = .ok (.invokevirtual 54, 3) := by decide +kernel
theorem dX3_lack_13 : decode cX3_lack 13 = .ok (.ifCond .eq 12, 3) := by decide +kernel
theorem dX3_lack_16 : decode cX3_lack 16 = .ok (.aload_n 0, 1) := by decide +kernel
theorem dX3_lack_17 : decode cX3_lack 17 = .ok (.iload_n 1, 1) := by decide +kernel
theorem dX3_lack_18 : decode cX3_lack 18 = .ok (.iload_n 2, 1) := by decide +kernel
theorem dX3_lack_19 : decode cX3_lack 19 = .ok (.invokevirtual 139, 3) := by decide +kernel
theorem dX3_lack_22 : decode cX3_lack 22 = .ok (.ifCond .eq 5, 3) := by decide +kernel
theorem dX3_lack_25 : decode cX3_lack 25 = .ok (.iconst (-1), 1) := by decide +kernel
theorem dX3_lack_26 : decode cX3_lack 26 = .ok (.ireturn, 1) := by decide +kernel
theorem dX3_lack_27 : decode cX3_lack 27 = .ok (.aload_n 0, 1) := by decide +kernel
theorem dX3_lack_28 : decode cX3_lack 28 = .ok (.getfield 16, 3) := by decide +kernel
theorem dX3_lack_31 : decode cX3_lack 31 = .ok (.iload_n 1, 1) := by decide +kernel
theorem dX3_lack_32 : decode cX3_lack 32 = .ok (.invokevirtual 74, 3) := by decide +kernel
theorem dX3_lack_35 : decode cX3_lack 35 = .ok (.checkcast 62, 3) := by decide +kernel
theorem dX3_lack_38 : decode cX3_lack 38 = .ok (.astore_n 3, 1) := by decide +kernel
theorem dX3_lack_39 : decode cX3_lack 39 = .ok (.iconst 1, 1) := by decide +kernel
theorem dX3_lack_40 : decode cX3_lack 40 = .ok (.iload_n 2, 1) := by decide +kernel
theorem dX3_lack_41 : decode cX3_lack 41 = .ok (.ishl, 1) := by decide +kernel
theorem dX3_lack_42 : decode cX3_lack 42 = .ok (.istore 4, 2) := by decide +kernel
theorem dX3_lack_44 : decode cX3_lack 44 = .ok (.iload 4, 2) := by decide +kernel
theorem dX3_lack_46 : decode cX3_lack 46 = .ok (.aload_n 0, 1) := by decide +kernel
theorem dX3_lack_47 : decode cX3_lack 47 = .ok (.invokevirtual 147, 3) := by decide +kernel
theorem dX3_lack_50 : decode cX3_lack 50 = .ok (.if_icmp .gt 30, 3) := by decide +kernel
theorem dX3_lack_53 : decode cX3_lack 53 = .ok (.iload_n 2, 1) := by decide +kernel
theorem dX3_lack_54 : decode cX3_lack 54 = .ok (.iload 4, 2) := by decide +kernel
theorem dX3_lack_56 : decode cX3_lack 56 = .ok (.invokestatic 84, 3) := by decide +kernel
theorem dX3_lack_59 : decode cX3_lack 59 = .ok (.ifCond .eq 15, 3) := by decide +kernel
theorem dX3_lack_62 : decode cX3_lack 62 = .ok (.aload_n 3, 1) := by decide +kernel
theorem dX3_lack_63 : decode cX3_lack 63 = .ok (.iload 4, 2) := by decide +kernel
theorem dX3_lack_65 : decode cX3_lack 65 = .ok (.invokevirtual 150, 3) := by decide +kernel
theorem dX3_lack_68 : decode cX3_lack 68 = .ok (.ifCond .eq 6, 3) := by decide +kernel
theorem dX3_lack_71 : decode cX3_lack 71 = .ok (.iload 4, 2) := by decide +kernel
theorem dX3_lack_73 : decode cX3_lack 73 = .ok (.ireturn, 1) := by decide +kernel
theorem dX3_lack_74 : decode cX3_lack 74 = .ok (.iinc 4 1, 3) := by decide +kernel
theorem dX3_lack_77 : decode cX3_lack 77 = .ok (.goto (-33), 3) := by decide +kernel
theorem dX3_lack_80 : decode cX3_lack 80 = .ok (.iconst (-1), 1) := by decide +kernel
theorem dX3_lack_81 : decode cX3_lack 81 = .ok (.ireturn, 1) := by decide +kernel
theorem dX3_left_0 : decode cX3_left 0 = .ok (.aload_n 0, 1) := by decide +kernel
theorem dX3_left_1 : decode cX3_left 1 = .ok (.getfield 16, 3) := by decide +kernel
theorem dX3_left_4 : decode cX3_left 4 = .ok (.invokevirtual 58, 3) := by decide +kernel
theorem dX3_left_7 : decode cX3_left 7 = .ok (.aload_n 0, 1) := by decide +kernel
theorem dX3_left_8 : decode cX3_left 8 = .ok (.invokevirtual 153, 3) := by decide +kernel
theorem dX3_left_11 : decode cX3_left 11 = .ok (.isub, 1) := by decide +kernel
theorem dX3_left_12 : decode cX3_left 12 = .ok (.ireturn, 1) := by decide +kernel
theorem dX3_needs_0 : decode cX3_needs 0 = .ok (.aload_n 0, 1) := by decide +kernel
theorem dX3_needs_1 : decode cX3_needs 1 = .ok (.invokevirtual 156, 3) := by decide +kernel
theorem dX3_needs_4 : decode cX3_needs 4 = .ok (.aload_n 0, 1) := by decide +kernel
theorem dX3_needs_5 : decode cX3_needs 5 = .ok (.getfield 33, 3) := by decide +kernel
theorem dX3_needs_8 : decode cX3_needs 8 = .ok (.getfield 159, 3) := by decide +kernel
theorem dX3_needs_11 : decode cX3_needs 11 = .ok (.ireturn, 1) := by decide +kernel
theorem dX3_need_0 : decode cX3_need 0 = .ok (.aload_n 0, 1) := by decide +kernel
theorem dX3_need_1 : decode cX3_need 1 = .ok (.invokevirtual 156, 3) := by decide +kernel
theorem dX3_need_4 : decode cX3_need 4 = .ok (.iload_n 1, 1) := by decide +kernel
theorem dX3_need_5 : decode cX3_need 5 = .ok (.ifCond .lt 14, 3) := by decide +kernel
theorem dX3_need_8 : decode cX3_need 8 = .ok (.iload_n 1, 1) := by decide +kernel
theorem dX3_need_9 : decode cX3_need 9 = .ok (.aload_n 0, 1) := by decide +kernel
theorem dX3_need_10 : decode cX3_need 10 = .ok (.getfield 33, 3) := by decide +kernel
theorem dX3_need_13 : decode cX3_need 13 = .ok (.getfield 159, 3) := by decide +kernel
theorem dX3_need_16 : decode cX3_need 16 = .ok (.if_icmp .lt 5, 3) := by decide +kernel
theorem dX3_need_19 : decode cX3_need 19 = .ok (.iconst (-1), 1) := by decide +kernel
theorem dX3_need_20 : decode cX3_need 20 = .ok (.ireturn, 1) := by decide +kernel
theorem dX3_need_21 : decode cX3_need 21 = .ok (.iload_n 2, 1) := by decide +kernel
theorem dX3_need_22 : decode cX3_need 22 = .ok (.lookupswitch 46 #[(0, 26), (1, 36)], 26) := by decide +kernel
theorem dX3_need_48 : decode cX3_need 48 = .ok (.aload_n 0, 1) := by decide +kernel
theorem dX3_need_49 : decode cX3_need 49 = .ok (.getfield 33, 3) := by decide +kernel
theorem dX3_need_52 : decode cX3_need 52 = .ok (.getfield 161, 3) := by decide +kernel
theorem dX3_need_55 : decode cX3_need 55 = .ok (.iload_n 1, 1) := by decide +kernel
theorem dX3_need_56 : decode cX3_need 56 = .ok (.iaload, 1) := by decide +kernel
theorem dX3_need_57 : decode cX3_need 57 = .ok (.ireturn, 1) := by decide +kernel
theorem dX3_need_58 : decode cX3_need 58 = .ok (.aload_n 0, 1) := by decide +kernel
theorem dX3_need_59 : decode cX3_need 59 = .ok (.getfield 33, 3) := by decide +kernel
theorem dX3_need_62 : decode cX3_need 62 = .ok (.getfield 164, 3) := by decide +kernel
theorem dX3_need_65 : decode cX3_need 65 = .ok (.iload_n 1, 1) := by decide +kernel
theorem dX3_need_66 : decode cX3_need 66 = .ok (.iaload, 1) := by decide +kernel
theorem dX3_need_67 : decode cX3_need 67 = .ok (.ireturn, 1) := by decide +kernel
theorem dX3_need_68 : decode cX3_need 68 = .ok (.iconst (-1), 1) := by decide +kernel
theorem dX3_need_69 : decode cX3_need 69 = .ok (.ireturn, 1) := by decide +kernel
theorem dX3_below_0 : decode cX3_below 0 = .ok (.aload_n 0, 1) := by decide +kernel
theorem dX3_below_1 : decode cX3_below 1 = .ok (.invokevirtual 156, 3) := by decide +kernel
theorem dX3_below_4 : decode cX3_below 4 = .ok (.aload_n 0, 1) := by decide +kernel
theorem dX3_below_5 : decode cX3_below 5 = .ok (.getfield 33, 3) := by decide +kernel
theorem dX3_below_8 : decode cX3_below 8 = .ok (.invokevirtual 167, 3) := by decide +kernel
theorem dX3_below_11 : decode cX3_below 11 = .ok (.ifCond .eq 13, 3) := by decide +kernel
theorem dX3_below_14 : decode cX3_below 14 = .ok (.aload_n 0, 1) := by decide +kernel
theorem dX3_below_15 : decode cX3_below 15 = .ok (.getfield 33, 3) := by decide +kernel
theorem dX3_below_18 : decode cX3_below 18 = .ok (.invokevirtual 171, 3) := by decide +kernel
theorem dX3_below_21 : decode cX3_below 21 = .ok (.goto 5, 3) := by decide +kernel
theorem dX3_below_24 : decode cX3_below 24 = .ok (.bipush (-5), 2) := by decide +kernel
theorem dX3_below_26 : decode cX3_below 26 = .ok (.ireturn, 1) := by decide +kernel
theorem dX3_order_0 : decode cX3_order 0 = .ok (.aload_n 0, 1) := by decide +kernel
theorem dX3_order_1 : decode cX3_order 1 = .ok (.invokevirtual 156, 3) := by decide +kernel
theorem dX3_order_4 : decode cX3_order 4 = .ok (.aload_n 0, 1) := by decide +kernel
theorem dX3_order_5 : decode cX3_order 5 = .ok (.getfield 33, 3) := by decide +kernel
theorem dX3_order_8 : decode cX3_order 8 = .ok (.invokevirtual 167, 3) := by decide +kernel
theorem dX3_order_11 : decode cX3_order 11 = .ok (.ifCond .eq 14, 3) := by decide +kernel
theorem dX3_order_14 : decode cX3_order 14 = .ok (.aload_n 0, 1) := by decide +kernel
theorem dX3_order_15 : decode cX3_order 15 = .ok (.getfield 33, 3) := by decide +kernel
theorem dX3_order_18 : decode cX3_order 18 = .ok (.iload_n 1, 1) := by decide +kernel
theorem dX3_order_19 : decode cX3_order 19 = .ok (.invokevirtual 174, 3) := by decide +kernel
theorem dX3_order_22 : decode cX3_order 22 = .ok (.goto 4, 3) := by decide +kernel
theorem dX3_order_25 : decode cX3_order 25 = .ok (.iconst (-1), 1) := by decide +kernel
theorem dX3_order_26 : decode cX3_order 26 = .ok (.ireturn, 1) := by decide +kernel
theorem dX3_above_0 : decode cX3_above 0 = .ok (.aload_n 0, 1) := by decide +kernel
theorem dX3_above_1 : decode cX3_above 1 = .ok (.invokevirtual 156, 3) := by decide +kernel
theorem dX3_above_4 : decode cX3_above 4 = .ok (.aload_n 0, 1) := by decide +kernel
theorem dX3_above_5 : decode cX3_above 5 = .ok (.getfield 33, 3) := by decide +kernel
theorem dX3_above_8 : decode cX3_above 8 = .ok (.invokevirtual 167, 3) := by decide +kernel
theorem dX3_above_11 : decode cX3_above 11 = .ok (.ifCond .eq 13, 3) := by decide +kernel
theorem dX3_above_14 : decode cX3_above 14 = .ok (.aload_n 0, 1) := by decide +kernel
theorem dX3_above_15 : decode cX3_above 15 = .ok (.getfield 33, 3) := by decide +kernel
theorem dX3_above_18 : decode cX3_above 18 = .ok (.invokevirtual 177, 3) := by decide +kernel
theorem dX3_above_21 : decode cX3_above 21 = .ok (.goto 5, 3) := by decide +kernel
theorem dX3_above_24 : decode cX3_above 24 = .ok (.bipush (-5), 2) := by decide +kernel
theorem dX3_above_26 : decode cX3_above 26 = .ok (.ireturn, 1) := by decide +kernel
theorem dX3_group_0 : decode cX3_group 0 = .ok (.aload_n 0, 1) := by decide +kernel
theorem dX3_group_1 : decode cX3_group 1 = .ok (.invokevirtual 156, 3) := by decide +kernel
theorem dX3_group_4 : decode cX3_group 4 = .ok (.aload_n 0, 1) := by decide +kernel
theorem dX3_group_5 : decode cX3_group 5 = .ok (.getfield 33, 3) := by decide +kernel
theorem dX3_group_8 : decode cX3_group 8 = .ok (.invokevirtual 167, 3) := by decide +kernel
theorem dX3_group_11 : decode cX3_group 11 = .ok (.ifCond .eq 14, 3) := by decide +kernel
theorem dX3_group_14 : decode cX3_group 14 = .ok (.aload_n 0, 1) := by decide +kernel
theorem dX3_group_15 : decode cX3_group 15 = .ok (.getfield 33, 3) := by decide +kernel
theorem dX3_group_18 : decode cX3_group 18 = .ok (.iload_n 1, 1) := by decide +kernel
theorem dX3_group_19 : decode cX3_group 19 = .ok (.invokevirtual 180, 3) := by decide +kernel
theorem dX3_group_22 : decode cX3_group 22 = .ok (.goto 4, 3) := by decide +kernel
theorem dX3_group_25 : decode cX3_group 25 = .ok (.iconst (-1), 1) := by decide +kernel
theorem dX3_group_26 : decode cX3_group 26 = .ok (.ireturn, 1) := by decide +kernel
theorem dX3_least_0 : decode cX3_least 0 = .ok (.aload_n 0, 1) := by decide +kernel
theorem dX3_least_1 : decode cX3_least 1 = .ok (.getfield 51, 3) := by decide +kernel
theorem dX3_least_4 : decode cX3_least 4 = .ok (.iconst 5, 1) := by decide +kernel
theorem dX3_least_5 : decode cX3_least 5 = .ok (.if_icmp .le 8, 3) := by decide +kernel
theorem dX3_least_8 : decode cX3_least 8 = .ok (.bipush (-5), 2) := by decide +kernel
theorem dX3_least_10 : decode cX3_least 10 = .ok (.goto 7, 3) := by decide +kernel
theorem dX3_least_13 : decode cX3_least 13 = .ok (.aload_n 0, 1) := by decide +kernel
theorem dX3_least_14 : decode cX3_least 14 = .ok (.invokevirtual 183, 3) := by decide +kernel
theorem dX3_least_17 : decode cX3_least 17 = .ok (.ireturn, 1) := by decide +kernel
theorem dX3_planned_0 : decode cX3_planned 0 = .ok (.aload_n 0, 1) := by decide +kernel
theorem dX3_planned_1 : decode cX3_planned 1 = .ok (.getfield 51, 3) := by decide +kernel
theorem dX3_planned_4 : decode cX3_planned 4 = .ok (.iconst 5, 1) := by decide +kernel
theorem dX3_planned_5 : decode cX3_planned 5 = .ok (.if_icmp .le 5, 3) := by decide +kernel
theorem dX3_planned_8 : decode cX3_planned 8 = .ok (.iconst (-1), 1) := by decide +kernel
theorem dX3_planned_9 : decode cX3_planned 9 = .ok (.ireturn, 1) := by decide +kernel
theorem dX3_planned_10 : decode cX3_planned 10 = .ok (.aload_n 0, 1) := by decide +kernel
theorem dX3_planned_11 : decode cX3_planned 11 = .ok (.invokevirtual 183, 3) := by decide +kernel
theorem dX3_planned_14 : decode cX3_planned 14 = .ok (.istore_n 2, 1) := by decide +kernel
theorem dX3_planned_15 : decode cX3_planned 15 = .ok (.iload_n 1, 1) := by decide +kernel
theorem dX3_planned_16 : decode cX3_planned 16 = .ok (.ifCond .lt 17, 3) := by decide +kernel
theorem dX3_planned_19 : decode cX3_planned 19 = .ok (.iload_n 1, 1) := by decide +kernel
theorem dX3_planned_20 : decode cX3_planned 20 = .ok (.iload_n 2, 1) := by decide +kernel
theorem dX3_planned_21 : decode cX3_planned 21 = .ok (.if_icmp .ge 12, 3) := by decide +kernel
theorem dX3_planned_24 : decode cX3_planned 24 = .ok (.aload_n 0, 1) := by decide +kernel
theorem dX3_planned_25 : decode cX3_planned 25 = .ok (.getfield 44, 3) := by decide +kernel
theorem dX3_planned_28 : decode cX3_planned 28 = .ok (.iload_n 1, 1) := by decide +kernel
theorem dX3_planned_29 : decode cX3_planned 29 = .ok (.iaload, 1) := by decide +kernel
theorem dX3_planned_30 : decode cX3_planned 30 = .ok (.goto 4, 3) := by decide +kernel
theorem dX3_planned_33 : decode cX3_planned 33 = .ok (.iconst (-1), 1) := by decide +kernel
theorem dX3_planned_34 : decode cX3_planned 34 = .ok (.ireturn, 1) := by decide +kernel
theorem dX3_plan_0 : decode cX3_plan 0 = .ok (.aload_n 0, 1) := by decide +kernel
theorem dX3_plan_1 : decode cX3_plan 1 = .ok (.getfield 44, 3) := by decide +kernel
theorem dX3_plan_4 : decode cX3_plan 4 = .ok (.iconst 0, 1) := by decide +kernel
theorem dX3_plan_5 : decode cX3_plan 5 = .ok (.iload_n 1, 1) := by decide +kernel
theorem dX3_plan_6 : decode cX3_plan 6 = .ok (.iastore, 1) := by decide +kernel
theorem dX3_plan_7 : decode cX3_plan 7 = .ok (.aload_n 0, 1) := by decide +kernel
theorem dX3_plan_8 : decode cX3_plan 8 = .ok (.getfield 44, 3) := by decide +kernel
theorem dX3_plan_11 : decode cX3_plan 11 = .ok (.iconst 1, 1) := by decide +kernel
theorem dX3_plan_12 : decode cX3_plan 12 = .ok (.iload_n 2, 1) := by decide +kernel
theorem dX3_plan_13 : decode cX3_plan 13 = .ok (.iastore, 1) := by decide +kernel
theorem dX3_plan_14 : decode cX3_plan 14 = .ok (.aload_n 0, 1) := by decide +kernel
theorem dX3_plan_15 : decode cX3_plan 15 = .ok (.getfield 44, 3) := by decide +kernel
theorem dX3_plan_18 : decode cX3_plan 18 = .ok (.iconst 2, 1) := by decide +kernel
theorem dX3_plan_19 : decode cX3_plan 19 = .ok (.iload_n 3, 1) := by decide +kernel
theorem dX3_plan_20 : decode cX3_plan 20 = .ok (.iastore, 1) := by decide +kernel
theorem dX3_plan_21 : decode cX3_plan 21 = .ok (.aload_n 0, 1) := by decide +kernel
theorem dX3_plan_22 : decode cX3_plan 22 = .ok (.getfield 44, 3) := by decide +kernel
theorem dX3_plan_25 : decode cX3_plan 25 = .ok (.iconst 3, 1) := by decide +kernel
theorem dX3_plan_26 : decode cX3_plan 26 = .ok (.iload 4, 2) := by decide +kernel
theorem dX3_plan_28 : decode cX3_plan 28 = .ok (.iastore, 1) := by decide +kernel
theorem dX3_plan_29 : decode cX3_plan 29 = .ok (.iconst 0, 1) := by decide +kernel
theorem dX3_plan_30 : decode cX3_plan 30 = .ok (.istore 5, 2) := by decide +kernel
theorem dX3_plan_32 : decode cX3_plan 32 = .ok (.iconst 0, 1) := by decide +kernel
theorem dX3_plan_33 : decode cX3_plan 33 = .ok (.istore 6, 2) := by decide +kernel
theorem dX3_plan_35 : decode cX3_plan 35 = .ok (.iload 6, 2) := by decide +kernel
theorem dX3_plan_37 : decode cX3_plan 37 = .ok (.iconst 4, 1) := by decide +kernel
theorem dX3_plan_38 : decode cX3_plan 38 = .ok (.if_icmp .ge 46, 3) := by decide +kernel
theorem dX3_plan_41 : decode cX3_plan 41 = .ok (.aload_n 0, 1) := by decide +kernel
theorem dX3_plan_42 : decode cX3_plan 42 = .ok (.getfield 44, 3) := by decide +kernel
theorem dX3_plan_45 : decode cX3_plan 45 = .ok (.iload 6, 2) := by decide +kernel
theorem dX3_plan_47 : decode cX3_plan 47 = .ok (.iaload, 1) := by decide +kernel
theorem dX3_plan_48 : decode cX3_plan 48 = .ok (.ifCond .eq 30, 3) := by decide +kernel
theorem dX3_plan_51 : decode cX3_plan 51 = .ok (.iload 5, 2) := by decide +kernel
theorem dX3_plan_53 : decode cX3_plan 53 = .ok (.iload 6, 2) := by decide +kernel
theorem dX3_plan_55 : decode cX3_plan 55 = .ok (.if_icmp .lt 17, 3) := by decide +kernel
theorem dX3_plan_58 : decode cX3_plan 58 = .ok (.aload_n 0, 1) := by decide +kernel
theorem dX3_plan_59 : decode cX3_plan 59 = .ok (.aload_n 0, 1) := by decide +kernel
theorem dX3_plan_60 : decode cX3_plan 60 = .ok (.getfield 44, 3) := by decide +kernel
theorem dX3_plan_63 : decode cX3_plan 63 = .ok (.iload 6, 2) := by decide +kernel
theorem dX3_plan_65 : decode cX3_plan 65 = .ok (.iaload, 1) := by decide +kernel
theorem dX3_plan_66 : decode cX3_plan 66 = .ok (.invokevirtual 88, 3) := by decide +kernel
theorem dX3_plan_69 : decode cX3_plan 69 = .ok (.ifCond .ne 6, 3) := by decide +kernel
theorem dX3_plan_72 : decode cX3_plan 72 = .ok (.bipush (-2), 2) := by decide +kernel
theorem dX3_plan_74 : decode cX3_plan 74 = .ok (.ireturn, 1) := by decide +kernel
theorem dX3_plan_75 : decode cX3_plan 75 = .ok (.iinc 5 1, 3) := by decide +kernel
theorem dX3_plan_78 : decode cX3_plan 78 = .ok (.iinc 6 1, 3) := by decide +kernel
theorem dX3_plan_81 : decode cX3_plan 81 = .ok (.goto (-46), 3) := by decide +kernel
theorem dX3_plan_84 : decode cX3_plan 84 = .ok (.aload_n 0, 1) := by decide +kernel
theorem dX3_plan_85 : decode cX3_plan 85 = .ok (.iload 5, 2) := by decide +kernel
theorem dX3_plan_87 : decode cX3_plan 87 = .ok (.invokevirtual 186, 3) := by decide +kernel
theorem dX3_plan_90 : decode cX3_plan 90 = .ok (.invokestatic 104, 3) := by decide +kernel
theorem dX3_plan_93 : decode cX3_plan 93 = .ok (.ireturn, 1) := by decide +kernel
theorem dX3_goOn_0 : decode cX3_goOn 0 = .ok (.aload_n 0, 1) := by decide +kernel
theorem dX3_goOn_1 : decode cX3_goOn 1 = .ok (.getfield 47, 3) := by decide +kernel
theorem dX3_goOn_4 : decode cX3_goOn 4 = .ok (.bipush 40, 2) := by decide +kernel
theorem dX3_goOn_6 : decode cX3_goOn 6 = .ok (.if_icmp .lt 6, 3) := by decide +kernel
theorem dX3_goOn_9 : decode cX3_goOn 9 = .ok (.bipush (-4), 2) := by decide +kernel
theorem dX3_goOn_11 : decode cX3_goOn 11 = .ok (.ireturn, 1) := by decide +kernel
theorem dX3_goOn_12 : decode cX3_goOn 12 = .ok (.aload_n 0, 1) := by decide +kernel
theorem dX3_goOn_13 : decode cX3_goOn 13 = .ok (.invokevirtual 189, 3) := by decide +kernel
theorem dX3_goOn_16 : decode cX3_goOn 16 = .ok (.istore_n 1, 1) := by decide +kernel
theorem dX3_goOn_17 : decode cX3_goOn 17 = .ok (.iload_n 1, 1) := by decide +kernel
theorem dX3_goOn_18 : decode cX3_goOn 18 = .ok (.ifCond .eq 9, 3) := by decide +kernel
theorem dX3_goOn_21 : decode cX3_goOn 21 = .ok (.aload_n 0, 1) := by decide +kernel
theorem dX3_goOn_22 : decode cX3_goOn 22 = .ok (.iload_n 1, 1) := by decide +kernel
theorem dX3_goOn_23 : decode cX3_goOn 23 = .ok (.invokevirtual 108, 3) := by decide +kernel
theorem dX3_goOn_26 : decode cX3_goOn 26 = .ok (.pop, 1) := by decide +kernel
theorem dX3_goOn_27 : decode cX3_goOn 27 = .ok (.iload_n 1, 1) := by decide +kernel
theorem dX3_goOn_28 : decode cX3_goOn 28 = .ok (.ireturn, 1) := by decide +kernel
theorem dX3_finish_0 : decode cX3_finish 0 = .ok (.iconst 0, 1) := by decide +kernel
theorem dX3_finish_1 : decode cX3_finish 1 = .ok (.istore_n 1, 1) := by decide +kernel
theorem dX3_finish_2 : decode cX3_finish 2 = .ok (.iload_n 1, 1) := by decide +kernel
theorem dX3_finish_3 : decode cX3_finish 3 = .ok (.bipush 40, 2) := by decide +kernel
theorem dX3_finish_5 : decode cX3_finish 5 = .ok (.if_icmp .ge 16, 3) := by decide +kernel
theorem dX3_finish_8 : decode cX3_finish 8 = .ok (.aload_n 0, 1) := by decide +kernel
theorem dX3_finish_9 : decode cX3_finish 9 = .ok (.invokevirtual 192, 3) := by decide +kernel
theorem dX3_finish_12 : decode cX3_finish 12 = .ok (.ifCond .le 9, 3) := by decide +kernel
theorem dX3_finish_15 : decode cX3_finish 15 = .ok (.iinc 1 1, 3) := by decide +kernel
theorem dX3_finish_18 : decode cX3_finish 18 = .ok (.goto (-16), 3) := by decide +kernel
theorem dX3_finish_21 : decode cX3_finish 21 = .ok (.iload_n 1, 1) := by decide +kernel
theorem dX3_finish_22 : decode cX3_finish 22 = .ok (.ireturn, 1) := by decide +kernel
theorem dX3_count_0 : decode cX3_count 0 = .ok (.iload_n 1, 1) := by decide +kernel
theorem dX3_count_1 : decode cX3_count 1 = .ok (.tableswitch 63 0 4 #[35, 40, 48, 53, 58], 35) := by decide +kernel
theorem dX3_count_36 : decode cX3_count 36 = .ok (.aload_n 0, 1) := by decide +kernel
theorem dX3_count_37 : decode cX3_count 37 = .ok (.getfield 51, 3) := by decide +kernel
theorem dX3_count_40 : decode cX3_count 40 = .ok (.ireturn, 1) := by decide +kernel
theorem dX3_count_41 : decode cX3_count 41 = .ok (.aload_n 0, 1) := by decide +kernel
theorem dX3_count_42 : decode cX3_count 42 = .ok (.getfield 16, 3) := by decide +kernel
theorem dX3_count_45 : decode cX3_count 45 = .ok (.invokevirtual 58, 3) := by decide +kernel
theorem dX3_count_48 : decode cX3_count 48 = .ok (.ireturn, 1) := by decide +kernel
theorem dX3_count_49 : decode cX3_count 49 = .ok (.aload_n 0, 1) := by decide +kernel
theorem dX3_count_50 : decode cX3_count 50 = .ok (.getfield 47, 3) := by decide +kernel
theorem dX3_count_53 : decode cX3_count 53 = .ok (.ireturn, 1) := by decide +kernel
theorem dX3_count_54 : decode cX3_count 54 = .ok (.aload_n 0, 1) := by decide +kernel
theorem dX3_count_55 : decode cX3_count 55 = .ok (.invokevirtual 153, 3) := by decide +kernel
theorem dX3_count_58 : decode cX3_count 58 = .ok (.ireturn, 1) := by decide +kernel
theorem dX3_count_59 : decode cX3_count 59 = .ok (.aload_n 0, 1) := by decide +kernel
theorem dX3_count_60 : decode cX3_count 60 = .ok (.invokevirtual 195, 3) := by decide +kernel
theorem dX3_count_63 : decode cX3_count 63 = .ok (.ireturn, 1) := by decide +kernel
theorem dX3_count_64 : decode cX3_count 64 = .ok (.iconst (-1), 1) := by decide +kernel
theorem dX3_count_65 : decode cX3_count 65 = .ok (.ireturn, 1) := by decide +kernel
theorem dX3_isPiece_0 : decode cX3_isPiece 0 = .ok (.iload_n 1, 1) := by decide +kernel
theorem dX3_isPiece_1 : decode cX3_isPiece 1 = .ok (.ifCond .lt 15, 3) := by decide +kernel
theorem dX3_isPiece_4 : decode cX3_isPiece 4 = .ok (.iload_n 1, 1) := by decide +kernel
theorem dX3_isPiece_5 : decode cX3_isPiece 5 = .ok (.aload_n 0, 1) := by decide +kernel
theorem dX3_isPiece_6 : decode cX3_isPiece 6 = .ok (.getfield 51, 3) := by decide +kernel
theorem dX3_isPiece_9 : decode cX3_isPiece 9 = .ok (.if_icmp .ge 7, 3) := by decide +kernel
theorem dX3_isPiece_12 : decode cX3_isPiece 12 = .ok (.iconst 1, 1) := by decide +kernel
theorem dX3_isPiece_13 : decode cX3_isPiece 13 = .ok (.goto 4, 3) := by decide +kernel
theorem dX3_isPiece_16 : decode cX3_isPiece 16 = .ok (.iconst 0, 1) := by decide +kernel
theorem dX3_isPiece_17 : decode cX3_isPiece 17 = .ok (.ireturn, 1) := by decide +kernel
theorem dX3_isListener_0 : decode cX3_isListener 0 = .ok (.iload_n 1, 1) := by decide +kernel
theorem dX3_isListener_1 : decode cX3_isListener 1 = .ok (.ifCond .lt 18, 3) := by decide +kernel
theorem dX3_isListener_4 : decode cX3_isListener 4 = .ok (.iload_n 1, 1) := by decide +kernel
theorem dX3_isListener_5 : decode cX3_isListener 5 = .ok (.aload_n 0, 1) := by decide +kernel
theorem dX3_isListener_6 : decode cX3_isListener 6 = .ok (.getfield 16, 3) := by decide +kernel
theorem dX3_isListener_9 : decode cX3_isListener 9 = .ok (.invokevirtual 58, 3) := by decide +kernel
theorem dX3_isListener_12 : decode cX3_isListener 12 = .ok (.if_icmp .ge 7, 3) := by decide +kernel
theorem dX3_isListener_15 : decode cX3_isListener 15 = .ok (.iconst 1, 1) := by decide +kernel
theorem dX3_isListener_16 : decode cX3_isListener 16 = .ok (.goto 4, 3) := by decide +kernel
theorem dX3_isListener_19 : decode cX3_isListener 19 = .ok (.iconst 0, 1) := by decide +kernel
theorem dX3_isListener_20 : decode cX3_isListener 20 = .ok (.ireturn, 1) := by decide +kernel
theorem dX3_isCall_0 : decode cX3_isCall 0 = .ok (.iload_n 1, 1) := by decide +kernel
theorem dX3_isCall_1 : decode cX3_isCall 1 = .ok (.ifCond .lt 15, 3) := by decide +kernel
theorem dX3_isCall_4 : decode cX3_isCall 4 = .ok (.iload_n 1, 1) := by decide +kernel
theorem dX3_isCall_5 : decode cX3_isCall 5 = .ok (.aload_n 0, 1) := by decide +kernel
theorem dX3_isCall_6 : decode cX3_isCall 6 = .ok (.getfield 47, 3) := by decide +kernel
theorem dX3_isCall_9 : decode cX3_isCall 9 = .ok (.if_icmp .ge 7, 3) := by decide +kernel
theorem dX3_isCall_12 : decode cX3_isCall 12 = .ok (.iconst 1, 1) := by decide +kernel
theorem dX3_isCall_13 : decode cX3_isCall 13 = .ok (.goto 4, 3) := by decide +kernel
theorem dX3_isCall_16 : decode cX3_isCall 16 = .ok (.iconst 0, 1) := by decide +kernel
theorem dX3_isCall_17 : decode cX3_isCall 17 = .ok (.ireturn, 1) := by decide +kernel
theorem dX3_isMask_0 : decode cX3_isMask 0 = .ok (.iload_n 1, 1) := by decide +kernel
theorem dX3_isMask_1 : decode cX3_isMask 1 = .ok (.ifCond .eq 18, 3) := by decide +kernel
theorem dX3_isMask_4 : decode cX3_isMask 4 = .ok (.iload_n 1, 1) := by decide +kernel
theorem dX3_isMask_5 : decode cX3_isMask 5 = .ok (.aload_n 0, 1) := by decide +kernel
theorem dX3_isMask_6 : decode cX3_isMask 6 = .ok (.invokevirtual 147, 3) := by decide +kernel
theorem dX3_isMask_9 : decode cX3_isMask 9 = .ok (.iconst (-1), 1) := by decide +kernel
theorem dX3_isMask_10 : decode cX3_isMask 10 = .ok (.ixor, 1) := by decide +kernel
theorem dX3_isMask_11 : decode cX3_isMask 11 = .ok (.iand, 1) := by decide +kernel
theorem dX3_isMask_12 : decode cX3_isMask 12 = .ok (.ifCond .ne 7, 3) := by decide +kernel
theorem dX3_isMask_15 : decode cX3_isMask 15 = .ok (.iconst 1, 1) := by decide +kernel
theorem dX3_isMask_16 : decode cX3_isMask 16 = .ok (.goto 4, 3) := by decide +kernel
theorem dX3_isMask_19 : decode cX3_isMask 19 = .ok (.iconst 0, 1) := by decide +kernel
theorem dX3_isMask_20 : decode cX3_isMask 20 = .ok (.ireturn, 1) := by decide +kernel
theorem dX3_allPieces_0 : decode cX3_allPieces 0 = .ok (.iconst 1, 1) := by decide +kernel
theorem dX3_allPieces_1 : decode cX3_allPieces 1 = .ok (.aload_n 0, 1) := by decide +kernel
theorem dX3_allPieces_2 : decode cX3_allPieces 2 = .ok (.getfield 51, 3) := by decide +kernel
theorem dX3_allPieces_5 : decode cX3_allPieces 5 = .ok (.ishl, 1) := by decide +kernel
theorem dX3_allPieces_6 : decode cX3_allPieces 6 = .ok (.iconst 1, 1) := by decide +kernel
theorem dX3_allPieces_7 : decode cX3_allPieces 7 = .ok (.isub, 1) := by decide +kernel
theorem dX3_allPieces_8 : decode cX3_allPieces 8 = .ok (.ireturn, 1) := by decide +kernel
theorem dX3_isIn_0 : decode cX3_isIn 0 = .ok (.iload_n 1, 1) := by decide +kernel
theorem dX3_isIn_1 : decode cX3_isIn 1 = .ok (.iload_n 0, 1) := by decide +kernel
theorem dX3_isIn_2 : decode cX3_isIn 2 = .ok (.ishr, 1) := by decide +kernel
theorem dX3_isIn_3 : decode cX3_isIn 3 = .ok (.iconst 1, 1) := by decide +kernel
theorem dX3_isIn_4 : decode cX3_isIn 4 = .ok (.iand, 1) := by decide +kernel
theorem dX3_isIn_5 : decode cX3_isIn 5 = .ok (.ifCond .eq 7, 3) := by decide +kernel
theorem dX3_isIn_8 : decode cX3_isIn 8 = .ok (.iconst 1, 1) := by decide +kernel
theorem dX3_isIn_9 : decode cX3_isIn 9 = .ok (.goto 4, 3) := by decide +kernel
theorem dX3_isIn_12 : decode cX3_isIn 12 = .ok (.iconst 0, 1) := by decide +kernel
theorem dX3_isIn_13 : decode cX3_isIn 13 = .ok (.ireturn, 1) := by decide +kernel
theorem dX3_oneIf_0 : decode cX3_oneIf 0 = .ok (.iload_n 0, 1) := by decide +kernel
theorem dX3_oneIf_1 : decode cX3_oneIf 1 = .ok (.ifCond .eq 7, 3) := by decide +kernel
theorem dX3_oneIf_4 : decode cX3_oneIf 4 = .ok (.iconst 1, 1) := by decide +kernel
theorem dX3_oneIf_5 : decode cX3_oneIf 5 = .ok (.goto 4, 3) := by decide +kernel
theorem dX3_oneIf_8 : decode cX3_oneIf 8 = .ok (.iconst 0, 1) := by decide +kernel
theorem dX3_oneIf_9 : decode cX3_oneIf 9 = .ok (.ireturn, 1) := by decide +kernel
theorem dX3_bytesOf_0 : decode cX3_bytesOf 0 = .ok (.lconst 0, 1) := by decide +kernel
theorem dX3_bytesOf_1 : decode cX3_bytesOf 1 = .ok (.lstore_n 2, 1) := by decide +kernel
theorem dX3_bytesOf_2 : decode cX3_bytesOf 2 = .ok (.iconst 0, 1) := by decide +kernel
theorem dX3_bytesOf_3 : decode cX3_bytesOf 3 = .ok (.istore 4, 2) := by decide +kernel
theorem dX3_bytesOf_5 : decode cX3_bytesOf 5 = .ok (.iload 4, 2) := by decide +kernel
theorem dX3_bytesOf_7 : decode cX3_bytesOf 7 = .ok (.aload_n 0, 1) := by decide +kernel
theorem dX3_bytesOf_8 : decode cX3_bytesOf 8 = .ok (.getfield 51, 3) := by decide +kernel
theorem dX3_bytesOf_11 : decode cX3_bytesOf 11 = .ok (.if_icmp .ge 28, 3) := by decide +kernel
theorem dX3_bytesOf_14 : decode cX3_bytesOf 14 = .ok (.iload 4, 2) := by decide +kernel
theorem dX3_bytesOf_16 : decode cX3_bytesOf 16 = .ok (.iload_n 1, 1) := by decide +kernel
theorem dX3_bytesOf_17 : decode cX3_bytesOf 17 = .ok (.invokestatic 84, 3) := by decide +kernel
theorem dX3_bytesOf_20 : decode cX3_bytesOf 20 = .ok (.ifCond .eq 13, 3) := by decide +kernel
theorem dX3_bytesOf_23 : decode cX3_bytesOf 23 = .ok (.lload_n 2, 1) := by decide +kernel
theorem dX3_bytesOf_24 : decode cX3_bytesOf 24 = .ok (.aload_n 0, 1) := by decide +kernel
theorem dX3_bytesOf_25 : decode cX3_bytesOf 25 = .ok (.getfield 9, 3) := by decide +kernel
theorem dX3_bytesOf_28 : decode cX3_bytesOf 28 = .ok (.iload 4, 2) := by decide +kernel
theorem dX3_bytesOf_30 : decode cX3_bytesOf 30 = .ok (.laload, 1) := by decide +kernel
theorem dX3_bytesOf_31 : decode cX3_bytesOf 31 = .ok (.lxor, 1) := by decide +kernel
theorem dX3_bytesOf_32 : decode cX3_bytesOf 32 = .ok (.lstore_n 2, 1) := by decide +kernel
theorem dX3_bytesOf_33 : decode cX3_bytesOf 33 = .ok (.iinc 4 1, 3) := by decide +kernel
theorem dX3_bytesOf_36 : decode cX3_bytesOf 36 = .ok (.goto (-31), 3) := by decide +kernel
theorem dX3_bytesOf_39 : decode cX3_bytesOf 39 = .ok (.lload_n 2, 1) := by decide +kernel
theorem dX3_bytesOf_40 : decode cX3_bytesOf 40 = .ok (.lreturn, 1) := by decide +kernel
theorem dX3_speak_0 : decode cX3_speak 0 = .ok (.aload_n 0, 1) := by decide +kernel
theorem dX3_speak_1 : decode cX3_speak 1 = .ok (.getfield 47, 3) := by decide +kernel
theorem dX3_speak_4 : decode cX3_speak 4 = .ok (.bipush 40, 2) := by decide +kernel
theorem dX3_speak_6 : decode cX3_speak 6 = .ok (.if_icmp .lt 6, 3) := by decide +kernel
theorem dX3_speak_9 : decode cX3_speak 9 = .ok (.bipush (-4), 2) := by decide +kernel
theorem dX3_speak_11 : decode cX3_speak 11 = .ok (.ireturn, 1) := by decide +kernel
theorem dX3_speak_12 : decode cX3_speak 12 = .ok (.aload_n 0, 1) := by decide +kernel
theorem dX3_speak_13 : decode cX3_speak 13 = .ok (.getfield 47, 3) := by decide +kernel
theorem dX3_speak_16 : decode cX3_speak 16 = .ok (.istore_n 2, 1) := by decide +kernel
theorem dX3_speak_17 : decode cX3_speak 17 = .ok (.aload_n 0, 1) := by decide +kernel
theorem dX3_speak_18 : decode cX3_speak 18 = .ok (.getfield 20, 3) := by decide +kernel
theorem dX3_speak_21 : decode cX3_speak 21 = .ok (.iload_n 2, 1) := by decide +kernel
theorem dX3_speak_22 : decode cX3_speak 22 = .ok (.iload_n 1, 1) := by decide +kernel
theorem dX3_speak_23 : decode cX3_speak 23 = .ok (.iastore, 1) := by decide +kernel
theorem dX3_speak_24 : decode cX3_speak 24 = .ok (.iconst 0, 1) := by decide +kernel
theorem dX3_speak_25 : decode cX3_speak 25 = .ok (.istore_n 3, 1) := by decide +kernel
theorem dX3_speak_26 : decode cX3_speak 26 = .ok (.iload_n 3, 1) := by decide +kernel
theorem dX3_speak_27 : decode cX3_speak 27 = .ok (.aload_n 0, 1) := by decide +kernel
theorem dX3_speak_28 : decode cX3_speak 28 = .ok (.getfield 16, 3) := by decide +kernel
theorem dX3_speak_31 : decode cX3_speak 31 = .ok (.invokevirtual 58, 3) := by decide +kernel
theorem dX3_speak_34 : decode cX3_speak 34 = .ok (.if_icmp .ge 59, 3) := by decide +kernel
theorem dX3_speak_37 : decode cX3_speak 37 = .ok (.aload_n 0, 1) := by decide +kernel
theorem dX3_speak_38 : decode cX3_speak 38 = .ok (.getfield 16, 3) := by decide +kernel
theorem dX3_speak_41 : decode cX3_speak 41 = .ok (.iload_n 3, 1) := by decide +kernel
theorem dX3_speak_42 : decode cX3_speak 42 = .ok (.invokevirtual 74, 3) := by decide +kernel
theorem dX3_speak_45 : decode cX3_speak 45 = .ok (.checkcast 62, 3) := by decide +kernel
theorem dX3_speak_48 : decode cX3_speak 48 = .ok (.astore 4, 2) := by decide +kernel
theorem dX3_speak_50 : decode cX3_speak 50 = .ok (.aload 4, 2) := by decide +kernel
theorem dX3_speak_52 : decode cX3_speak 52 = .ok (.getfield 100, 3) := by decide +kernel
theorem dX3_speak_55 : decode cX3_speak 55 = .ok (.ifCond .ne 32, 3) := by decide +kernel
theorem dX3_speak_58 : decode cX3_speak 58 = .ok (.aload_n 0, 1) := by decide +kernel
theorem dX3_speak_59 : decode cX3_speak 59 = .ok (.getfield 24, 3) := by decide +kernel
theorem dX3_speak_62 : decode cX3_speak 62 = .ok (.iload_n 2, 1) := by decide +kernel
theorem dX3_speak_63 : decode cX3_speak 63 = .ok (.dup2, 1) := by decide +kernel
theorem dX3_speak_64 : decode cX3_speak 64 = .ok (.iaload, 1) := by decide +kernel
theorem dX3_speak_65 : decode cX3_speak 65 = .ok (.iconst 1, 1) := by decide +kernel
theorem dX3_speak_66 : decode cX3_speak 66 = .ok (.iadd, 1) := by decide +kernel
theorem dX3_speak_67 : decode cX3_speak 67 = .ok (.iastore, 1) := by decide +kernel
theorem dX3_speak_68 : decode cX3_speak 68 = .ok (.aload_n 0, 1) := by decide +kernel
theorem dX3_speak_69 : decode cX3_speak 69 = .ok (.getfield 27, 3) := by decide +kernel
theorem dX3_speak_72 : decode cX3_speak 72 = .ok (.iload_n 2, 1) := by decide +kernel
theorem dX3_speak_73 : decode cX3_speak 73 = .ok (.dup2, 1) := by decide +kernel
theorem dX3_speak_74 : decode cX3_speak 74 = .ok (.iaload, 1) := by decide +kernel
theorem dX3_speak_75 : decode cX3_speak 75 = .ok (.aload 4, 2) := by decide +kernel
theorem dX3_speak_77 : decode cX3_speak 77 = .ok (.iload_n 1, 1) := by decide +kernel
theorem dX3_speak_78 : decode cX3_speak 78 = .ok (.iload_n 2, 1) := by decide +kernel
theorem dX3_speak_79 : decode cX3_speak 79 = .ok (.invokevirtual 198, 3) := by decide +kernel
theorem dX3_speak_82 : decode cX3_speak 82 = .ok (.invokestatic 104, 3) := by decide +kernel
theorem dX3_speak_85 : decode cX3_speak 85 = .ok (.iadd, 1) := by decide +kernel
theorem dX3_speak_86 : decode cX3_speak 86 = .ok (.iastore, 1) := by decide +kernel
theorem dX3_speak_87 : decode cX3_speak 87 = .ok (.iinc 3 1, 3) := by decide +kernel
theorem dX3_speak_90 : decode cX3_speak 90 = .ok (.goto (-64), 3) := by decide +kernel
theorem dX3_speak_93 : decode cX3_speak 93 = .ok (.aload_n 0, 1) := by decide +kernel
theorem dX3_speak_94 : decode cX3_speak 94 = .ok (.dup, 1) := by decide +kernel
theorem dX3_speak_95 : decode cX3_speak 95 = .ok (.getfield 47, 3) := by decide +kernel
theorem dX3_speak_98 : decode cX3_speak 98 = .ok (.iconst 1, 1) := by decide +kernel
theorem dX3_speak_99 : decode cX3_speak 99 = .ok (.iadd, 1) := by decide +kernel
theorem dX3_speak_100 : decode cX3_speak 100 = .ok (.putfield 47, 3) := by decide +kernel
theorem dX3_speak_103 : decode cX3_speak 103 = .ok (.iload_n 2, 1) := by decide +kernel
theorem dX3_speak_104 : decode cX3_speak 104 = .ok (.ireturn, 1) := by decide +kernel
theorem dX3_hasWorkedOut_0 : decode cX3_hasWorkedOut 0 = .ok (.aload_n 0, 1) := by decide +kernel
theorem dX3_hasWorkedOut_1 : decode cX3_hasWorkedOut 1 = .ok (.iload_n 1, 1) := by decide +kernel
theorem dX3_hasWorkedOut_2 : decode cX3_hasWorkedOut 2 = .ok (.invokevirtual 71, 3) := by decide +kernel
theorem dX3_hasWorkedOut_5 : decode cX3_hasWorkedOut 5 = .ok (.ifCond .eq 36, 3) := by decide +kernel
theorem dX3_hasWorkedOut_8 : decode cX3_hasWorkedOut 8 = .ok (.aload_n 0, 1) := by decide +kernel
theorem dX3_hasWorkedOut_9 : decode cX3_hasWorkedOut 9 = .ok (.iload_n 2, 1) := by decide +kernel
theorem dX3_hasWorkedOut_10 : decode cX3_hasWorkedOut 10 = .ok (.invokevirtual 54, 3) := by decide +kernel
theorem dX3_hasWorkedOut_13 : decode cX3_hasWorkedOut 13 = .ok (.ifCond .eq 28, 3) := by decide +kernel
theorem dX3_hasWorkedOut_16 : decode cX3_hasWorkedOut 16 = .ok (.aload_n 0, 1) := by decide +kernel
theorem dX3_hasWorkedOut_17 : decode cX3_hasWorkedOut 17 = .ok (.getfield 16, 3) := by decide +kernel
theorem dX3_hasWorkedOut_20 : decode cX3_hasWorkedOut 20 = .ok (.iload_n 1, 1) := by decide +kernel
theorem dX3_hasWorkedOut_21 : decode cX3_hasWorkedOut 21 = .ok (.invokevirtual 74, 3) := by decide +kernel
theorem dX3_hasWorkedOut_24 : decode cX3_hasWorkedOut 24 = .ok (.checkcast 62, 3) := by decide +kernel
theorem dX3_hasWorkedOut_27 : decode cX3_hasWorkedOut 27 = .ok (.getfield 126, 3) := by decide +kernel
theorem dX3_hasWorkedOut_30 : decode cX3_hasWorkedOut 30 = .ok (.iload_n 2, 1) := by decide +kernel
theorem dX3_hasWorkedOut_31 : decode cX3_hasWorkedOut 31 = .ok (.invokevirtual 201, 3) := by decide +kernel
theorem dX3_hasWorkedOut_34 : decode cX3_hasWorkedOut 34 = .ok (.ifCond .eq 7, 3) := by decide +kernel
theorem dX3_hasWorkedOut_37 : decode cX3_hasWorkedOut 37 = .ok (.iconst 1, 1) := by decide +kernel
theorem dX3_hasWorkedOut_38 : decode cX3_hasWorkedOut 38 = .ok (.goto 4, 3) := by decide +kernel
theorem dX3_hasWorkedOut_41 : decode cX3_hasWorkedOut 41 = .ok (.iconst 0, 1) := by decide +kernel
theorem dX3_hasWorkedOut_42 : decode cX3_hasWorkedOut 42 = .ok (.ireturn, 1) := by decide +kernel
theorem dX3_isServed_0 : decode cX3_isServed 0 = .ok (.aload_n 1, 1) := by decide +kernel
theorem dX3_isServed_1 : decode cX3_isServed 1 = .ok (.aload_n 1, 1) := by decide +kernel
theorem dX3_isServed_2 : decode cX3_isServed 2 = .ok (.getfield 126, 3) := by decide +kernel
theorem dX3_isServed_5 : decode cX3_isServed 5 = .ok (.aload_n 0, 1) := by decide +kernel
theorem dX3_isServed_6 : decode cX3_isServed 6 = .ok (.invokevirtual 147, 3) := by decide +kernel
theorem dX3_isServed_9 : decode cX3_isServed 9 = .ok (.invokevirtual 204, 3) := by decide +kernel
theorem dX3_isServed_12 : decode cX3_isServed 12 = .ok (.ireturn, 1) := by decide +kernel
theorem dX3_servedCount_0 : decode cX3_servedCount 0 = .ok (.iconst 0, 1) := by decide +kernel
theorem dX3_servedCount_1 : decode cX3_servedCount 1 = .ok (.istore_n 1, 1) := by decide +kernel
theorem dX3_servedCount_2 : decode cX3_servedCount 2 = .ok (.iconst 0, 1) := by decide +kernel
theorem dX3_servedCount_3 : decode cX3_servedCount 3 = .ok (.istore_n 2, 1) := by decide +kernel
theorem dX3_servedCount_4 : decode cX3_servedCount 4 = .ok (.iload_n 2, 1) := by decide +kernel
theorem dX3_servedCount_5 : decode cX3_servedCount 5 = .ok (.aload_n 0, 1) := by decide +kernel
theorem dX3_servedCount_6 : decode cX3_servedCount 6 = .ok (.getfield 16, 3) := by decide +kernel
theorem dX3_servedCount_9 : decode cX3_servedCount 9 = .ok (.invokevirtual 58, 3) := by decide +kernel
theorem dX3_servedCount_12 : decode cX3_servedCount 12 = .ok (.if_icmp .ge 30, 3) := by decide +kernel
theorem dX3_servedCount_15 : decode cX3_servedCount 15 = .ok (.iload_n 1, 1) := by decide +kernel
theorem dX3_servedCount_16 : decode cX3_servedCount 16 = .ok (.aload_n 0, 1) := by decide +kernel
theorem dX3_servedCount_17 : decode cX3_servedCount 17 = .ok (.aload_n 0, 1) := by decide +kernel
theorem dX3_servedCount_18 : decode cX3_servedCount 18 = .ok (.getfield 16, 3) := by decide +kernel
theorem dX3_servedCount_21 : decode cX3_servedCount 21 = .ok (.iload_n 2, 1) := by decide +kernel
theorem dX3_servedCount_22 : decode cX3_servedCount 22 = .ok (.invokevirtual 74, 3) := by decide +kernel
theorem dX3_servedCount_25 : decode cX3_servedCount 25 = .ok (.checkcast 62, 3) := by decide +kernel
theorem dX3_servedCount_28 : decode cX3_servedCount 28 = .ok (.invokevirtual 132, 3) := by decide +kernel
theorem dX3_servedCount_31 : decode cX3_servedCount 31 = .ok (.invokestatic 104, 3) := by decide +kernel
theorem dX3_servedCount_34 : decode cX3_servedCount 34 = .ok (.iadd, 1) := by decide +kernel
theorem dX3_servedCount_35 : decode cX3_servedCount 35 = .ok (.istore_n 1, 1) := by decide +kernel
theorem dX3_servedCount_36 : decode cX3_servedCount 36 = .ok (.iinc 2 1, 3) := by decide +kernel
theorem dX3_servedCount_39 : decode cX3_servedCount 39 = .ok (.goto (-35), 3) := by decide +kernel
theorem dX3_servedCount_42 : decode cX3_servedCount 42 = .ok (.iload_n 1, 1) := by decide +kernel
theorem dX3_servedCount_43 : decode cX3_servedCount 43 = .ok (.ireturn, 1) := by decide +kernel
theorem dX3_rankOfAll_0 : decode cX3_rankOfAll 0 = .ok (.iconst 0, 1) := by decide +kernel
theorem dX3_rankOfAll_1 : decode cX3_rankOfAll 1 = .ok (.istore_n 1, 1) := by decide +kernel
theorem dX3_rankOfAll_2 : decode cX3_rankOfAll 2 = .ok (.iconst 0, 1) := by decide +kernel
theorem dX3_rankOfAll_3 : decode cX3_rankOfAll 3 = .ok (.istore_n 2, 1) := by decide +kernel
theorem dX3_rankOfAll_4 : decode cX3_rankOfAll 4 = .ok (.iload_n 2, 1) := by decide +kernel
theorem dX3_rankOfAll_5 : decode cX3_rankOfAll 5 = .ok (.aload_n 0, 1) := by decide +kernel
theorem dX3_rankOfAll_6 : decode cX3_rankOfAll 6 = .ok (.getfield 16, 3) := by decide +kernel
theorem dX3_rankOfAll_9 : decode cX3_rankOfAll 9 = .ok (.invokevirtual 58, 3) := by decide +kernel
theorem dX3_rankOfAll_12 : decode cX3_rankOfAll 12 = .ok (.if_icmp .ge 29, 3) := by decide +kernel
theorem dX3_rankOfAll_15 : decode cX3_rankOfAll 15 = .ok (.iload_n 1, 1) := by decide +kernel
theorem dX3_rankOfAll_16 : decode cX3_rankOfAll 16 = .ok (.aload_n 0, 1) := by decide +kernel
theorem dX3_rankOfAll_17 : decode cX3_rankOfAll 17 = .ok (.getfield 16, 3) := by decide +kernel
theorem dX3_rankOfAll_20 : decode cX3_rankOfAll 20 = .ok (.iload_n 2, 1) := by decide +kernel
theorem dX3_rankOfAll_21 : decode cX3_rankOfAll 21 = .ok (.invokevirtual 74, 3) := by decide +kernel
theorem dX3_rankOfAll_24 : decode cX3_rankOfAll 24 = .ok (.checkcast 62, 3) := by decide +kernel
theorem dX3_rankOfAll_27 : decode cX3_rankOfAll 27 = .ok (.getfield 126, 3) := by decide +kernel
theorem dX3_rankOfAll_30 : decode cX3_rankOfAll 30 = .ok (.getfield 129, 3) := by decide +kernel
theorem dX3_rankOfAll_33 : decode cX3_rankOfAll 33 = .ok (.iadd, 1) := by decide +kernel
theorem dX3_rankOfAll_34 : decode cX3_rankOfAll 34 = .ok (.istore_n 1, 1) := by decide +kernel
theorem dX3_rankOfAll_35 : decode cX3_rankOfAll 35 = .ok (.iinc 2 1, 3) := by decide +kernel
theorem dX3_rankOfAll_38 : decode cX3_rankOfAll 38 = .ok (.goto (-34), 3) := by decide +kernel
theorem dX3_rankOfAll_41 : decode cX3_rankOfAll 41 = .ok (.iload_n 1, 1) := by decide +kernel
theorem dX3_rankOfAll_42 : decode cX3_rankOfAll 42 = .ok (.ireturn, 1) := by decide +kernel
theorem dX3_findNeeds_0 : decode cX3_findNeeds 0 = .ok (.aload_n 0, 1) := by decide +kernel
theorem dX3_findNeeds_1 : decode cX3_findNeeds 1 = .ok (.getfield 33, 3) := by decide +kernel
theorem dX3_findNeeds_4 : decode cX3_findNeeds 4 = .ok (.iconst 0, 1) := by decide +kernel
theorem dX3_findNeeds_5 : decode cX3_findNeeds 5 = .ok (.putfield 159, 3) := by decide +kernel
theorem dX3_findNeeds_8 : decode cX3_findNeeds 8 = .ok (.iconst 0, 1) := by decide +kernel
theorem dX3_findNeeds_9 : decode cX3_findNeeds 9 = .ok (.istore_n 1, 1) := by decide +kernel
theorem dX3_findNeeds_10 : decode cX3_findNeeds 10 = .ok (.iload_n 1, 1) := by decide +kernel
theorem dX3_findNeeds_11 : decode cX3_findNeeds 11 = .ok (.aload_n 0, 1) := by decide +kernel
theorem dX3_findNeeds_12 : decode cX3_findNeeds 12 = .ok (.getfield 16, 3) := by decide +kernel
theorem dX3_findNeeds_15 : decode cX3_findNeeds 15 = .ok (.invokevirtual 58, 3) := by decide +kernel
theorem dX3_findNeeds_18 : decode cX3_findNeeds 18 = .ok (.if_icmp .ge 79, 3) := by decide +kernel
theorem dX3_findNeeds_21 : decode cX3_findNeeds 21 = .ok (.aload_n 0, 1) := by decide +kernel
theorem dX3_findNeeds_22 : decode cX3_findNeeds 22 = .ok (.getfield 16, 3) := by decide +kernel
theorem dX3_findNeeds_25 : decode cX3_findNeeds 25 = .ok (.iload_n 1, 1) := by decide +kernel
theorem dX3_findNeeds_26 : decode cX3_findNeeds 26 = .ok (.invokevirtual 74, 3) := by decide +kernel
theorem dX3_findNeeds_29 : decode cX3_findNeeds 29 = .ok (.checkcast 62, 3) := by decide +kernel
theorem dX3_findNeeds_32 : decode cX3_findNeeds 32 = .ok (.astore_n 2, 1) := by decide +kernel
theorem dX3_findNeeds_33 : decode cX3_findNeeds 33 = .ok (.aload_n 0, 1) := by decide +kernel
theorem dX3_findNeeds_34 : decode cX3_findNeeds 34 = .ok (.invokevirtual 147, 3) := by decide +kernel
theorem dX3_findNeeds_37 : decode cX3_findNeeds 37 = .ok (.aload_n 2, 1) := by decide +kernel
theorem dX3_findNeeds_38 : decode cX3_findNeeds 38 = .ok (.getfield 126, 3) := by decide +kernel
theorem dX3_findNeeds_41 : decode cX3_findNeeds 41 = .ok (.invokevirtual 208, 3) := by decide +kernel
theorem dX3_findNeeds_44 : decode cX3_findNeeds 44 = .ok (.iconst (-1), 1) := by decide +kernel
theorem dX3_findNeeds_45 : decode cX3_findNeeds 45 = .ok (.ixor, 1) := by decide +kernel
theorem dX3_findNeeds_46 : decode cX3_findNeeds 46 = .ok (.iand, 1) := by decide +kernel
theorem dX3_findNeeds_47 : decode cX3_findNeeds 47 = .ok (.istore_n 3, 1) := by decide +kernel
theorem dX3_findNeeds_48 : decode cX3_findNeeds 48 = .ok (.iconst 0, 1) := by decide +kernel
theorem dX3_findNeeds_49 : decode cX3_findNeeds 49 = .ok (.istore 4, 2) := by decide +kernel
theorem dX3_findNeeds_51 : decode cX3_findNeeds 51 = .ok (.iload 4, 2) := by decide +kernel
theorem dX3_findNeeds_53 : decode cX3_findNeeds 53 = .ok (.aload_n 0, 1) := by decide +kernel
theorem dX3_findNeeds_54 : decode cX3_findNeeds 54 = .ok (.getfield 51, 3) := by decide +kernel
theorem dX3_findNeeds_57 : decode cX3_findNeeds 57 = .ok (.if_icmp .ge 34, 3) := by decide +kernel
theorem dX3_findNeeds_60 : decode cX3_findNeeds 60 = .ok (.iload 4, 2) := by decide +kernel
theorem dX3_findNeeds_62 : decode cX3_findNeeds 62 = .ok (.aload_n 2, 1) := by decide +kernel
theorem dX3_findNeeds_63 : decode cX3_findNeeds 63 = .ok (.getfield 81, 3) := by decide +kernel
theorem dX3_findNeeds_66 : decode cX3_findNeeds 66 = .ok (.iload_n 3, 1) := by decide +kernel
theorem dX3_findNeeds_67 : decode cX3_findNeeds 67 = .ok (.iand, 1) := by decide +kernel
theorem dX3_findNeeds_68 : decode cX3_findNeeds 68 = .ok (.invokestatic 84, 3) := by decide +kernel
theorem dX3_findNeeds_71 : decode cX3_findNeeds 71 = .ok (.ifCond .eq 14, 3) := by decide +kernel
theorem dX3_findNeeds_74 : decode cX3_findNeeds 74 = .ok (.aload_n 0, 1) := by decide +kernel
theorem dX3_findNeeds_75 : decode cX3_findNeeds 75 = .ok (.getfield 33, 3) := by decide +kernel
theorem dX3_findNeeds_78 : decode cX3_findNeeds 78 = .ok (.iload_n 1, 1) := by decide +kernel
theorem dX3_findNeeds_79 : decode cX3_findNeeds 79 = .ok (.iload 4, 2) := by decide +kernel
theorem dX3_findNeeds_81 : decode cX3_findNeeds 81 = .ok (.iload_n 3, 1) := by decide +kernel
theorem dX3_findNeeds_82 : decode cX3_findNeeds 82 = .ok (.invokevirtual 211, 3) := by decide +kernel
theorem dX3_findNeeds_85 : decode cX3_findNeeds 85 = .ok (.iinc 4 1, 3) := by decide +kernel
theorem dX3_findNeeds_88 : decode cX3_findNeeds 88 = .ok (.goto (-37), 3) := by decide +kernel
theorem dX3_findNeeds_91 : decode cX3_findNeeds 91 = .ok (.iinc 1 1, 3) := by decide +kernel
theorem dX3_findNeeds_94 : decode cX3_findNeeds 94 = .ok (.goto (-84), 3) := by decide +kernel
theorem dX3_findNeeds_97 : decode cX3_findNeeds 97 = .ok (.return_, 1) := by decide +kernel
theorem dX3_findLeast_0 : decode cX3_findLeast 0 = .ok (.iconst 0, 1) := by decide +kernel
theorem dX3_findLeast_1 : decode cX3_findLeast 1 = .ok (.istore_n 1, 1) := by decide +kernel
theorem dX3_findLeast_2 : decode cX3_findLeast 2 = .ok (.iload_n 1, 1) := by decide +kernel
theorem dX3_findLeast_3 : decode cX3_findLeast 3 = .ok (.aload_n 0, 1) := by decide +kernel
theorem dX3_findLeast_4 : decode cX3_findLeast 4 = .ok (.getfield 51, 3) := by decide +kernel
theorem dX3_findLeast_7 : decode cX3_findLeast 7 = .ok (.if_icmp .ge 20, 3) := by decide +kernel
theorem dX3_findLeast_10 : decode cX3_findLeast 10 = .ok (.aload_n 0, 1) := by decide +kernel
theorem dX3_findLeast_11 : decode cX3_findLeast 11 = .ok (.iconst 0, 1) := by decide +kernel
theorem dX3_findLeast_12 : decode cX3_findLeast 12 = .ok (.iload_n 1, 1) := by decide +kernel
theorem dX3_findLeast_13 : decode cX3_findLeast 13 = .ok (.invokestatic 215, 3) := by decide +kernel
theorem dX3_findLeast_16 : decode cX3_findLeast 16 = .ok (.ifCond .eq 5, 3) := by decide +kernel
theorem dX3_findLeast_19 : decode cX3_findLeast 19 = .ok (.iload_n 1, 1) := by decide +kernel
theorem dX3_findLeast_20 : decode cX3_findLeast 20 = .ok (.ireturn, 1) := by decide +kernel
theorem dX3_findLeast_21 : decode cX3_findLeast 21 = .ok (.iinc 1 1, 3) := by decide +kernel
theorem dX3_findLeast_24 : decode cX3_findLeast 24 = .ok (.goto (-22), 3) := by decide +kernel
theorem dX3_findLeast_27 : decode cX3_findLeast 27 = .ok (.aload_n 0, 1) := by decide +kernel
theorem dX3_findLeast_28 : decode cX3_findLeast 28 = .ok (.iconst 0, 1) := by decide +kernel
theorem dX3_findLeast_29 : decode cX3_findLeast 29 = .ok (.aload_n 0, 1) := by decide +kernel
theorem dX3_findLeast_30 : decode cX3_findLeast 30 = .ok (.getfield 51, 3) := by decide +kernel
theorem dX3_findLeast_33 : decode cX3_findLeast 33 = .ok (.invokestatic 215, 3) := by decide +kernel
theorem dX3_findLeast_36 : decode cX3_findLeast 36 = .ok (.pop, 1) := by decide +kernel
theorem dX3_findLeast_37 : decode cX3_findLeast 37 = .ok (.aload_n 0, 1) := by decide +kernel
theorem dX3_findLeast_38 : decode cX3_findLeast 38 = .ok (.getfield 51, 3) := by decide +kernel
theorem dX3_findLeast_41 : decode cX3_findLeast 41 = .ok (.ireturn, 1) := by decide +kernel
theorem dX3_completes_0 : decode cX3_completes 0 = .ok (.iload_n 1, 1) := by decide +kernel
theorem dX3_completes_1 : decode cX3_completes 1 = .ok (.iload_n 2, 1) := by decide +kernel
theorem dX3_completes_2 : decode cX3_completes 2 = .ok (.if_icmp .ge 12, 3) := by decide +kernel
theorem dX3_completes_5 : decode cX3_completes 5 = .ok (.iload_n 1, 1) := by decide +kernel
theorem dX3_completes_6 : decode cX3_completes 6 = .ok (.aload_n 0, 1) := by decide +kernel
theorem dX3_completes_7 : decode cX3_completes 7 = .ok (.getfield 44, 3) := by decide +kernel
theorem dX3_completes_10 : decode cX3_completes 10 = .ok (.arraylength, 1) := by decide +kernel
theorem dX3_completes_11 : decode cX3_completes 11 = .ok (.if_icmp .lt 9, 3) := by decide +kernel
theorem dX3_completes_14 : decode cX3_completes 14 = .ok (.aload_n 0, 1) := by decide +kernel
theorem dX3_completes_15 : decode cX3_completes 15 = .ok (.iload_n 2, 1) := by decide +kernel
theorem dX3_completes_16 : decode cX3_completes 16 = .ok (.invokevirtual 186, 3) := by decide +kernel
theorem dX3_completes_19 : decode cX3_completes 19 = .ok (.ireturn, 1) := by decide +kernel
theorem dX3_completes_20 : decode cX3_completes 20 = .ok (.iload_n 1, 1) := by decide +kernel
theorem dX3_completes_21 : decode cX3_completes 21 = .ok (.ifCond .ne 7, 3) := by decide +kernel
theorem dX3_completes_24 : decode cX3_completes 24 = .ok (.iconst 0, 1) := by decide +kernel
theorem dX3_completes_25 : decode cX3_completes 25 = .ok (.goto 11, 3) := by decide +kernel
theorem dX3_completes_28 : decode cX3_completes 28 = .ok (.aload_n 0, 1) := by decide +kernel
theorem dX3_completes_29 : decode cX3_completes 29 = .ok (.getfield 44, 3) := by decide +kernel
theorem dX3_completes_32 : decode cX3_completes 32 = .ok (.iload_n 1, 1) := by decide +kernel
theorem dX3_completes_33 : decode cX3_completes 33 = .ok (.iconst 1, 1) := by decide +kernel
theorem dX3_completes_34 : decode cX3_completes 34 = .ok (.isub, 1) := by decide +kernel
theorem dX3_completes_35 : decode cX3_completes 35 = .ok (.iaload, 1) := by decide +kernel
theorem dX3_completes_36 : decode cX3_completes 36 = .ok (.istore_n 3, 1) := by decide +kernel
theorem dX3_completes_37 : decode cX3_completes 37 = .ok (.aload_n 0, 1) := by decide +kernel
theorem dX3_completes_38 : decode cX3_completes 38 = .ok (.iload_n 1, 1) := by decide +kernel
theorem dX3_completes_39 : decode cX3_completes 39 = .ok (.invokevirtual 219, 3) := by decide +kernel
theorem dX3_completes_42 : decode cX3_completes 42 = .ok (.istore 4, 2) := by decide +kernel
theorem dX3_completes_44 : decode cX3_completes 44 = .ok (.iload_n 3, 1) := by decide +kernel
theorem dX3_completes_45 : decode cX3_completes 45 = .ok (.iconst 1, 1) := by decide +kernel
theorem dX3_completes_46 : decode cX3_completes 46 = .ok (.iadd, 1) := by decide +kernel
theorem dX3_completes_47 : decode cX3_completes 47 = .ok (.istore 5, 2) := by decide +kernel
theorem dX3_completes_49 : decode cX3_completes 49 = .ok (.iload 5, 2) := by decide +kernel
theorem dX3_completes_51 : decode cX3_completes 51 = .ok (.aload_n 0, 1) := by decide +kernel
theorem dX3_completes_52 : decode cX3_completes 52 = .ok (.invokevirtual 147, 3) := by decide +kernel
theorem dX3_completes_55 : decode cX3_completes 55 = .ok (.if_icmp .gt 38, 3) := by decide +kernel
theorem dX3_completes_58 : decode cX3_completes 58 = .ok (.iload 5, 2) := by decide +kernel
theorem dX3_completes_60 : decode cX3_completes 60 = .ok (.iload 4, 2) := by decide +kernel
theorem dX3_completes_62 : decode cX3_completes 62 = .ok (.iand, 1) := by decide +kernel
theorem dX3_completes_63 : decode cX3_completes 63 = .ok (.ifCond .ne 24, 3) := by decide +kernel
theorem dX3_completes_66 : decode cX3_completes 66 = .ok (.aload_n 0, 1) := by decide +kernel
theorem dX3_completes_67 : decode cX3_completes 67 = .ok (.getfield 44, 3) := by decide +kernel
theorem dX3_completes_70 : decode cX3_completes 70 = .ok (.iload_n 1, 1) := by decide +kernel
theorem dX3_completes_71 : decode cX3_completes 71 = .ok (.iload 5, 2) := by decide +kernel
theorem dX3_completes_73 : decode cX3_completes 73 = .ok (.iastore, 1) := by decide +kernel
theorem dX3_completes_74 : decode cX3_completes 74 = .ok (.aload_n 0, 1) := by decide +kernel
theorem dX3_completes_75 : decode cX3_completes 75 = .ok (.iload_n 1, 1) := by decide +kernel
theorem dX3_completes_76 : decode cX3_completes 76 = .ok (.iconst 1, 1) := by decide +kernel
theorem dX3_completes_77 : decode cX3_completes 77 = .ok (.iadd, 1) := by decide +kernel
theorem dX3_completes_78 : decode cX3_completes 78 = .ok (.iload_n 2, 1) := by decide +kernel
theorem dX3_completes_79 : decode cX3_completes 79 = .ok (.invokestatic 215, 3) := by decide +kernel
theorem dX3_completes_82 : decode cX3_completes 82 = .ok (.ifCond .eq 5, 3) := by decide +kernel
theorem dX3_completes_85 : decode cX3_completes 85 = .ok (.iconst 1, 1) := by decide +kernel
theorem dX3_completes_86 : decode cX3_completes 86 = .ok (.ireturn, 1) := by decide +kernel
theorem dX3_completes_87 : decode cX3_completes 87 = .ok (.iinc 5 1, 3) := by decide +kernel
theorem dX3_completes_90 : decode cX3_completes 90 = .ok (.goto (-41), 3) := by decide +kernel
theorem dX3_completes_93 : decode cX3_completes 93 = .ok (.iconst 0, 1) := by decide +kernel
theorem dX3_completes_94 : decode cX3_completes 94 = .ok (.ireturn, 1) := by decide +kernel
theorem dX3_highestBits_0 : decode cX3_highestBits 0 = .ok (.iconst 0, 1) := by decide +kernel
theorem dX3_highestBits_1 : decode cX3_highestBits 1 = .ok (.istore_n 2, 1) := by decide +kernel
theorem dX3_highestBits_2 : decode cX3_highestBits 2 = .ok (.iconst 0, 1) := by decide +kernel
theorem dX3_highestBits_3 : decode cX3_highestBits 3 = .ok (.istore_n 3, 1) := by decide +kernel
theorem dX3_highestBits_4 : decode cX3_highestBits 4 = .ok (.iload_n 3, 1) := by decide +kernel
theorem dX3_highestBits_5 : decode cX3_highestBits 5 = .ok (.iload_n 1, 1) := by decide +kernel
theorem dX3_highestBits_6 : decode cX3_highestBits 6 = .ok (.if_icmp .ge 30, 3) := by decide +kernel
theorem dX3_highestBits_9 : decode cX3_highestBits 9 = .ok (.iload_n 3, 1) := by decide +kernel
theorem dX3_highestBits_10 : decode cX3_highestBits 10 = .ok (.aload_n 0, 1) := by decide +kernel
theorem dX3_highestBits_11 : decode cX3_highestBits 11 = .ok (.getfield 44, 3) := by decide +kernel
theorem dX3_highestBits_14 : decode cX3_highestBits 14 = .ok (.arraylength, 1) := by decide +kernel
theorem dX3_highestBits_15 : decode cX3_highestBits 15 = .ok (.if_icmp .ge 21, 3) := by decide +kernel
theorem dX3_highestBits_18 : decode cX3_highestBits 18 = .ok (.iload_n 2, 1) := by decide +kernel
theorem dX3_highestBits_19 : decode cX3_highestBits 19 = .ok (.aload_n 0, 1) := by decide +kernel
theorem dX3_highestBits_20 : decode cX3_highestBits 20 = .ok (.getfield 44, 3) := by decide +kernel
theorem dX3_highestBits_23 : decode cX3_highestBits 23 = .ok (.iload_n 3, 1) := by decide +kernel
theorem dX3_highestBits_24 : decode cX3_highestBits 24 = .ok (.iaload, 1) := by decide +kernel
theorem dX3_highestBits_25 : decode cX3_highestBits 25 = .ok (.invokestatic 222, 3) := by decide +kernel
theorem dX3_highestBits_28 : decode cX3_highestBits 28 = .ok (.ior, 1) := by decide +kernel
theorem dX3_highestBits_29 : decode cX3_highestBits 29 = .ok (.istore_n 2, 1) := by decide +kernel
theorem dX3_highestBits_30 : decode cX3_highestBits 30 = .ok (.iinc 3 1, 3) := by decide +kernel
theorem dX3_highestBits_33 : decode cX3_highestBits 33 = .ok (.goto (-29), 3) := by decide +kernel
theorem dX3_highestBits_36 : decode cX3_highestBits 36 = .ok (.iload_n 2, 1) := by decide +kernel
theorem dX3_highestBits_37 : decode cX3_highestBits 37 = .ok (.ireturn, 1) := by decide +kernel
theorem dX3_isPlan_0 : decode cX3_isPlan 0 = .ok (.iconst 0, 1) := by decide +kernel
theorem dX3_isPlan_1 : decode cX3_isPlan 1 = .ok (.istore_n 2, 1) := by decide +kernel
theorem dX3_isPlan_2 : decode cX3_isPlan 2 = .ok (.iload_n 2, 1) := by decide +kernel
theorem dX3_isPlan_3 : decode cX3_isPlan 3 = .ok (.aload_n 0, 1) := by decide +kernel
theorem dX3_isPlan_4 : decode cX3_isPlan 4 = .ok (.getfield 16, 3) := by decide +kernel
theorem dX3_isPlan_7 : decode cX3_isPlan 7 = .ok (.invokevirtual 58, 3) := by decide +kernel
theorem dX3_isPlan_10 : decode cX3_isPlan 10 = .ok (.if_icmp .ge 90, 3) := by decide +kernel
theorem dX3_isPlan_13 : decode cX3_isPlan 13 = .ok (.aload_n 0, 1) := by decide +kernel
theorem dX3_isPlan_14 : decode cX3_isPlan 14 = .ok (.getfield 16, 3) := by decide +kernel
theorem dX3_isPlan_17 : decode cX3_isPlan 17 = .ok (.iload_n 2, 1) := by decide +kernel
theorem dX3_isPlan_18 : decode cX3_isPlan 18 = .ok (.invokevirtual 74, 3) := by decide +kernel
theorem dX3_isPlan_21 : decode cX3_isPlan 21 = .ok (.checkcast 62, 3) := by decide +kernel
theorem dX3_isPlan_24 : decode cX3_isPlan 24 = .ok (.astore_n 3, 1) := by decide +kernel
theorem dX3_isPlan_25 : decode cX3_isPlan 25 = .ok (.aload_n 0, 1) := by decide +kernel
theorem dX3_isPlan_26 : decode cX3_isPlan 26 = .ok (.getfield 40, 3) := by decide +kernel
theorem dX3_isPlan_29 : decode cX3_isPlan 29 = .ok (.aload_n 3, 1) := by decide +kernel
theorem dX3_isPlan_30 : decode cX3_isPlan 30 = .ok (.getfield 126, 3) := by decide +kernel
theorem dX3_isPlan_33 : decode cX3_isPlan 33 = .ok (.invokevirtual 227, 3) := by decide +kernel
theorem dX3_isPlan_36 : decode cX3_isPlan 36 = .ok (.iconst 0, 1) := by decide +kernel
theorem dX3_isPlan_37 : decode cX3_isPlan 37 = .ok (.istore 4, 2) := by decide +kernel
theorem dX3_isPlan_39 : decode cX3_isPlan 39 = .ok (.iload 4, 2) := by decide +kernel
theorem dX3_isPlan_41 : decode cX3_isPlan 41 = .ok (.iload_n 1, 1) := by decide +kernel
theorem dX3_isPlan_42 : decode cX3_isPlan 42 = .ok (.if_icmp .ge 35, 3) := by decide +kernel
theorem dX3_isPlan_45 : decode cX3_isPlan 45 = .ok (.iload 4, 2) := by decide +kernel
theorem dX3_isPlan_47 : decode cX3_isPlan 47 = .ok (.aload_n 0, 1) := by decide +kernel
theorem dX3_isPlan_48 : decode cX3_isPlan 48 = .ok (.getfield 44, 3) := by decide +kernel
theorem dX3_isPlan_51 : decode cX3_isPlan 51 = .ok (.arraylength, 1) := by decide +kernel
theorem dX3_isPlan_52 : decode cX3_isPlan 52 = .ok (.if_icmp .ge 25, 3) := by decide +kernel
theorem dX3_isPlan_55 : decode cX3_isPlan 55 = .ok (.aload_n 0, 1) := by decide +kernel
theorem dX3_isPlan_56 : decode cX3_isPlan 56 = .ok (.getfield 40, 3) := by decide +kernel
theorem dX3_isPlan_59 : decode cX3_isPlan 59 = .ok (.aload_n 0, 1) := by decide +kernel
theorem dX3_isPlan_60 : decode cX3_isPlan 60 = .ok (.getfield 44, 3) := by decide +kernel
theorem dX3_isPlan_63 : decode cX3_isPlan 63 = .ok (.iload 4, 2) := by decide +kernel
theorem dX3_isPlan_65 : decode cX3_isPlan 65 = .ok (.iaload, 1) := by decide +kernel
theorem dX3_isPlan_66 : decode cX3_isPlan 66 = .ok (.lconst 0, 1) := by decide +kernel
theorem dX3_isPlan_67 : decode cX3_isPlan 67 = .ok (.invokevirtual 231, 3) := by decide +kernel
theorem dX3_isPlan_70 : decode cX3_isPlan 70 = .ok (.pop, 1) := by decide +kernel
theorem dX3_isPlan_71 : decode cX3_isPlan 71 = .ok (.iinc 4 1, 3) := by decide +kernel
theorem dX3_isPlan_74 : decode cX3_isPlan 74 = .ok (.goto (-35), 3) := by decide +kernel
theorem dX3_isPlan_77 : decode cX3_isPlan 77 = .ok (.aload_n 3, 1) := by decide +kernel
theorem dX3_isPlan_78 : decode cX3_isPlan 78 = .ok (.aload_n 0, 1) := by decide +kernel
theorem dX3_isPlan_79 : decode cX3_isPlan 79 = .ok (.getfield 40, 3) := by decide +kernel
theorem dX3_isPlan_82 : decode cX3_isPlan 82 = .ok (.aload_n 0, 1) := by decide +kernel
theorem dX3_isPlan_83 : decode cX3_isPlan 83 = .ok (.invokevirtual 147, 3) := by decide +kernel
theorem dX3_isPlan_86 : decode cX3_isPlan 86 = .ok (.invokevirtual 204, 3) := by decide +kernel
theorem dX3_isPlan_89 : decode cX3_isPlan 89 = .ok (.ifCond .ne 5, 3) := by decide +kernel
theorem dX3_isPlan_92 : decode cX3_isPlan 92 = .ok (.iconst 0, 1) := by decide +kernel
theorem dX3_isPlan_93 : decode cX3_isPlan 93 = .ok (.ireturn, 1) := by decide +kernel
theorem dX3_isPlan_94 : decode cX3_isPlan 94 = .ok (.iinc 2 1, 3) := by decide +kernel
theorem dX3_isPlan_97 : decode cX3_isPlan 97 = .ok (.goto (-95), 3) := by decide +kernel
theorem dX3_isPlan_100 : decode cX3_isPlan 100 = .ok (.iconst 1, 1) := by decide +kernel
theorem dX3_isPlan_101 : decode cX3_isPlan 101 = .ok (.ireturn, 1) := by decide +kernel
theorem dX3_bestMask_0 : decode cX3_bestMask 0 = .ok (.aload_n 0, 1) := by decide +kernel
theorem dX3_bestMask_1 : decode cX3_bestMask 1 = .ok (.invokevirtual 235, 3) := by decide +kernel
theorem dX3_bestMask_4 : decode cX3_bestMask 4 = .ok (.istore_n 1, 1) := by decide +kernel
theorem dX3_bestMask_5 : decode cX3_bestMask 5 = .ok (.iload_n 1, 1) := by decide +kernel
theorem dX3_bestMask_6 : decode cX3_bestMask 6 = .ok (.ifCond .ne 5, 3) := by decide +kernel
theorem dX3_bestMask_9 : decode cX3_bestMask 9 = .ok (.iconst 0, 1) := by decide +kernel
theorem dX3_bestMask_10 : decode cX3_bestMask 10 = .ok (.ireturn, 1) := by decide +kernel
theorem dX3_bestMask_11 : decode cX3_bestMask 11 = .ok (.iconst 0, 1) := by decide +kernel
theorem dX3_bestMask_12 : decode cX3_bestMask 12 = .ok (.istore_n 2, 1) := by decide +kernel
theorem dX3_bestMask_13 : decode cX3_bestMask 13 = .ok (.iconst 0, 1) := by decide +kernel
theorem dX3_bestMask_14 : decode cX3_bestMask 14 = .ok (.istore_n 3, 1) := by decide +kernel
theorem dX3_bestMask_15 : decode cX3_bestMask 15 = .ok (.iconst 1, 1) := by decide +kernel
theorem dX3_bestMask_16 : decode cX3_bestMask 16 = .ok (.istore 4, 2) := by decide +kernel
theorem dX3_bestMask_18 : decode cX3_bestMask 18 = .ok (.iload 4, 2) := by decide +kernel
theorem dX3_bestMask_20 : decode cX3_bestMask 20 = .ok (.aload_n 0, 1) := by decide +kernel
theorem dX3_bestMask_21 : decode cX3_bestMask 21 = .ok (.invokevirtual 147, 3) := by decide +kernel
theorem dX3_bestMask_24 : decode cX3_bestMask 24 = .ok (.if_icmp .gt 30, 3) := by decide +kernel
theorem dX3_bestMask_27 : decode cX3_bestMask 27 = .ok (.aload_n 0, 1) := by decide +kernel
theorem dX3_bestMask_28 : decode cX3_bestMask 28 = .ok (.iload 4, 2) := by decide +kernel
theorem dX3_bestMask_30 : decode cX3_bestMask 30 = .ok (.iload_n 1, 1) := by decide +kernel
theorem dX3_bestMask_31 : decode cX3_bestMask 31 = .ok (.invokevirtual 238, 3) := by decide +kernel
theorem dX3_bestMask_34 : decode cX3_bestMask 34 = .ok (.istore 5, 2) := by decide +kernel
theorem dX3_bestMask_36 : decode cX3_bestMask 36 = .ok (.iload 5, 2) := by decide +kernel
theorem dX3_bestMask_38 : decode cX3_bestMask 38 = .ok (.iload_n 3, 1) := by decide +kernel
theorem dX3_bestMask_39 : decode cX3_bestMask 39 = .ok (.if_icmp .le 9, 3) := by decide +kernel
theorem dX3_bestMask_42 : decode cX3_bestMask 42 = .ok (.iload 4, 2) := by decide +kernel
theorem dX3_bestMask_44 : decode cX3_bestMask 44 = .ok (.istore_n 2, 1) := by decide +kernel
theorem dX3_bestMask_45 : decode cX3_bestMask 45 = .ok (.iload 5, 2) := by decide +kernel
theorem dX3_bestMask_47 : decode cX3_bestMask 47 = .ok (.istore_n 3, 1) := by decide +kernel
theorem dX3_bestMask_48 : decode cX3_bestMask 48 = .ok (.iinc 4 1, 3) := by decide +kernel
theorem dX3_bestMask_51 : decode cX3_bestMask 51 = .ok (.goto (-33), 3) := by decide +kernel
theorem dX3_bestMask_54 : decode cX3_bestMask 54 = .ok (.iload_n 2, 1) := by decide +kernel
theorem dX3_bestMask_55 : decode cX3_bestMask 55 = .ok (.ireturn, 1) := by decide +kernel
theorem dX3_waitingListeners_0 : decode cX3_waitingListeners 0 = .ok (.iconst 0, 1) := by decide +kernel
theorem dX3_waitingListeners_1 : decode cX3_waitingListeners 1 = .ok (.istore_n 1, 1) := by decide +kernel
theorem dX3_waitingListeners_2 : decode cX3_waitingListeners 2 = .ok (.iconst 0, 1) := by decide +kernel
theorem dX3_waitingListeners_3 : decode cX3_waitingListeners 3 = .ok (.istore_n 2, 1) := by decide +kernel
theorem dX3_waitingListeners_4 : decode cX3_waitingListeners 4 = .ok (.iload_n 2, 1) := by decide +kernel
theorem dX3_waitingListeners_5 : decode cX3_waitingListeners 5 = .ok (.aload_n 0, 1) := by decide +kernel
theorem dX3_waitingListeners_6 : decode cX3_waitingListeners 6 = .ok (.getfield 16, 3) := by decide +kernel
theorem dX3_waitingListeners_9 : decode cX3_waitingListeners 9 = .ok (.invokevirtual 58, 3) := by decide +kernel
theorem dX3_waitingListeners_12 : decode cX3_waitingListeners 12 = .ok (.if_icmp .ge 42, 3) := by decide +kernel
theorem dX3_waitingListeners_15 : decode cX3_waitingListeners 15 = .ok (.aload_n 0, 1) := by decide +kernel
theorem dX3_waitingListeners_16 : decode cX3_waitingListeners 16 = .ok (.getfield 16, 3) := by decide +kernel
theorem dX3_waitingListeners_19 : decode cX3_waitingListeners 19 = .ok (.iload_n 2, 1) := by decide +kernel
theorem dX3_waitingListeners_20 : decode cX3_waitingListeners 20 = .ok (.invokevirtual 74, 3) := by decide +kernel
theorem dX3_waitingListeners_23 : decode cX3_waitingListeners 23 = .ok (.checkcast 62, 3) := by decide +kernel
theorem dX3_waitingListeners_26 : decode cX3_waitingListeners 26 = .ok (.astore_n 3, 1) := by decide +kernel
theorem dX3_waitingListeners_27 : decode cX3_waitingListeners 27 = .ok (.aload_n 3, 1) := by decide +kernel
theorem dX3_waitingListeners_28 : decode cX3_waitingListeners 28 = .ok (.getfield 100, 3) := by decide +kernel
theorem dX3_waitingListeners_31 : decode cX3_waitingListeners 31 = .ok (.ifCond .ne 17, 3) := by decide +kernel
theorem dX3_waitingListeners_34 : decode cX3_waitingListeners 34 = .ok (.aload_n 0, 1) := by decide +kernel
theorem dX3_waitingListeners_35 : decode cX3_waitingListeners 35 = .ok (.aload_n 3, 1) := by decide +kernel
theorem dX3_waitingListeners_36 : decode cX3_waitingListeners 36 = .ok (.invokevirtual 132, 3) := by decide +kernel
theorem dX3_waitingListeners_39 : decode cX3_waitingListeners 39 = .ok (.ifCond .ne 9, 3) := by decide +kernel
theorem dX3_waitingListeners_42 : decode cX3_waitingListeners 42 = .ok (.iload_n 1, 1) := by decide +kernel
theorem dX3_waitingListeners_43 : decode cX3_waitingListeners 43 = .ok (.iconst 1, 1) := by decide +kernel
theorem dX3_waitingListeners_44 : decode cX3_waitingListeners 44 = .ok (.iload_n 2, 1) := by decide +kernel
theorem dX3_waitingListeners_45 : decode cX3_waitingListeners 45 = .ok (.ishl, 1) := by decide +kernel
theorem dX3_waitingListeners_46 : decode cX3_waitingListeners 46 = .ok (.ior, 1) := by decide +kernel
theorem dX3_waitingListeners_47 : decode cX3_waitingListeners 47 = .ok (.istore_n 1, 1) := by decide +kernel
theorem dX3_waitingListeners_48 : decode cX3_waitingListeners 48 = .ok (.iinc 2 1, 3) := by decide +kernel
theorem dX3_waitingListeners_51 : decode cX3_waitingListeners 51 = .ok (.goto (-47), 3) := by decide +kernel
theorem dX3_waitingListeners_54 : decode cX3_waitingListeners 54 = .ok (.iload_n 1, 1) := by decide +kernel
theorem dX3_waitingListeners_55 : decode cX3_waitingListeners 55 = .ok (.ireturn, 1) := by decide +kernel
theorem dX3_worthOf_0 : decode cX3_worthOf 0 = .ok (.iconst 0, 1) := by decide +kernel
theorem dX3_worthOf_1 : decode cX3_worthOf 1 = .ok (.istore_n 3, 1) := by decide +kernel
theorem dX3_worthOf_2 : decode cX3_worthOf 2 = .ok (.iconst 0, 1) := by decide +kernel
theorem dX3_worthOf_3 : decode cX3_worthOf 3 = .ok (.istore 4, 2) := by decide +kernel
theorem dX3_worthOf_5 : decode cX3_worthOf 5 = .ok (.iconst 0, 1) := by decide +kernel
theorem dX3_worthOf_6 : decode cX3_worthOf 6 = .ok (.istore 5, 2) := by decide +kernel
theorem dX3_worthOf_8 : decode cX3_worthOf 8 = .ok (.iload 5, 2) := by decide +kernel
theorem dX3_worthOf_10 : decode cX3_worthOf 10 = .ok (.aload_n 0, 1) := by decide +kernel
theorem dX3_worthOf_11 : decode cX3_worthOf 11 = .ok (.getfield 16, 3) := by decide +kernel
theorem dX3_worthOf_14 : decode cX3_worthOf 14 = .ok (.invokevirtual 58, 3) := by decide +kernel
theorem dX3_worthOf_17 : decode cX3_worthOf 17 = .ok (.if_icmp .ge 68, 3) := by decide +kernel
theorem dX3_worthOf_20 : decode cX3_worthOf 20 = .ok (.iload 5, 2) := by decide +kernel
theorem dX3_worthOf_22 : decode cX3_worthOf 22 = .ok (.iload_n 2, 1) := by decide +kernel
theorem dX3_worthOf_23 : decode cX3_worthOf 23 = .ok (.invokestatic 84, 3) := by decide +kernel
theorem dX3_worthOf_26 : decode cX3_worthOf 26 = .ok (.ifCond .eq 53, 3) := by decide +kernel
theorem dX3_worthOf_29 : decode cX3_worthOf 29 = .ok (.aload_n 0, 1) := by decide +kernel
theorem dX3_worthOf_30 : decode cX3_worthOf 30 = .ok (.getfield 16, 3) := by decide +kernel
theorem dX3_worthOf_33 : decode cX3_worthOf 33 = .ok (.iload 5, 2) := by decide +kernel
theorem dX3_worthOf_35 : decode cX3_worthOf 35 = .ok (.invokevirtual 74, 3) := by decide +kernel
theorem dX3_worthOf_38 : decode cX3_worthOf 38 = .ok (.checkcast 62, 3) := by decide +kernel
theorem dX3_worthOf_41 : decode cX3_worthOf 41 = .ok (.astore 6, 2) := by decide +kernel
theorem dX3_worthOf_43 : decode cX3_worthOf 43 = .ok (.aload 6, 2) := by decide +kernel
theorem dX3_worthOf_45 : decode cX3_worthOf 45 = .ok (.getfield 126, 3) := by decide +kernel
theorem dX3_worthOf_48 : decode cX3_worthOf 48 = .ok (.iload_n 1, 1) := by decide +kernel
theorem dX3_worthOf_49 : decode cX3_worthOf 49 = .ok (.invokevirtual 242, 3) := by decide +kernel
theorem dX3_worthOf_52 : decode cX3_worthOf 52 = .ok (.istore 7, 2) := by decide +kernel
theorem dX3_worthOf_54 : decode cX3_worthOf 54 = .ok (.iload 7, 2) := by decide +kernel
theorem dX3_worthOf_56 : decode cX3_worthOf 56 = .ok (.ifCond .eq 23, 3) := by decide +kernel
theorem dX3_worthOf_59 : decode cX3_worthOf 59 = .ok (.iinc 4 1, 3) := by decide +kernel
theorem dX3_worthOf_62 : decode cX3_worthOf 62 = .ok (.iload_n 3, 1) := by decide +kernel
theorem dX3_worthOf_63 : decode cX3_worthOf 63 = .ok (.aload 6, 2) := by decide +kernel
theorem dX3_worthOf_65 : decode cX3_worthOf 65 = .ok (.iload 7, 2) := by decide +kernel
theorem dX3_worthOf_67 : decode cX3_worthOf 67 = .ok (.aload_n 0, 1) := by decide +kernel
theorem dX3_worthOf_68 : decode cX3_worthOf 68 = .ok (.invokevirtual 147, 3) := by decide +kernel
theorem dX3_worthOf_71 : decode cX3_worthOf 71 = .ok (.invokevirtual 245, 3) := by decide +kernel
theorem dX3_worthOf_74 : decode cX3_worthOf 74 = .ok (.invokestatic 104, 3) := by decide +kernel
theorem dX3_worthOf_77 : decode cX3_worthOf 77 = .ok (.iadd, 1) := by decide +kernel
theorem dX3_worthOf_78 : decode cX3_worthOf 78 = .ok (.istore_n 3, 1) := by decide +kernel
theorem dX3_worthOf_79 : decode cX3_worthOf 79 = .ok (.iinc 5 1, 3) := by decide +kernel
theorem dX3_worthOf_82 : decode cX3_worthOf 82 = .ok (.goto (-74), 3) := by decide +kernel
theorem dX3_worthOf_85 : decode cX3_worthOf 85 = .ok (.iload_n 3, 1) := by decide +kernel
theorem dX3_worthOf_86 : decode cX3_worthOf 86 = .ok (.bipush 11, 2) := by decide +kernel
theorem dX3_worthOf_88 : decode cX3_worthOf 88 = .ok (.imul, 1) := by decide +kernel
theorem dX3_worthOf_89 : decode cX3_worthOf 89 = .ok (.iload 4, 2) := by decide +kernel
theorem dX3_worthOf_91 : decode cX3_worthOf 91 = .ok (.iadd, 1) := by decide +kernel
theorem dX3_worthOf_92 : decode cX3_worthOf 92 = .ok (.ireturn, 1) := by decide +kernel
end
section
theorem dX4_init_0 : decode cX4_init 0 = .ok (.aload_n 0, 1) := by decide +kernel
theorem dX4_init_1 : decode cX4_init 1 = .ok (.invokespecial 1, 3) := by decide +kernel
theorem dX4_init_4 : decode cX4_init 4 = .ok (.aload_n 0, 1) := by decide +kernel
theorem dX4_init_5 : decode cX4_init 5 = .ok (.iconst 0, 1) := by decide +kernel
theorem dX4_init_6 : decode cX4_init 6 = .ok (.putfield 7, 3) := by decide +kernel
theorem dX4_init_9 : decode cX4_init 9 = .ok (.aload_n 0, 1) := by decide +kernel
theorem dX4_init_10 : decode cX4_init 10 = .ok (.iconst 0, 1) := by decide +kernel
theorem dX4_init_11 : decode cX4_init 11 = .ok (.putfield 13, 3) := by decide +kernel
theorem dX4_init_14 : decode cX4_init 14 = .ok (.aload_n 0, 1) := by decide +kernel
theorem dX4_init_15 : decode cX4_init 15 = .ok (.iconst 0, 1) := by decide +kernel
theorem dX4_init_16 : decode cX4_init 16 = .ok (.putfield 16, 3) := by decide +kernel
theorem dX4_init_19 : decode cX4_init 19 = .ok (.aload_n 0, 1) := by decide +kernel
theorem dX4_init_20 : decode cX4_init 20 = .ok (.bipush 10, 2) := by decide +kernel
theorem dX4_init_22 : decode cX4_init 22 = .ok (.newarray .long, 2) := by decide +kernel
theorem dX4_init_24 : decode cX4_init 24 = .ok (.putfield 19, 3) := by decide +kernel
theorem dX4_init_27 : decode cX4_init 27 = .ok (.aload_n 0, 1) := by decide +kernel
theorem dX4_init_28 : decode cX4_init 28 = .ok (.bipush 10, 2) := by decide +kernel
theorem dX4_init_30 : decode cX4_init 30 = .ok (.newarray .int, 2) := by decide +kernel
theorem dX4_init_32 : decode cX4_init 32 = .ok (.putfield 23, 3) := by decide +kernel
theorem dX4_init_35 : decode cX4_init 35 = .ok (.aload_n 0, 1) := by decide +kernel
theorem dX4_init_36 : decode cX4_init 36 = .ok (.bipush 10, 2) := by decide +kernel
theorem dX4_init_38 : decode cX4_init 38 = .ok (.newarray .int, 2) := by decide +kernel
theorem dX4_init_40 : decode cX4_init 40 = .ok (.putfield 27, 3) := by decide +kernel
theorem dX4_init_43 : decode cX4_init 43 = .ok (.aload_n 0, 1) := by decide +kernel
theorem dX4_init_44 : decode cX4_init 44 = .ok (.bipush 10, 2) := by decide +kernel
theorem dX4_init_46 : decode cX4_init 46 = .ok (.newarray .int, 2) := by decide +kernel
theorem dX4_init_48 : decode cX4_init 48 = .ok (.putfield 30, 3) := by decide +kernel
theorem dX4_init_51 : decode cX4_init 51 = .ok (.aload_n 0, 1) := by decide +kernel
theorem dX4_init_52 : decode cX4_init 52 = .ok (.bipush 120, 2) := by decide +kernel
theorem dX4_init_54 : decode cX4_init 54 = .ok (.newarray .int, 2) := by decide +kernel
theorem dX4_init_56 : decode cX4_init 56 = .ok (.putfield 33, 3) := by decide +kernel
theorem dX4_init_59 : decode cX4_init 59 = .ok (.aload_n 0, 1) := by decide +kernel
theorem dX4_init_60 : decode cX4_init 60 = .ok (.bipush 10, 2) := by decide +kernel
theorem dX4_init_62 : decode cX4_init 62 = .ok (.newarray .boolean, 2) := by decide +kernel
theorem dX4_init_64 : decode cX4_init 64 = .ok (.putfield 36, 3) := by decide +kernel
theorem dX4_init_67 : decode cX4_init 67 = .ok (.aload_n 0, 1) := by decide +kernel
theorem dX4_init_68 : decode cX4_init 68 = .ok (.bipush 40, 2) := by decide +kernel
theorem dX4_init_70 : decode cX4_init 70 = .ok (.newarray .int, 2) := by decide +kernel
theorem dX4_init_72 : decode cX4_init 72 = .ok (.putfield 40, 3) := by decide +kernel
theorem dX4_init_75 : decode cX4_init 75 = .ok (.aload_n 0, 1) := by decide +kernel
theorem dX4_init_76 : decode cX4_init 76 = .ok (.bipush 40, 2) := by decide +kernel
theorem dX4_init_78 : decode cX4_init 78 = .ok (.newarray .int, 2) := by decide +kernel
theorem dX4_init_80 : decode cX4_init 80 = .ok (.putfield 43, 3) := by decide +kernel
theorem dX4_init_83 : decode cX4_init 83 = .ok (.aload_n 0, 1) := by decide +kernel
theorem dX4_init_84 : decode cX4_init 84 = .ok (.bipush 56, 2) := by decide +kernel
theorem dX4_init_86 : decode cX4_init 86 = .ok (.newarray .int, 2) := by decide +kernel
theorem dX4_init_88 : decode cX4_init 88 = .ok (.putfield 46, 3) := by decide +kernel
theorem dX4_init_91 : decode cX4_init 91 = .ok (.aload_n 0, 1) := by decide +kernel
theorem dX4_init_92 : decode cX4_init 92 = .ok (.bipush 56, 2) := by decide +kernel
theorem dX4_init_94 : decode cX4_init 94 = .ok (.newarray .boolean, 2) := by decide +kernel
theorem dX4_init_96 : decode cX4_init 96 = .ok (.putfield 49, 3) := by decide +kernel
theorem dX4_init_99 : decode cX4_init 99 = .ok (.aload_n 0, 1) := by decide +kernel
theorem dX4_init_100 : decode cX4_init 100 = .ok (.iconst 0, 1) := by decide +kernel
theorem dX4_init_101 : decode cX4_init 101 = .ok (.putfield 52, 3) := by decide +kernel
theorem dX4_init_104 : decode cX4_init 104 = .ok (.aload_n 0, 1) := by decide +kernel
theorem dX4_init_105 : decode cX4_init 105 = .ok (.iconst 0, 1) := by decide +kernel
theorem dX4_init_106 : decode cX4_init 106 = .ok (.putfield 55, 3) := by decide +kernel
theorem dX4_init_109 : decode cX4_init 109 = .ok (.aload_n 0, 1) := by decide +kernel
theorem dX4_init_110 : decode cX4_init 110 = .ok (.sipush 10240, 3) := by decide +kernel
theorem dX4_init_113 : decode cX4_init 113 = .ok (.newarray .boolean, 2) := by decide +kernel
theorem dX4_init_115 : decode cX4_init 115 = .ok (.putfield 58, 3) := by decide +kernel
theorem dX4_init_118 : decode cX4_init 118 = .ok (.aload_n 0, 1) := by decide +kernel
theorem dX4_init_119 : decode cX4_init 119 = .ok (.sipush 1024, 3) := by decide +kernel
theorem dX4_init_122 : decode cX4_init 122 = .ok (.newarray .boolean, 2) := by decide +kernel
theorem dX4_init_124 : decode cX4_init 124 = .ok (.putfield 61, 3) := by decide +kernel
theorem dX4_init_127 : decode cX4_init 127 = .ok (.aload_n 0, 1) := by decide +kernel
theorem dX4_init_128 : decode cX4_init 128 = .ok (.bipush 10, 2) := by decide +kernel
theorem dX4_init_130 : decode cX4_init 130 = .ok (.newarray .int, 2) := by decide +kernel
theorem dX4_init_132 : decode cX4_init 132 = .ok (.putfield 64, 3) := by decide +kernel
theorem dX4_init_135 : decode cX4_init 135 = .ok (.aload_n 0, 1) := by decide +kernel
theorem dX4_init_136 : decode cX4_init 136 = .ok (.bipush 100, 2) := by decide +kernel
theorem dX4_init_138 : decode cX4_init 138 = .ok (.newarray .int, 2) := by decide +kernel
theorem dX4_init_140 : decode cX4_init 140 = .ok (.putfield 67, 3) := by decide +kernel
theorem dX4_init_143 : decode cX4_init 143 = .ok (.aload_n 0, 1) := by decide +kernel
theorem dX4_init_144 : decode cX4_init 144 = .ok (.bipush 100, 2) := by decide +kernel
theorem dX4_init_146 : decode cX4_init 146 = .ok (.newarray .int, 2) := by decide +kernel
theorem dX4_init_148 : decode cX4_init 148 = .ok (.putfield 70, 3) := by decide +kernel
theorem dX4_init_151 : decode cX4_init 151 = .ok (.aload_n 0, 1) := by decide +kernel
theorem dX4_init_152 : decode cX4_init 152 = .ok (.iconst 0, 1) := by decide +kernel
theorem dX4_init_153 : decode cX4_init 153 = .ok (.putfield 73, 3) := by decide +kernel
theorem dX4_init_156 : decode cX4_init 156 = .ok (.aload_n 0, 1) := by decide +kernel
theorem dX4_init_157 : decode cX4_init 157 = .ok (.sipush 1024, 3) := by decide +kernel
theorem dX4_init_160 : decode cX4_init 160 = .ok (.newarray .int, 2) := by decide +kernel
theorem dX4_init_162 : decode cX4_init 162 = .ok (.putfield 76, 3) := by decide +kernel
theorem dX4_init_165 : decode cX4_init 165 = .ok (.aload_n 0, 1) := by decide +kernel
theorem dX4_init_166 : decode cX4_init 166 = .ok (.sipush 1024, 3) := by decide +kernel
theorem dX4_init_169 : decode cX4_init 169 = .ok (.newarray .boolean, 2) := by decide +kernel
theorem dX4_init_171 : decode cX4_init 171 = .ok (.putfield 79, 3) := by decide +kernel
theorem dX4_init_174 : decode cX4_init 174 = .ok (.aload_n 0, 1) := by decide +kernel
theorem dX4_init_175 : decode cX4_init 175 = .ok (.bipush 60, 2) := by decide +kernel
theorem dX4_init_177 : decode cX4_init 177 = .ok (.newarray .int, 2) := by decide +kernel
theorem dX4_init_179 : decode cX4_init 179 = .ok (.putfield 82, 3) := by decide +kernel
theorem dX4_init_182 : decode cX4_init 182 = .ok (.aload_n 0, 1) := by decide +kernel
theorem dX4_init_183 : decode cX4_init 183 = .ok (.bipush 6, 2) := by decide +kernel
theorem dX4_init_185 : decode cX4_init 185 = .ok (.newarray .int, 2) := by decide +kernel
theorem dX4_init_187 : decode cX4_init 187 = .ok (.putfield 85, 3) := by decide +kernel
theorem dX4_init_190 : decode cX4_init 190 = .ok (.return_, 1) := by decide +kernel
theorem dX4_isPiece_0 : decode cX4_isPiece 0 = .ok (.iload_n 1, 1) := by decide +kernel
theorem dX4_isPiece_1 : decode cX4_isPiece 1 = .ok (.ifCond .lt 15, 3) := by decide +kernel
theorem dX4_isPiece_4 : decode cX4_isPiece 4 = .ok (.iload_n 1, 1) := by decide +kernel
theorem dX4_isPiece_5 : decode cX4_isPiece 5 = .ok (.aload_n 0, 1) := by decide +kernel
theorem dX4_isPiece_6 : decode cX4_isPiece 6 = .ok (.getfield 7, 3) := by decide +kernel
theorem dX4_isPiece_9 : decode cX4_isPiece 9 = .ok (.if_icmp .ge 7, 3) := by decide +kernel
theorem dX4_isPiece_12 : decode cX4_isPiece 12 = .ok (.iconst 1, 1) := by decide +kernel
theorem dX4_isPiece_13 : decode cX4_isPiece 13 = .ok (.goto 4, 3) := by decide +kernel
theorem dX4_isPiece_16 : decode cX4_isPiece 16 = .ok (.iconst 0, 1) := by decide +kernel
theorem dX4_isPiece_17 : decode cX4_isPiece 17 = .ok (.ireturn, 1) := by decide +kernel
theorem dX4_isListener_0 : decode cX4_isListener 0 = .ok (.iload_n 1, 1) := by decide +kernel
theorem dX4_isListener_1 : decode cX4_isListener 1 = .ok (.ifCond .lt 15, 3) := by decide +kernel
theorem dX4_isListener_4 : decode cX4_isListener 4 = .ok (.iload_n 1, 1) := by decide +kernel
theorem dX4_isListener_5 : decode cX4_isListener 5 = .ok (.aload_n 0, 1) := by decide +kernel
theorem dX4_isListener_6 : decode cX4_isListener 6 = .ok (.getfield 13, 3) := by decide +kernel
theorem dX4_isListener_9 : decode cX4_isListener 9 = .ok (.if_icmp .ge 7, 3) := by decide +kernel
theorem dX4_isListener_12 : decode cX4_isListener 12 = .ok (.iconst 1, 1) := by decide +kernel
theorem dX4_isListener_13 : decode cX4_isListener 13 = .ok (.goto 4, 3) := by decide +kernel
theorem dX4_isListener_16 : decode cX4_isListener 16 = .ok (.iconst 0, 1) := by decide +kernel
theorem dX4_isListener_17 : decode cX4_isListener 17 = .ok (.ireturn, 1) := by decide +kernel
theorem dX4_isCall_0 : decode cX4_isCall 0 = .ok (.iload_n 1, 1) := by decide +kernel
theorem dX4_isCall_1 : decode cX4_isCall 1 = .ok (.ifCond .lt 15, 3) := by decide +kernel
theorem dX4_isCall_4 : decode cX4_isCall 4 = .ok (.iload_n 1, 1) := by decide +kernel
theorem dX4_isCall_5 : decode cX4_isCall 5 = .ok (.aload_n 0, 1) := by decide +kernel
theorem dX4_isCall_6 : decode cX4_isCall 6 = .ok (.getfield 16, 3) := by decide +kernel
theorem dX4_isCall_9 : decode cX4_isCall 9 = .ok (.if_icmp .ge 7, 3) := by decide +kernel
theorem dX4_isCall_12 : decode cX4_isCall 12 = .ok (.iconst 1, 1) := by decide +kernel
theorem dX4_isCall_13 : decode cX4_isCall 13 = .ok (.goto 4, 3) := by decide +kernel
theorem dX4_isCall_16 : decode cX4_isCall 16 = .ok (.iconst 0, 1) := by decide +kernel
theorem dX4_isCall_17 : decode cX4_isCall 17 = .ok (.ireturn, 1) := by decide +kernel
theorem dX4_isMask_0 : decode cX4_isMask 0 = .ok (.iload_n 1, 1) := by decide +kernel
theorem dX4_isMask_1 : decode cX4_isMask 1 = .ok (.ifCond .le 17, 3) := by decide +kernel
theorem dX4_isMask_4 : decode cX4_isMask 4 = .ok (.iload_n 1, 1) := by decide +kernel
theorem dX4_isMask_5 : decode cX4_isMask 5 = .ok (.iconst 1, 1) := by decide +kernel
theorem dX4_isMask_6 : decode cX4_isMask 6 = .ok (.aload_n 0, 1) := by decide +kernel
theorem dX4_isMask_7 : decode cX4_isMask 7 = .ok (.getfield 7, 3) := by decide +kernel
theorem dX4_isMask_10 : decode cX4_isMask 10 = .ok (.ishl, 1) := by decide +kernel
theorem dX4_isMask_11 : decode cX4_isMask 11 = .ok (.if_icmp .ge 7, 3) := by decide +kernel
theorem dX4_isMask_14 : decode cX4_isMask 14 = .ok (.iconst 1, 1) := by decide +kernel
theorem dX4_isMask_15 : decode cX4_isMask 15 = .ok (.goto 4, 3) := by decide +kernel
theorem dX4_isMask_18 : decode cX4_isMask 18 = .ok (.iconst 0, 1) := by decide +kernel
theorem dX4_isMask_19 : decode cX4_isMask 19 = .ok (.ireturn, 1) := by decide +kernel
theorem dX4_piece_0 : decode cX4_piece 0 = .ok (.aload_n 0, 1) := by decide +kernel
theorem dX4_piece_1 : decode cX4_piece 1 = .ok (.getfield 16, 3) := by decide +kernel
theorem dX4_piece_4 : decode cX4_piece 4 = .ok (.ifCond .le 6, 3) := by decide +kernel
theorem dX4_piece_7 : decode cX4_piece 7 = .ok (.bipush (-5), 2) := by decide +kernel
theorem dX4_piece_9 : decode cX4_piece 9 = .ok (.ireturn, 1) := by decide +kernel
theorem dX4_piece_10 : decode cX4_piece 10 = .ok (.aload_n 0, 1) := by decide +kernel
theorem dX4_piece_11 : decode cX4_piece 11 = .ok (.getfield 7, 3) := by decide +kernel
theorem dX4_piece_14 : decode cX4_piece 14 = .ok (.bipush 10, 2) := by decide +kernel
theorem dX4_piece_16 : decode cX4_piece 16 = .ok (.if_icmp .ne 6, 3) := by decide +kernel
theorem dX4_piece_19 : decode cX4_piece 19 = .ok (.bipush (-4), 2) := by decide +kernel
theorem dX4_piece_21 : decode cX4_piece 21 = .ok (.ireturn, 1) := by decide +kernel
theorem dX4_piece_22 : decode cX4_piece 22 = .ok (.aload_n 0, 1) := by decide +kernel
theorem dX4_piece_23 : decode cX4_piece 23 = .ok (.getfield 19, 3) := by decide +kernel
theorem dX4_piece_26 : decode cX4_piece 26 = .ok (.aload_n 0, 1) := by decide +kernel
theorem dX4_piece_27 : decode cX4_piece 27 = .ok (.getfield 7, 3) := by decide +kernel
theorem dX4_piece_30 : decode cX4_piece 30 = .ok (.lload_n 1, 1) := by decide +kernel
theorem dX4_piece_31 : decode cX4_piece 31 = .ok (.lastore, 1) := by decide +kernel
theorem dX4_piece_32 : decode cX4_piece 32 = .ok (.aload_n 0, 1) := by decide +kernel
theorem dX4_piece_33 : decode cX4_piece 33 = .ok (.dup, 1) := by decide +kernel
theorem dX4_piece_34 : decode cX4_piece 34 = .ok (.getfield 7, 3) := by decide +kernel
theorem dX4_piece_37 : decode cX4_piece 37 = .ok (.iconst 1, 1) := by decide +kernel
theorem dX4_piece_38 : decode cX4_piece 38 = .ok (.iadd, 1) := by decide +kernel
theorem dX4_piece_39 : decode cX4_piece 39 = .ok (.putfield 7, 3) := by decide +kernel
theorem dX4_piece_42 : decode cX4_piece 42 = .ok (.aload_n 0, 1) := by decide +kernel
theorem dX4_piece_43 : decode cX4_piece 43 = .ok (.getfield 7, 3) := by decide +kernel
theorem dX4_piece_46 : decode cX4_piece 46 = .ok (.iconst 1, 1) := by decide +kernel
theorem dX4_piece_47 : decode cX4_piece 47 = .ok (.isub, 1) := by decide +kernel
theorem dX4_piece_48 : decode cX4_piece 48 = .ok (.ireturn, 1) := by decide +kernel
theorem dX4_bytes_0 : decode cX4_bytes 0 = .ok (.aload_n 0, 1) := by decide +kernel
theorem dX4_bytes_1 : decode cX4_bytes 1 = .ok (.iload_n 1, 1) := by decide +kernel
theorem dX4_bytes_2 : decode cX4_bytes 2 = .ok (.invokevirtual 88, 3) := by decide +kernel
theorem dX4_bytes_5 : decode cX4_bytes 5 = .ok (.ifCond .eq 12, 3) := by decide +kernel
theorem dX4_bytes_8 : decode cX4_bytes 8 = .ok (.aload_n 0, 1) := by decide +kernel
theorem dX4_bytes_9 : decode cX4_bytes 9 = .ok (.getfield 19, 3) := by decide +kernel
theorem dX4_bytes_12 : decode cX4_bytes 12 = .ok (.iload_n 1, 1) := by decide +kernel
theorem dX4_bytes_13 : decode cX4_bytes 13 = .ok (.laload, 1) := by decide +kernel
theorem dX4_bytes_14 : decode cX4_bytes 14 = .ok (.goto 4, 3) := by decide +kernel
theorem dX4_bytes_17 : decode cX4_bytes 17 = .ok (.lconst 0, 1) := by decide +kernel
theorem dX4_bytes_18 : decode cX4_bytes 18 = .ok (.lreturn, 1) := by decide +kernel
theorem dX4_listener_0 : decode cX4_listener 0 = .ok (.iload_n 1, 1) := by decide +kernel
theorem dX4_listener_1 : decode cX4_listener 1 = .ok (.ifCond .lt 8, 3) := by decide +kernel
theorem dX4_listener_4 : decode cX4_listener 4 = .ok (.iload_n 1, 1) := by decide +kernel
theorem dX4_listener_5 : decode cX4_listener 5 = .ok (.iconst 4, 1) := by decide +kernel
theorem dX4_listener_6 : decode cX4_listener 6 = .ok (.if_icmp .le 6, 3) := by decide +kernel
theorem dX4_listener_9 : decode cX4_listener 9 = .ok (.bipush (-2), 2) := by decide +kernel
theorem dX4_listener_11 : decode cX4_listener 11 = .ok (.ireturn, 1) := by decide +kernel
theorem dX4_listener_12 : decode cX4_listener 12 = .ok (.aload_n 0, 1) := by decide +kernel
theorem dX4_listener_13 : decode cX4_listener 13 = .ok (.getfield 13, 3) := by decide +kernel
theorem dX4_listener_16 : decode cX4_listener 16 = .ok (.bipush 10, 2) := by decide +kernel
theorem dX4_listener_18 : decode cX4_listener 18 = .ok (.if_icmp .ne 6, 3) := by decide +kernel
theorem dX4_listener_21 : decode cX4_listener 21 = .ok (.bipush (-4), 2) := by decide +kernel
theorem dX4_listener_23 : decode cX4_listener 23 = .ok (.ireturn, 1) := by decide +kernel
theorem dX4_listener_24 : decode cX4_listener 24 = .ok (.aload_n 0, 1) := by decide +kernel
theorem dX4_listener_25 : decode cX4_listener 25 = .ok (.getfield 23, 3) := by decide +kernel
theorem dX4_listener_28 : decode cX4_listener 28 = .ok (.aload_n 0, 1) := by decide +kernel
theorem dX4_listener_29 : decode cX4_listener 29 = .ok (.getfield 13, 3) := by decide +kernel
theorem dX4_listener_32 : decode cX4_listener 32 = .ok (.iload_n 1, 1) := by decide +kernel
theorem dX4_listener_33 : decode cX4_listener 33 = .ok (.iastore, 1) := by decide +kernel
theorem dX4_listener_34 : decode cX4_listener 34 = .ok (.aload_n 0, 1) := by decide +kernel
theorem dX4_listener_35 : decode cX4_listener 35 = .ok (.dup, 1) := by decide +kernel
theorem dX4_listener_36 : decode cX4_listener 36 = .ok (.getfield 13, 3) := by decide +kernel
theorem dX4_listener_39 : decode cX4_listener 39 = .ok (.iconst 1, 1) := by decide +kernel
theorem dX4_listener_40 : decode cX4_listener 40 = .ok (.iadd, 1) := by decide +kernel
theorem dX4_listener_41 : decode cX4_listener 41 = .ok (.putfield 13, 3) := by decide +kernel
theorem dX4_listener_44 : decode cX4_listener 44 = .ok (.aload_n 0, 1) := by decide +kernel
theorem dX4_listener_45 : decode cX4_listener 45 = .ok (.getfield 13, 3) := by decide +kernel
theorem dX4_listener_48 : decode cX4_listener 48 = .ok (.iconst 1, 1) := by decide +kernel
theorem dX4_listener_49 : decode cX4_listener 49 = .ok (.isub, 1) := by decide +kernel
theorem dX4_listener_50 : decode cX4_listener 50 = .ok (.ireturn, 1) := by decide +kernel
theorem dX4_wants_0 : decode cX4_wants 0 = .ok (.aload_n 0, 1) := by decide +kernel
theorem dX4_wants_1 : decode cX4_wants 1 = .ok (.iload_n 1, 1) := by decide +kernel
theorem dX4_wants_2 : decode cX4_wants 2 = .ok (.invokevirtual 92, 3) := by decide +kernel
theorem dX4_wants_5 : decode cX4_wants 5 = .ok (.ifCond .eq 11, 3) := by decide +kernel
theorem dX4_wants_8 : decode cX4_wants 8 = .ok (.aload_n 0, 1) := by decide +kernel
theorem dX4_wants_9 : decode cX4_wants 9 = .ok (.iload_n 2, 1) := by decide +kernel
theorem dX4_wants_10 : decode cX4_wants 10 = .ok (.invokevirtual 88, 3) := by decide +kernel
theorem dX4_wants_13 : decode cX4_wants 13 = .ok (.ifCond .ne 5, 3) := by decide +kernel
theorem dX4_wants_16 : decode cX4_wants 16 = .ok (.iconst (-1), 1) := by decide +kernel
theorem dX4_wants_17 : decode cX4_wants 17 = .ok (.ireturn, 1) := by decide +kernel
theorem dX4_wants_18 : decode cX4_wants 18 = .ok (.aload_n 0, 1) := by decide +kernel
theorem dX4_wants_19 : decode cX4_wants 19 = .ok (.getfield 23, 3) := by decide +kernel
theorem dX4_wants_22 : decode cX4_wants 22 = .ok (.iload_n 1, 1) := by decide +kernel
theorem dX4_wants_23 : decode cX4_wants 23 = .ok (.iaload, 1) := by decide +kernel
theorem dX4_wants_24 : decode cX4_wants 24 = .ok (.iconst 2, 1) := by decide +kernel
theorem dX4_wants_25 : decode cX4_wants 25 = .ok (.if_icmp .ne 6, 3) := by decide +kernel
theorem dX4_wants_28 : decode cX4_wants 28 = .ok (.bipush (-3), 2) := by decide +kernel
theorem dX4_wants_30 : decode cX4_wants 30 = .ok (.ireturn, 1) := by decide +kernel
theorem dX4_wants_31 : decode cX4_wants 31 = .ok (.aload_n 0, 1) := by decide +kernel
theorem dX4_wants_32 : decode cX4_wants 32 = .ok (.getfield 27, 3) := by decide +kernel
theorem dX4_wants_35 : decode cX4_wants 35 = .ok (.iload_n 1, 1) := by decide +kernel
theorem dX4_wants_36 : decode cX4_wants 36 = .ok (.iaload, 1) := by decide +kernel
theorem dX4_wants_37 : decode cX4_wants 37 = .ok (.iload_n 2, 1) := by decide +kernel
theorem dX4_wants_38 : decode cX4_wants 38 = .ok (.ishr, 1) := by decide +kernel
theorem dX4_wants_39 : decode cX4_wants 39 = .ok (.iconst 1, 1) := by decide +kernel
theorem dX4_wants_40 : decode cX4_wants 40 = .ok (.iand, 1) := by decide +kernel
theorem dX4_wants_41 : decode cX4_wants 41 = .ok (.iconst 1, 1) := by decide +kernel
theorem dX4_wants_42 : decode cX4_wants 42 = .ok (.if_icmp .ne 5, 3) := by decide +kernel
theorem dX4_wants_45 : decode cX4_wants 45 = .ok (.iconst 0, 1) := by decide +kernel
theorem dX4_wants_46 : decode cX4_wants 46 = .ok (.ireturn, 1) := by decide +kernel
theorem dX4_wants_47 : decode cX4_wants 47 = .ok (.aload_n 0, 1) := by decide +kernel
theorem dX4_wants_48 : decode cX4_wants 48 = .ok (.getfield 23, 3) := by decide +kernel
theorem dX4_wants_51 : decode cX4_wants 51 = .ok (.iload_n 1, 1) := by decide +kernel
theorem dX4_wants_52 : decode cX4_wants 52 = .ok (.iaload, 1) := by decide +kernel
theorem dX4_wants_53 : decode cX4_wants 53 = .ok (.ifCond .ne 15, 3) := by decide +kernel
theorem dX4_wants_56 : decode cX4_wants 56 = .ok (.aload_n 0, 1) := by decide +kernel
theorem dX4_wants_57 : decode cX4_wants 57 = .ok (.getfield 27, 3) := by decide +kernel
theorem dX4_wants_60 : decode cX4_wants 60 = .ok (.iload_n 1, 1) := by decide +kernel
theorem dX4_wants_61 : decode cX4_wants 61 = .ok (.iaload, 1) := by decide +kernel
theorem dX4_wants_62 : decode cX4_wants 62 = .ok (.ifCond .eq 6, 3) := by decide +kernel
theorem dX4_wants_65 : decode cX4_wants 65 = .ok (.bipush (-4), 2) := by decide +kernel
theorem dX4_wants_67 : decode cX4_wants 67 = .ok (.ireturn, 1) := by decide +kernel
theorem dX4_wants_68 : decode cX4_wants 68 = .ok (.aload_n 0, 1) := by decide +kernel
theorem dX4_wants_69 : decode cX4_wants 69 = .ok (.getfield 27, 3) := by decide +kernel
theorem dX4_wants_72 : decode cX4_wants 72 = .ok (.iload_n 1, 1) := by decide +kernel
theorem dX4_wants_73 : decode cX4_wants 73 = .ok (.dup2, 1) := by decide +kernel
theorem dX4_wants_74 : decode cX4_wants 74 = .ok (.iaload, 1) := by decide +kernel
theorem dX4_wants_75 : decode cX4_wants 75 = .ok (.iconst 1, 1) := by decide +kernel
theorem dX4_wants_76 : decode cX4_wants 76 = .ok (.iload_n 2, 1) := by decide +kernel
theorem dX4_wants_77 : decode cX4_wants 77 = .ok (.ishl, 1) := by decide +kernel
theorem dX4_wants_78 : decode cX4_wants 78 = .ok (.ior, 1) := by decide +kernel
theorem dX4_wants_79 : decode cX4_wants 79 = .ok (.iastore, 1) := by decide +kernel
theorem dX4_wants_80 : decode cX4_wants 80 = .ok (.iconst 1, 1) := by decide +kernel
theorem dX4_wants_81 : decode cX4_wants 81 = .ok (.ireturn, 1) := by decide +kernel
theorem dX4_isSingle_0 : decode cX4_isSingle 0 = .ok (.iload_n 1, 1) := by decide +kernel
theorem dX4_isSingle_1 : decode cX4_isSingle 1 = .ok (.iload_n 1, 1) := by decide +kernel
theorem dX4_isSingle_2 : decode cX4_isSingle 2 = .ok (.iconst 1, 1) := by decide +kernel
theorem dX4_isSingle_3 : decode cX4_isSingle 3 = .ok (.isub, 1) := by decide +kernel
theorem dX4_isSingle_4 : decode cX4_isSingle 4 = .ok (.iand, 1) := by decide +kernel
theorem dX4_isSingle_5 : decode cX4_isSingle 5 = .ok (.ifCond .ne 7, 3) := by decide +kernel
theorem dX4_isSingle_8 : decode cX4_isSingle 8 = .ok (.iconst 1, 1) := by decide +kernel
theorem dX4_isSingle_9 : decode cX4_isSingle 9 = .ok (.goto 4, 3) := by decide +kernel
theorem dX4_isSingle_12 : decode cX4_isSingle 12 = .ok (.iconst 0, 1) := by decide +kernel
theorem dX4_isSingle_13 : decode cX4_isSingle 13 = .ok (.ireturn, 1) := by decide +kernel
theorem dX4_holds_0 : decode cX4_holds 0 = .ok (.iconst 0, 1) := by decide +kernel
theorem dX4_holds_1 : decode cX4_holds 1 = .ok (.istore_n 3, 1) := by decide +kernel
theorem dX4_holds_2 : decode cX4_holds 2 = .ok (.iload_n 3, 1) := by decide +kernel
theorem dX4_holds_3 : decode cX4_holds 3 = .ok (.aload_n 0, 1) := by decide +kernel
theorem dX4_holds_4 : decode cX4_holds 4 = .ok (.getfield 30, 3) := by decide +kernel
theorem dX4_holds_7 : decode cX4_holds 7 = .ok (.iload_n 1, 1) := by decide +kernel
theorem dX4_holds_8 : decode cX4_holds 8 = .ok (.iaload, 1) := by decide +kernel
theorem dX4_holds_9 : decode cX4_holds 9 = .ok (.if_icmp .ge 26, 3) := by decide +kernel
theorem dX4_holds_12 : decode cX4_holds 12 = .ok (.aload_n 0, 1) := by decide +kernel
theorem dX4_holds_13 : decode cX4_holds 13 = .ok (.getfield 33, 3) := by decide +kernel
theorem dX4_holds_16 : decode cX4_holds 16 = .ok (.bipush 12, 2) := by decide +kernel
theorem dX4_holds_18 : decode cX4_holds 18 = .ok (.iload_n 1, 1) := by decide +kernel
theorem dX4_holds_19 : decode cX4_holds 19 = .ok (.imul, 1) := by decide +kernel
theorem dX4_holds_20 : decode cX4_holds 20 = .ok (.iload_n 3, 1) := by decide +kernel
theorem dX4_holds_21 : decode cX4_holds 21 = .ok (.iadd, 1) := by decide +kernel
theorem dX4_holds_22 : decode cX4_holds 22 = .ok (.iaload, 1) := by decide +kernel
theorem dX4_holds_23 : decode cX4_holds 23 = .ok (.iload_n 2, 1) := by decide +kernel
theorem dX4_holds_24 : decode cX4_holds 24 = .ok (.if_icmp .ne 5, 3) := by decide +kernel
theorem dX4_holds_27 : decode cX4_holds 27 = .ok (.iconst 1, 1) := by decide +kernel
theorem dX4_holds_28 : decode cX4_holds 28 = .ok (.ireturn, 1) := by decide +kernel
theorem dX4_holds_29 : decode cX4_holds 29 = .ok (.iinc 3 1, 3) := by decide +kernel
theorem dX4_holds_32 : decode cX4_holds 32 = .ok (.goto (-30), 3) := by decide +kernel
theorem dX4_holds_35 : decode cX4_holds 35 = .ok (.iconst 0, 1) := by decide +kernel
theorem dX4_holds_36 : decode cX4_holds 36 = .ok (.ireturn, 1) := by decide +kernel
theorem dX4_has_0 : decode cX4_has 0 = .ok (.aload_n 0, 1) := by decide +kernel
theorem dX4_has_1 : decode cX4_has 1 = .ok (.iload_n 1, 1) := by decide +kernel
theorem dX4_has_2 : decode cX4_has 2 = .ok (.invokevirtual 92, 3) := by decide +kernel
theorem dX4_has_5 : decode cX4_has 5 = .ok (.ifCond .ne 5, 3) := by decide +kernel
theorem dX4_has_8 : decode cX4_has 8 = .ok (.iconst (-1), 1) := by decide +kernel
theorem dX4_has_9 : decode cX4_has 9 = .ok (.ireturn, 1) := by decide +kernel
theorem dX4_has_10 : decode cX4_has 10 = .ok (.aload_n 0, 1) := by decide +kernel
theorem dX4_has_11 : decode cX4_has 11 = .ok (.iload_n 2, 1) := by decide +kernel
theorem dX4_has_12 : decode cX4_has 12 = .ok (.invokevirtual 95, 3) := by decide +kernel
theorem dX4_has_15 : decode cX4_has 15 = .ok (.ifCond .eq 30, 3) := by decide +kernel
theorem dX4_has_18 : decode cX4_has 18 = .ok (.aload_n 0, 1) := by decide +kernel
theorem dX4_has_19 : decode cX4_has 19 = .ok (.getfield 23, 3) := by decide +kernel
theorem dX4_has_22 : decode cX4_has 22 = .ok (.iload_n 1, 1) := by decide +kernel
theorem dX4_has_23 : decode cX4_has 23 = .ok (.iaload, 1) := by decide +kernel
theorem dX4_has_24 : decode cX4_has 24 = .ok (.iconst 3, 1) := by decide +kernel
theorem dX4_has_25 : decode cX4_has 25 = .ok (.if_icmp .eq 11, 3) := by decide +kernel
theorem dX4_has_28 : decode cX4_has 28 = .ok (.aload_n 0, 1) := by decide +kernel
theorem dX4_has_29 : decode cX4_has 29 = .ok (.iload_n 2, 1) := by decide +kernel
theorem dX4_has_30 : decode cX4_has 30 = .ok (.invokevirtual 98, 3) := by decide +kernel
theorem dX4_has_33 : decode cX4_has 33 = .ok (.ifCond .eq 12, 3) := by decide +kernel
theorem dX4_has_36 : decode cX4_has 36 = .ok (.aload_n 0, 1) := by decide +kernel
theorem dX4_has_37 : decode cX4_has 37 = .ok (.iload_n 1, 1) := by decide +kernel
theorem dX4_has_38 : decode cX4_has 38 = .ok (.iload_n 2, 1) := by decide +kernel
theorem dX4_has_39 : decode cX4_has 39 = .ok (.invokevirtual 101, 3) := by decide +kernel
theorem dX4_has_42 : decode cX4_has 42 = .ok (.ifCond .eq 6, 3) := by decide +kernel
theorem dX4_has_45 : decode cX4_has 45 = .ok (.bipush (-2), 2) := by decide +kernel
theorem dX4_has_47 : decode cX4_has 47 = .ok (.ireturn, 1) := by decide +kernel
theorem dX4_has_48 : decode cX4_has 48 = .ok (.aload_n 0, 1) := by decide +kernel
theorem dX4_has_49 : decode cX4_has 49 = .ok (.getfield 16, 3) := by decide +kernel
theorem dX4_has_52 : decode cX4_has 52 = .ok (.ifCond .le 6, 3) := by decide +kernel
theorem dX4_has_55 : decode cX4_has 55 = .ok (.bipush (-5), 2) := by decide +kernel
theorem dX4_has_57 : decode cX4_has 57 = .ok (.ireturn, 1) := by decide +kernel
theorem dX4_has_58 : decode cX4_has 58 = .ok (.aload_n 0, 1) := by decide +kernel
theorem dX4_has_59 : decode cX4_has 59 = .ok (.getfield 30, 3) := by decide +kernel
theorem dX4_has_62 : decode cX4_has 62 = .ok (.iload_n 1, 1) := by decide +kernel
theorem dX4_has_63 : decode cX4_has 63 = .ok (.iaload, 1) := by decide +kernel
theorem dX4_has_64 : decode cX4_has 64 = .ok (.bipush 12, 2) := by decide +kernel
theorem dX4_has_66 : decode cX4_has 66 = .ok (.if_icmp .ne 6, 3) := by decide +kernel
theorem dX4_has_69 : decode cX4_has 69 = .ok (.bipush (-4), 2) := by decide +kernel
theorem dX4_has_71 : decode cX4_has 71 = .ok (.ireturn, 1) := by decide +kernel
theorem dX4_has_72 : decode cX4_has 72 = .ok (.aload_n 0, 1) := by decide +kernel
theorem dX4_has_73 : decode cX4_has 73 = .ok (.getfield 33, 3) := by decide +kernel
theorem dX4_has_76 : decode cX4_has 76 = .ok (.bipush 12, 2) := by decide +kernel
theorem dX4_has_78 : decode cX4_has 78 = .ok (.iload_n 1, 1) := by decide +kernel
theorem dX4_has_79 : decode cX4_has 79 = .ok (.imul, 1) := by decide +kernel
theorem dX4_has_80 : decode cX4_has 80 = .ok (.aload_n 0, 1) := by decide +kernel
theorem dX4_has_81 : decode cX4_has 81 = .ok (.getfield 30, 3) := by decide +kernel
theorem dX4_has_84 : decode cX4_has 84 = .ok (.iload_n 1, 1) := by decide +kernel
theorem dX4_has_85 : decode cX4_has 85 = .ok (.iaload, 1) := by decide +kernel
theorem dX4_has_86 : decode cX4_has 86 = .ok (.iadd, 1) := by decide +kernel
theorem dX4_has_87 : decode cX4_has 87 = .ok (.iload_n 2, 1) := by decide +kernel
theorem dX4_has_88 : decode cX4_has 88 = .ok (.iastore, 1) := by decide +kernel
theorem dX4_has_89 : decode cX4_has 89 = .ok (.aload_n 0, 1) := by decide +kernel
theorem dX4_has_90 : decode cX4_has 90 = .ok (.getfield 30, 3) := by decide +kernel
theorem dX4_has_93 : decode cX4_has 93 = .ok (.iload_n 1, 1) := by decide +kernel
theorem dX4_has_94 : decode cX4_has 94 = .ok (.dup2, 1) := by decide +kernel
theorem dX4_has_95 : decode cX4_has 95 = .ok (.iaload, 1) := by decide +kernel
theorem dX4_has_96 : decode cX4_has 96 = .ok (.iconst 1, 1) := by decide +kernel
theorem dX4_has_97 : decode cX4_has 97 = .ok (.iadd, 1) := by decide +kernel
theorem dX4_has_98 : decode cX4_has 98 = .ok (.iastore, 1) := by decide +kernel
theorem dX4_has_99 : decode cX4_has 99 = .ok (.aload_n 0, 1) := by decide +kernel
theorem dX4_has_100 : decode cX4_has 100 = .ok (.getfield 30, 3) := by decide +kernel
theorem dX4_has_103 : decode cX4_has 103 = .ok (.iload_n 1, 1) := by decide +kernel
theorem dX4_has_104 : decode cX4_has 104 = .ok (.iaload, 1) := by decide +kernel
theorem dX4_has_105 : decode cX4_has 105 = .ok (.ireturn, 1) := by decide +kernel
theorem dX4_off_0 : decode cX4_off 0 = .ok (.aload_n 0, 1) := by decide +kernel
theorem dX4_off_1 : decode cX4_off 1 = .ok (.iload_n 1, 1) := by decide +kernel
theorem dX4_off_2 : decode cX4_off 2 = .ok (.invokevirtual 92, 3) := by decide +kernel
theorem dX4_off_5 : decode cX4_off 5 = .ok (.ifCond .ne 5, 3) := by decide +kernel
theorem dX4_off_8 : decode cX4_off 8 = .ok (.iconst (-1), 1) := by decide +kernel
theorem dX4_off_9 : decode cX4_off 9 = .ok (.ireturn, 1) := by decide +kernel
theorem dX4_off_10 : decode cX4_off 10 = .ok (.aload_n 0, 1) := by decide +kernel
theorem dX4_off_11 : decode cX4_off 11 = .ok (.getfield 23, 3) := by decide +kernel
theorem dX4_off_14 : decode cX4_off 14 = .ok (.iload_n 1, 1) := by decide +kernel
theorem dX4_off_15 : decode cX4_off 15 = .ok (.iaload, 1) := by decide +kernel
theorem dX4_off_16 : decode cX4_off 16 = .ok (.iconst 4, 1) := by decide +kernel
theorem dX4_off_17 : decode cX4_off 17 = .ok (.if_icmp .eq 6, 3) := by decide +kernel
theorem dX4_off_20 : decode cX4_off 20 = .ok (.bipush (-3), 2) := by decide +kernel
theorem dX4_off_22 : decode cX4_off 22 = .ok (.ireturn, 1) := by decide +kernel
theorem dX4_off_23 : decode cX4_off 23 = .ok (.iload_n 2, 1) := by decide +kernel
theorem dX4_off_24 : decode cX4_off 24 = .ok (.ifCond .lt 8, 3) := by decide +kernel
theorem dX4_off_27 : decode cX4_off 27 = .ok (.iload_n 2, 1) := by decide +kernel
theorem dX4_off_28 : decode cX4_off 28 = .ok (.iconst 1, 1) := by decide +kernel
theorem dX4_off_29 : decode cX4_off 29 = .ok (.if_icmp .le 6, 3) := by decide +kernel
theorem dX4_off_32 : decode cX4_off 32 = .ok (.bipush (-2), 2) := by decide +kernel
theorem dX4_off_34 : decode cX4_off 34 = .ok (.ireturn, 1) := by decide +kernel
theorem dX4_off_35 : decode cX4_off 35 = .ok (.aload_n 0, 1) := by decide +kernel
theorem dX4_off_36 : decode cX4_off 36 = .ok (.getfield 36, 3) := by decide +kernel
theorem dX4_off_39 : decode cX4_off 39 = .ok (.iload_n 1, 1) := by decide +kernel
theorem dX4_off_40 : decode cX4_off 40 = .ok (.baload, 1) := by decide +kernel
theorem dX4_off_41 : decode cX4_off 41 = .ok (.ifCond .eq 7, 3) := by decide +kernel
theorem dX4_off_44 : decode cX4_off 44 = .ok (.iconst 1, 1) := by decide +kernel
theorem dX4_off_45 : decode cX4_off 45 = .ok (.goto 4, 3) := by decide +kernel
theorem dX4_off_48 : decode cX4_off 48 = .ok (.iconst 0, 1) := by decide +kernel
theorem dX4_off_49 : decode cX4_off 49 = .ok (.istore_n 3, 1) := by decide +kernel
theorem dX4_off_50 : decode cX4_off 50 = .ok (.aload_n 0, 1) := by decide +kernel
theorem dX4_off_51 : decode cX4_off 51 = .ok (.getfield 36, 3) := by decide +kernel
theorem dX4_off_54 : decode cX4_off 54 = .ok (.iload_n 1, 1) := by decide +kernel
theorem dX4_off_55 : decode cX4_off 55 = .ok (.iload_n 2, 1) := by decide +kernel
theorem dX4_off_56 : decode cX4_off 56 = .ok (.iconst 1, 1) := by decide +kernel
theorem dX4_off_57 : decode cX4_off 57 = .ok (.if_icmp .ne 7, 3) := by decide +kernel
theorem dX4_off_60 : decode cX4_off 60 = .ok (.iconst 1, 1) := by decide +kernel
theorem dX4_off_61 : decode cX4_off 61 = .ok (.goto 4, 3) := by decide +kernel
theorem dX4_off_64 : decode cX4_off 64 = .ok (.iconst 0, 1) := by decide +kernel
theorem dX4_off_65 : decode cX4_off 65 = .ok (.bastore, 1) := by decide +kernel
theorem dX4_off_66 : decode cX4_off 66 = .ok (.iload_n 3, 1) := by decide +kernel
theorem dX4_off_67 : decode cX4_off 67 = .ok (.ireturn, 1) := by decide +kernel
theorem dX4_said_0 : decode cX4_said 0 = .ok (.aload_n 0, 1) := by decide +kernel
theorem dX4_said_1 : decode cX4_said 1 = .ok (.getfield 40, 3) := by decide +kernel
theorem dX4_said_4 : decode cX4_said 4 = .ok (.aload_n 0, 1) := by decide +kernel
theorem dX4_said_5 : decode cX4_said 5 = .ok (.getfield 16, 3) := by decide +kernel
theorem dX4_said_8 : decode cX4_said 8 = .ok (.iload_n 1, 1) := by decide +kernel
theorem dX4_said_9 : decode cX4_said 9 = .ok (.iastore, 1) := by decide +kernel
theorem dX4_said_10 : decode cX4_said 10 = .ok (.aload_n 0, 1) := by decide +kernel
theorem dX4_said_11 : decode cX4_said 11 = .ok (.getfield 43, 3) := by decide +kernel
theorem dX4_said_14 : decode cX4_said 14 = .ok (.aload_n 0, 1) := by decide +kernel
theorem dX4_said_15 : decode cX4_said 15 = .ok (.getfield 16, 3) := by decide +kernel
theorem dX4_said_18 : decode cX4_said 18 = .ok (.iconst 0, 1) := by decide +kernel
theorem dX4_said_19 : decode cX4_said 19 = .ok (.iastore, 1) := by decide +kernel
theorem dX4_said_20 : decode cX4_said 20 = .ok (.iconst 0, 1) := by decide +kernel
theorem dX4_said_21 : decode cX4_said 21 = .ok (.istore_n 2, 1) := by decide +kernel
theorem dX4_said_22 : decode cX4_said 22 = .ok (.iload_n 2, 1) := by decide +kernel
theorem dX4_said_23 : decode cX4_said 23 = .ok (.aload_n 0, 1) := by decide +kernel
theorem dX4_said_24 : decode cX4_said 24 = .ok (.getfield 13, 3) := by decide +kernel
theorem dX4_said_27 : decode cX4_said 27 = .ok (.if_icmp .ge 33, 3) := by decide +kernel
theorem dX4_said_30 : decode cX4_said 30 = .ok (.aload_n 0, 1) := by decide +kernel
theorem dX4_said_31 : decode cX4_said 31 = .ok (.getfield 36, 3) := by decide +kernel
theorem dX4_said_34 : decode cX4_said 34 = .ok (.iload_n 2, 1) := by decide +kernel
theorem dX4_said_35 : decode cX4_said 35 = .ok (.baload, 1) := by decide +kernel
theorem dX4_said_36 : decode cX4_said 36 = .ok (.ifCond .ne 18, 3) := by decide +kernel
theorem dX4_said_39 : decode cX4_said 39 = .ok (.aload_n 0, 1) := by decide +kernel
theorem dX4_said_40 : decode cX4_said 40 = .ok (.getfield 43, 3) := by decide +kernel
theorem dX4_said_43 : decode cX4_said 43 = .ok (.aload_n 0, 1) := by decide +kernel
theorem dX4_said_44 : decode cX4_said 44 = .ok (.getfield 16, 3) := by decide +kernel
theorem dX4_said_47 : decode cX4_said 47 = .ok (.dup2, 1) := by decide +kernel
theorem dX4_said_48 : decode cX4_said 48 = .ok (.iaload, 1) := by decide +kernel
theorem dX4_said_49 : decode cX4_said 49 = .ok (.iconst 1, 1) := by decide +kernel
theorem dX4_said_50 : decode cX4_said 50 = .ok (.iload_n 2, 1) := by decide +kernel
theorem dX4_said_51 : decode cX4_said 51 = .ok (.ishl, 1) := by decide +kernel
theorem dX4_said_52 : decode cX4_said 52 = .ok (.ior, 1) := by decide +kernel
theorem dX4_said_53 : decode cX4_said 53 = .ok (.iastore, 1) := by decide +kernel
theorem dX4_said_54 : decode cX4_said 54 = .ok (.iinc 2 1, 3) := by decide +kernel
theorem dX4_said_57 : decode cX4_said 57 = .ok (.goto (-35), 3) := by decide +kernel
theorem dX4_said_60 : decode cX4_said 60 = .ok (.aload_n 0, 1) := by decide +kernel
theorem dX4_said_61 : decode cX4_said 61 = .ok (.dup, 1) := by decide +kernel
theorem dX4_said_62 : decode cX4_said 62 = .ok (.getfield 16, 3) := by decide +kernel
theorem dX4_said_65 : decode cX4_said 65 = .ok (.iconst 1, 1) := by decide +kernel
theorem dX4_said_66 : decode cX4_said 66 = .ok (.iadd, 1) := by decide +kernel
theorem dX4_said_67 : decode cX4_said 67 = .ok (.putfield 16, 3) := by decide +kernel
theorem dX4_said_70 : decode cX4_said 70 = .ok (.aload_n 0, 1) := by decide +kernel
theorem dX4_said_71 : decode cX4_said 71 = .ok (.getfield 16, 3) := by decide +kernel
theorem dX4_said_74 : decode cX4_said 74 = .ok (.iconst 1, 1) := by decide +kernel
theorem dX4_said_75 : decode cX4_said 75 = .ok (.isub, 1) := by decide +kernel
theorem dX4_said_76 : decode cX4_said 76 = .ok (.ireturn, 1) := by decide +kernel
theorem dX4_say_0 : decode cX4_say 0 = .ok (.aload_n 0, 1) := by decide +kernel
theorem dX4_say_1 : decode cX4_say 1 = .ok (.iload_n 1, 1) := by decide +kernel
theorem dX4_say_2 : decode cX4_say 2 = .ok (.invokevirtual 95, 3) := by decide +kernel
theorem dX4_say_5 : decode cX4_say 5 = .ok (.ifCond .ne 6, 3) := by decide +kernel
theorem dX4_say_8 : decode cX4_say 8 = .ok (.bipush (-2), 2) := by decide +kernel
theorem dX4_say_10 : decode cX4_say 10 = .ok (.ireturn, 1) := by decide +kernel
theorem dX4_say_11 : decode cX4_say 11 = .ok (.aload_n 0, 1) := by decide +kernel
theorem dX4_say_12 : decode cX4_say 12 = .ok (.getfield 16, 3) := by decide +kernel
theorem dX4_say_15 : decode cX4_say 15 = .ok (.bipush 40, 2) := by decide +kernel
theorem dX4_say_17 : decode cX4_say 17 = .ok (.if_icmp .ne 8, 3) := by decide +kernel
theorem dX4_say_20 : decode cX4_say 20 = .ok (.bipush (-4), 2) := by decide +kernel
theorem dX4_say_22 : decode cX4_say 22 = .ok (.goto 8, 3) := by decide +kernel
theorem dX4_say_25 : decode cX4_say 25 = .ok (.aload_n 0, 1) := by decide +kernel
theorem dX4_say_26 : decode cX4_say 26 = .ok (.iload_n 1, 1) := by decide +kernel
theorem dX4_say_27 : decode cX4_say 27 = .ok (.invokevirtual 105, 3) := by decide +kernel
theorem dX4_say_30 : decode cX4_say 30 = .ok (.ireturn, 1) := by decide +kernel
theorem dX4_again_0 : decode cX4_again 0 = .ok (.aload_n 0, 1) := by decide +kernel
theorem dX4_again_1 : decode cX4_again 1 = .ok (.iload_n 1, 1) := by decide +kernel
theorem dX4_again_2 : decode cX4_again 2 = .ok (.invokevirtual 109, 3) := by decide +kernel
theorem dX4_again_5 : decode cX4_again 5 = .ok (.ifCond .ne 5, 3) := by decide +kernel
theorem dX4_again_8 : decode cX4_again 8 = .ok (.iconst (-1), 1) := by decide +kernel
theorem dX4_again_9 : decode cX4_again 9 = .ok (.ireturn, 1) := by decide +kernel
theorem dX4_again_10 : decode cX4_again 10 = .ok (.aload_n 0, 1) := by decide +kernel
theorem dX4_again_11 : decode cX4_again 11 = .ok (.getfield 16, 3) := by decide +kernel
theorem dX4_again_14 : decode cX4_again 14 = .ok (.bipush 40, 2) := by decide +kernel
theorem dX4_again_16 : decode cX4_again 16 = .ok (.if_icmp .ne 8, 3) := by decide +kernel
theorem dX4_again_19 : decode cX4_again 19 = .ok (.bipush (-4), 2) := by decide +kernel
theorem dX4_again_21 : decode cX4_again 21 = .ok (.goto 13, 3) := by decide +kernel
theorem dX4_again_24 : decode cX4_again 24 = .ok (.aload_n 0, 1) := by decide +kernel
theorem dX4_again_25 : decode cX4_again 25 = .ok (.aload_n 0, 1) := by decide +kernel
theorem dX4_again_26 : decode cX4_again 26 = .ok (.getfield 40, 3) := by decide +kernel
theorem dX4_again_29 : decode cX4_again 29 = .ok (.iload_n 1, 1) := by decide +kernel
theorem dX4_again_30 : decode cX4_again 30 = .ok (.iaload, 1) := by decide +kernel
theorem dX4_again_31 : decode cX4_again 31 = .ok (.invokevirtual 105, 3) := by decide +kernel
theorem dX4_again_34 : decode cX4_again 34 = .ok (.ireturn, 1) := by decide +kernel
theorem dX4_sum_0 : decode cX4_sum 0 = .ok (.aload_n 0, 1) := by decide +kernel
theorem dX4_sum_1 : decode cX4_sum 1 = .ok (.iload_n 1, 1) := by decide +kernel
theorem dX4_sum_2 : decode cX4_sum 2 = .ok (.invokevirtual 109, 3) := by decide +kernel
theorem dX4_sum_5 : decode cX4_sum 5 = .ok (.ifCond .eq 16, 3) := by decide +kernel
theorem dX4_sum_8 : decode cX4_sum 8 = .ok (.aload_n 0, 1) := by decide +kernel
theorem dX4_sum_9 : decode cX4_sum 9 = .ok (.aload_n 0, 1) := by decide +kernel
theorem dX4_sum_10 : decode cX4_sum 10 = .ok (.getfield 40, 3) := by decide +kernel
theorem dX4_sum_13 : decode cX4_sum 13 = .ok (.iload_n 1, 1) := by decide +kernel
theorem dX4_sum_14 : decode cX4_sum 14 = .ok (.iaload, 1) := by decide +kernel
theorem dX4_sum_15 : decode cX4_sum 15 = .ok (.invokevirtual 112, 3) := by decide +kernel
theorem dX4_sum_18 : decode cX4_sum 18 = .ok (.goto 4, 3) := by decide +kernel
theorem dX4_sum_21 : decode cX4_sum 21 = .ok (.lconst 0, 1) := by decide +kernel
theorem dX4_sum_22 : decode cX4_sum 22 = .ok (.lreturn, 1) := by decide +kernel
theorem dX4_sumOf_0 : decode cX4_sumOf 0 = .ok (.lconst 0, 1) := by decide +kernel
theorem dX4_sumOf_1 : decode cX4_sumOf 1 = .ok (.lstore_n 2, 1) := by decide +kernel
theorem dX4_sumOf_2 : decode cX4_sumOf 2 = .ok (.iconst 0, 1) := by decide +kernel
theorem dX4_sumOf_3 : decode cX4_sumOf 3 = .ok (.istore 4, 2) := by decide +kernel
theorem dX4_sumOf_5 : decode cX4_sumOf 5 = .ok (.iload 4, 2) := by decide +kernel
theorem dX4_sumOf_7 : decode cX4_sumOf 7 = .ok (.aload_n 0, 1) := by decide +kernel
theorem dX4_sumOf_8 : decode cX4_sumOf 8 = .ok (.getfield 7, 3) := by decide +kernel
theorem dX4_sumOf_11 : decode cX4_sumOf 11 = .ok (.if_icmp .ge 29, 3) := by decide +kernel
theorem dX4_sumOf_14 : decode cX4_sumOf 14 = .ok (.iload_n 1, 1) := by decide +kernel
theorem dX4_sumOf_15 : decode cX4_sumOf 15 = .ok (.iload 4, 2) := by decide +kernel
theorem dX4_sumOf_17 : decode cX4_sumOf 17 = .ok (.ishr, 1) := by decide +kernel
theorem dX4_sumOf_18 : decode cX4_sumOf 18 = .ok (.iconst 1, 1) := by decide +kernel
theorem dX4_sumOf_19 : decode cX4_sumOf 19 = .ok (.iand, 1) := by decide +kernel
theorem dX4_sumOf_20 : decode cX4_sumOf 20 = .ok (.iconst 1, 1) := by decide +kernel
theorem dX4_sumOf_21 : decode cX4_sumOf 21 = .ok (.if_icmp .ne 13, 3) := by decide +kernel
theorem dX4_sumOf_24 : decode cX4_sumOf 24 = .ok (.lload_n 2, 1) := by decide +kernel
theorem dX4_sumOf_25 : decode cX4_sumOf 25 = .ok (.aload_n 0, 1) := by decide +kernel
theorem dX4_sumOf_26 : decode cX4_sumOf 26 = .ok (.getfield 19, 3) := by decide +kernel
theorem dX4_sumOf_29 : decode cX4_sumOf 29 = .ok (.iload 4, 2) := by decide +kernel
theorem dX4_sumOf_31 : decode cX4_sumOf 31 = .ok (.laload, 1) := by decide +kernel
theorem dX4_sumOf_32 : decode cX4_sumOf 32 = .ok (.lxor, 1) := by decide +kernel
theorem dX4_sumOf_33 : decode cX4_sumOf 33 = .ok (.lstore_n 2, 1) := by decide +kernel
theorem dX4_sumOf_34 : decode cX4_sumOf 34 = .ok (.iinc 4 1, 3) := by decide +kernel
theorem dX4_sumOf_37 : decode cX4_sumOf 37 = .ok (.goto (-32), 3) := by decide +kernel
theorem dX4_sumOf_40 : decode cX4_sumOf 40 = .ok (.lload_n 2, 1) := by decide +kernel
theorem dX4_sumOf_41 : decode cX4_sumOf 41 = .ok (.lreturn, 1) := by decide +kernel
theorem dX4_heard_0 : decode cX4_heard 0 = .ok (.aload_n 0, 1) := by decide +kernel
theorem dX4_heard_1 : decode cX4_heard 1 = .ok (.iload_n 1, 1) := by decide +kernel
theorem dX4_heard_2 : decode cX4_heard 2 = .ok (.invokevirtual 92, 3) := by decide +kernel
theorem dX4_heard_5 : decode cX4_heard 5 = .ok (.ifCond .eq 11, 3) := by decide +kernel
theorem dX4_heard_8 : decode cX4_heard 8 = .ok (.aload_n 0, 1) := by decide +kernel
theorem dX4_heard_9 : decode cX4_heard 9 = .ok (.iload_n 2, 1) := by decide +kernel
theorem dX4_heard_10 : decode cX4_heard 10 = .ok (.invokevirtual 109, 3) := by decide +kernel
theorem dX4_heard_13 : decode cX4_heard 13 = .ok (.ifCond .ne 7, 3) := by decide +kernel
theorem dX4_heard_16 : decode cX4_heard 16 = .ok (.iconst (-1), 1) := by decide +kernel
theorem dX4_heard_17 : decode cX4_heard 17 = .ok (.goto 13, 3) := by decide +kernel
theorem dX4_heard_20 : decode cX4_heard 20 = .ok (.aload_n 0, 1) := by decide +kernel
theorem dX4_heard_21 : decode cX4_heard 21 = .ok (.getfield 43, 3) := by decide +kernel
theorem dX4_heard_24 : decode cX4_heard 24 = .ok (.iload_n 2, 1) := by decide +kernel
theorem dX4_heard_25 : decode cX4_heard 25 = .ok (.iaload, 1) := by decide +kernel
theorem dX4_heard_26 : decode cX4_heard 26 = .ok (.iload_n 1, 1) := by decide +kernel
theorem dX4_heard_27 : decode cX4_heard 27 = .ok (.ishr, 1) := by decide +kernel
theorem dX4_heard_28 : decode cX4_heard 28 = .ok (.iconst 1, 1) := by decide +kernel
theorem dX4_heard_29 : decode cX4_heard 29 = .ok (.iand, 1) := by decide +kernel
theorem dX4_heard_30 : decode cX4_heard 30 = .ok (.ireturn, 1) := by decide +kernel
theorem dX4_take_0 : decode cX4_take 0 = .ok (.aload_n 0, 1) := by decide +kernel
theorem dX4_take_1 : decode cX4_take 1 = .ok (.getfield 46, 3) := by decide +kernel
theorem dX4_take_4 : decode cX4_take 4 = .ok (.aload_n 0, 1) := by decide +kernel
theorem dX4_take_5 : decode cX4_take 5 = .ok (.getfield 52, 3) := by decide +kernel
theorem dX4_take_8 : decode cX4_take 8 = .ok (.iload_n 2, 1) := by decide +kernel
theorem dX4_take_9 : decode cX4_take 9 = .ok (.iastore, 1) := by decide +kernel
theorem dX4_take_10 : decode cX4_take 10 = .ok (.aload_n 0, 1) := by decide +kernel
theorem dX4_take_11 : decode cX4_take 11 = .ok (.getfield 49, 3) := by decide +kernel
theorem dX4_take_14 : decode cX4_take 14 = .ok (.aload_n 0, 1) := by decide +kernel
theorem dX4_take_15 : decode cX4_take 15 = .ok (.getfield 52, 3) := by decide +kernel
theorem dX4_take_18 : decode cX4_take 18 = .ok (.aload_n 0, 1) := by decide +kernel
theorem dX4_take_19 : decode cX4_take 19 = .ok (.getfield 58, 3) := by decide +kernel
theorem dX4_take_22 : decode cX4_take 22 = .ok (.sipush 1024, 3) := by decide +kernel
theorem dX4_take_25 : decode cX4_take 25 = .ok (.iload_n 1, 1) := by decide +kernel
theorem dX4_take_26 : decode cX4_take 26 = .ok (.imul, 1) := by decide +kernel
theorem dX4_take_27 : decode cX4_take 27 = .ok (.iload_n 2, 1) := by decide +kernel
theorem dX4_take_28 : decode cX4_take 28 = .ok (.iadd, 1) := by decide +kernel
theorem dX4_take_29 : decode cX4_take 29 = .ok (.baload, 1) := by decide +kernel
theorem dX4_take_30 : decode cX4_take 30 = .ok (.ifCond .ne 7, 3) := by decide +kernel
theorem dX4_take_33 : decode cX4_take 33 = .ok (.iconst 1, 1) := by decide +kernel
theorem dX4_take_34 : decode cX4_take 34 = .ok (.goto 4, 3) := by decide +kernel
theorem dX4_take_37 : decode cX4_take 37 = .ok (.iconst 0, 1) := by decide +kernel
theorem dX4_take_38 : decode cX4_take 38 = .ok (.bastore, 1) := by decide +kernel
theorem dX4_take_39 : decode cX4_take 39 = .ok (.aload_n 0, 1) := by decide +kernel
theorem dX4_take_40 : decode cX4_take 40 = .ok (.getfield 49, 3) := by decide +kernel
theorem dX4_take_43 : decode cX4_take 43 = .ok (.aload_n 0, 1) := by decide +kernel
theorem dX4_take_44 : decode cX4_take 44 = .ok (.getfield 52, 3) := by decide +kernel
theorem dX4_take_47 : decode cX4_take 47 = .ok (.baload, 1) := by decide +kernel
theorem dX4_take_48 : decode cX4_take 48 = .ok (.ifCond .eq 85, 3) := by decide +kernel
theorem dX4_take_51 : decode cX4_take 51 = .ok (.aload_n 0, 1) := by decide +kernel
theorem dX4_take_52 : decode cX4_take 52 = .ok (.dup, 1) := by decide +kernel
theorem dX4_take_53 : decode cX4_take 53 = .ok (.getfield 55, 3) := by decide +kernel
theorem dX4_take_56 : decode cX4_take 56 = .ok (.iconst 1, 1) := by decide +kernel
theorem dX4_take_57 : decode cX4_take 57 = .ok (.iadd, 1) := by decide +kernel
theorem dX4_take_58 : decode cX4_take 58 = .ok (.putfield 55, 3) := by decide +kernel
theorem dX4_take_61 : decode cX4_take 61 = .ok (.iconst 0, 1) := by decide +kernel
theorem dX4_take_62 : decode cX4_take 62 = .ok (.istore_n 3, 1) := by decide +kernel
theorem dX4_take_63 : decode cX4_take 63 = .ok (.iload_n 3, 1) := by decide +kernel
theorem dX4_take_64 : decode cX4_take 64 = .ok (.sipush 1024, 3) := by decide +kernel
theorem dX4_take_67 : decode cX4_take 67 = .ok (.if_icmp .ge 27, 3) := by decide +kernel
theorem dX4_take_70 : decode cX4_take 70 = .ok (.aload_n 0, 1) := by decide +kernel
theorem dX4_take_71 : decode cX4_take 71 = .ok (.getfield 61, 3) := by decide +kernel
theorem dX4_take_74 : decode cX4_take 74 = .ok (.iload_n 3, 1) := by decide +kernel
theorem dX4_take_75 : decode cX4_take 75 = .ok (.aload_n 0, 1) := by decide +kernel
theorem dX4_take_76 : decode cX4_take 76 = .ok (.getfield 58, 3) := by decide +kernel
theorem dX4_take_79 : decode cX4_take 79 = .ok (.sipush 1024, 3) := by decide +kernel
theorem dX4_take_82 : decode cX4_take 82 = .ok (.iload_n 1, 1) := by decide +kernel
theorem dX4_take_83 : decode cX4_take 83 = .ok (.imul, 1) := by decide +kernel
theorem dX4_take_84 : decode cX4_take 84 = .ok (.iload_n 3, 1) := by decide +kernel
theorem dX4_take_85 : decode cX4_take 85 = .ok (.iadd, 1) := by decide +kernel
theorem dX4_take_86 : decode cX4_take 86 = .ok (.baload, 1) := by decide +kernel
theorem dX4_take_87 : decode cX4_take 87 = .ok (.bastore, 1) := by decide +kernel
theorem dX4_take_88 : decode cX4_take 88 = .ok (.iinc 3 1, 3) := by decide +kernel
theorem dX4_take_91 : decode cX4_take 91 = .ok (.goto (-28), 3) := by decide +kernel
theorem dX4_take_94 : decode cX4_take 94 = .ok (.iconst 0, 1) := by decide +kernel
theorem dX4_take_95 : decode cX4_take 95 = .ok (.istore_n 3, 1) := by decide +kernel
theorem dX4_take_96 : decode cX4_take 96 = .ok (.iload_n 3, 1) := by decide +kernel
theorem dX4_take_97 : decode cX4_take 97 = .ok (.sipush 1024, 3) := by decide +kernel
theorem dX4_take_100 : decode cX4_take 100 = .ok (.if_icmp .ge 33, 3) := by decide +kernel
theorem dX4_take_103 : decode cX4_take 103 = .ok (.aload_n 0, 1) := by decide +kernel
theorem dX4_take_104 : decode cX4_take 104 = .ok (.getfield 61, 3) := by decide +kernel
theorem dX4_take_107 : decode cX4_take 107 = .ok (.iload_n 3, 1) := by decide +kernel
theorem dX4_take_108 : decode cX4_take 108 = .ok (.baload, 1) := by decide +kernel
theorem dX4_take_109 : decode cX4_take 109 = .ok (.ifCond .eq 18, 3) := by decide +kernel
theorem dX4_take_112 : decode cX4_take 112 = .ok (.aload_n 0, 1) := by decide +kernel
theorem dX4_take_113 : decode cX4_take 113 = .ok (.getfield 58, 3) := by decide +kernel
theorem dX4_take_116 : decode cX4_take 116 = .ok (.sipush 1024, 3) := by decide +kernel
theorem dX4_take_119 : decode cX4_take 119 = .ok (.iload_n 1, 1) := by decide +kernel
theorem dX4_take_120 : decode cX4_take 120 = .ok (.imul, 1) := by decide +kernel
theorem dX4_take_121 : decode cX4_take 121 = .ok (.iload_n 3, 1) := by decide +kernel
theorem dX4_take_122 : decode cX4_take 122 = .ok (.iload_n 2, 1) := by decide +kernel
theorem dX4_take_123 : decode cX4_take 123 = .ok (.ixor, 1) := by decide +kernel
theorem dX4_take_124 : decode cX4_take 124 = .ok (.iadd, 1) := by decide +kernel
theorem dX4_take_125 : decode cX4_take 125 = .ok (.iconst 1, 1) := by decide +kernel
theorem dX4_take_126 : decode cX4_take 126 = .ok (.bastore, 1) := by decide +kernel
theorem dX4_take_127 : decode cX4_take 127 = .ok (.iinc 3 1, 3) := by decide +kernel
theorem dX4_take_130 : decode cX4_take 130 = .ok (.goto (-34), 3) := by decide +kernel
theorem dX4_take_133 : decode cX4_take 133 = .ok (.aload_n 0, 1) := by decide +kernel
theorem dX4_take_134 : decode cX4_take 134 = .ok (.dup, 1) := by decide +kernel
theorem dX4_take_135 : decode cX4_take 135 = .ok (.getfield 52, 3) := by decide +kernel
theorem dX4_take_138 : decode cX4_take 138 = .ok (.iconst 1, 1) := by decide +kernel
theorem dX4_take_139 : decode cX4_take 139 = .ok (.iadd, 1) := by decide +kernel
theorem dX4_take_140 : decode cX4_take 140 = .ok (.putfield 52, 3) := by decide +kernel
theorem dX4_take_143 : decode cX4_take 143 = .ok (.return_, 1) := by decide +kernel
theorem dX4_know_0 : decode cX4_know 0 = .ok (.aload_n 0, 1) := by decide +kernel
theorem dX4_know_1 : decode cX4_know 1 = .ok (.iconst 0, 1) := by decide +kernel
theorem dX4_know_2 : decode cX4_know 2 = .ok (.putfield 52, 3) := by decide +kernel
theorem dX4_know_5 : decode cX4_know 5 = .ok (.aload_n 0, 1) := by decide +kernel
theorem dX4_know_6 : decode cX4_know 6 = .ok (.iconst 0, 1) := by decide +kernel
theorem dX4_know_7 : decode cX4_know 7 = .ok (.putfield 55, 3) := by decide +kernel
theorem dX4_know_10 : decode cX4_know 10 = .ok (.iconst 0, 1) := by decide +kernel
theorem dX4_know_11 : decode cX4_know 11 = .ok (.istore_n 2, 1) := by decide +kernel
theorem dX4_know_12 : decode cX4_know 12 = .ok (.iload_n 2, 1) := by decide +kernel
theorem dX4_know_13 : decode cX4_know 13 = .ok (.sipush 1024, 3) := by decide +kernel
theorem dX4_know_16 : decode cX4_know 16 = .ok (.if_icmp .ge 30, 3) := by decide +kernel
theorem dX4_know_19 : decode cX4_know 19 = .ok (.aload_n 0, 1) := by decide +kernel
theorem dX4_know_20 : decode cX4_know 20 = .ok (.getfield 58, 3) := by decide +kernel
theorem dX4_know_23 : decode cX4_know 23 = .ok (.sipush 1024, 3) := by decide +kernel
theorem dX4_know_26 : decode cX4_know 26 = .ok (.iload_n 1, 1) := by decide +kernel
theorem dX4_know_27 : decode cX4_know 27 = .ok (.imul, 1) := by decide +kernel
theorem dX4_know_28 : decode cX4_know 28 = .ok (.iload_n 2, 1) := by decide +kernel
theorem dX4_know_29 : decode cX4_know 29 = .ok (.iadd, 1) := by decide +kernel
theorem dX4_know_30 : decode cX4_know 30 = .ok (.iload_n 2, 1) := by decide +kernel
theorem dX4_know_31 : decode cX4_know 31 = .ok (.ifCond .ne 7, 3) := by decide +kernel
theorem dX4_know_34 : decode cX4_know 34 = .ok (.iconst 1, 1) := by decide +kernel
theorem dX4_know_35 : decode cX4_know 35 = .ok (.goto 4, 3) := by decide +kernel
theorem dX4_know_38 : decode cX4_know 38 = .ok (.iconst 0, 1) := by decide +kernel
theorem dX4_know_39 : decode cX4_know 39 = .ok (.bastore, 1) := by decide +kernel
theorem dX4_know_40 : decode cX4_know 40 = .ok (.iinc 2 1, 3) := by decide +kernel
theorem dX4_know_43 : decode cX4_know 43 = .ok (.goto (-31), 3) := by decide +kernel
theorem dX4_know_46 : decode cX4_know 46 = .ok (.iconst 0, 1) := by decide +kernel
theorem dX4_know_47 : decode cX4_know 47 = .ok (.istore_n 2, 1) := by decide +kernel
theorem dX4_know_48 : decode cX4_know 48 = .ok (.iload_n 2, 1) := by decide +kernel
theorem dX4_know_49 : decode cX4_know 49 = .ok (.aload_n 0, 1) := by decide +kernel
theorem dX4_know_50 : decode cX4_know 50 = .ok (.getfield 30, 3) := by decide +kernel
theorem dX4_know_53 : decode cX4_know 53 = .ok (.iload_n 1, 1) := by decide +kernel
theorem dX4_know_54 : decode cX4_know 54 = .ok (.iaload, 1) := by decide +kernel
theorem dX4_know_55 : decode cX4_know 55 = .ok (.if_icmp .ge 25, 3) := by decide +kernel
theorem dX4_know_58 : decode cX4_know 58 = .ok (.aload_n 0, 1) := by decide +kernel
theorem dX4_know_59 : decode cX4_know 59 = .ok (.iload_n 1, 1) := by decide +kernel
theorem dX4_know_60 : decode cX4_know 60 = .ok (.aload_n 0, 1) := by decide +kernel
theorem dX4_know_61 : decode cX4_know 61 = .ok (.getfield 33, 3) := by decide +kernel
theorem dX4_know_64 : decode cX4_know 64 = .ok (.bipush 12, 2) := by decide +kernel
theorem dX4_know_66 : decode cX4_know 66 = .ok (.iload_n 1, 1) := by decide +kernel
theorem dX4_know_67 : decode cX4_know 67 = .ok (.imul, 1) := by decide +kernel
theorem dX4_know_68 : decode cX4_know 68 = .ok (.iload_n 2, 1) := by decide +kernel
theorem dX4_know_69 : decode cX4_know 69 = .ok (.iadd, 1) := by decide +kernel
theorem dX4_know_70 : decode cX4_know 70 = .ok (.iaload, 1) := by decide +kernel
theorem dX4_know_71 : decode cX4_know 71 = .ok (.invokevirtual 116, 3) := by decide +kernel
theorem dX4_know_74 : decode cX4_know 74 = .ok (.iinc 2 1, 3) := by decide +kernel
theorem dX4_know_77 : decode cX4_know 77 = .ok (.goto (-29), 3) := by decide +kernel
theorem dX4_know_80 : decode cX4_know 80 = .ok (.iconst 0, 1) := by decide +kernel
theorem dX4_know_81 : decode cX4_know 81 = .ok (.istore_n 2, 1) := by decide +kernel
theorem dX4_know_82 : decode cX4_know 82 = .ok (.iload_n 2, 1) := by decide +kernel
theorem dX4_know_83 : decode cX4_know 83 = .ok (.aload_n 0, 1) := by decide +kernel
theorem dX4_know_84 : decode cX4_know 84 = .ok (.getfield 16, 3) := by decide +kernel
theorem dX4_know_87 : decode cX4_know 87 = .ok (.if_icmp .ge 34, 3) := by decide +kernel
theorem dX4_know_90 : decode cX4_know 90 = .ok (.aload_n 0, 1) := by decide +kernel
theorem dX4_know_91 : decode cX4_know 91 = .ok (.getfield 43, 3) := by decide +kernel
theorem dX4_know_94 : decode cX4_know 94 = .ok (.iload_n 2, 1) := by decide +kernel
theorem dX4_know_95 : decode cX4_know 95 = .ok (.iaload, 1) := by decide +kernel
theorem dX4_know_96 : decode cX4_know 96 = .ok (.iload_n 1, 1) := by decide +kernel
theorem dX4_know_97 : decode cX4_know 97 = .ok (.ishr, 1) := by decide +kernel
theorem dX4_know_98 : decode cX4_know 98 = .ok (.iconst 1, 1) := by decide +kernel
theorem dX4_know_99 : decode cX4_know 99 = .ok (.iand, 1) := by decide +kernel
theorem dX4_know_100 : decode cX4_know 100 = .ok (.iconst 1, 1) := by decide +kernel
theorem dX4_know_101 : decode cX4_know 101 = .ok (.if_icmp .ne 14, 3) := by decide +kernel
theorem dX4_know_104 : decode cX4_know 104 = .ok (.aload_n 0, 1) := by decide +kernel
theorem dX4_know_105 : decode cX4_know 105 = .ok (.iload_n 1, 1) := by decide +kernel
theorem dX4_know_106 : decode cX4_know 106 = .ok (.aload_n 0, 1) := by decide +kernel
theorem dX4_know_107 : decode cX4_know 107 = .ok (.getfield 40, 3) := by decide +kernel
theorem dX4_know_110 : decode cX4_know 110 = .ok (.iload_n 2, 1) := by decide +kernel
theorem dX4_know_111 : decode cX4_know 111 = .ok (.iaload, 1) := by decide +kernel
theorem dX4_know_112 : decode cX4_know 112 = .ok (.invokevirtual 116, 3) := by decide +kernel
theorem dX4_know_115 : decode cX4_know 115 = .ok (.iinc 2 1, 3) := by decide +kernel
theorem dX4_know_118 : decode cX4_know 118 = .ok (.goto (-36), 3) := by decide +kernel
theorem dX4_know_121 : decode cX4_know 121 = .ok (.return_, 1) := by decide +kernel
theorem dX4_knowAll_0 : decode cX4_knowAll 0 = .ok (.iconst 0, 1) := by decide +kernel
theorem dX4_knowAll_1 : decode cX4_knowAll 1 = .ok (.istore_n 1, 1) := by decide +kernel
theorem dX4_knowAll_2 : decode cX4_knowAll 2 = .ok (.iload_n 1, 1) := by decide +kernel
theorem dX4_knowAll_3 : decode cX4_knowAll 3 = .ok (.aload_n 0, 1) := by decide +kernel
theorem dX4_knowAll_4 : decode cX4_knowAll 4 = .ok (.getfield 13, 3) := by decide +kernel
theorem dX4_knowAll_7 : decode cX4_knowAll 7 = .ok (.if_icmp .ge 14, 3) := by decide +kernel
theorem dX4_knowAll_10 : decode cX4_knowAll 10 = .ok (.aload_n 0, 1) := by decide +kernel
theorem dX4_knowAll_11 : decode cX4_knowAll 11 = .ok (.iload_n 1, 1) := by decide +kernel
theorem dX4_knowAll_12 : decode cX4_knowAll 12 = .ok (.invokevirtual 120, 3) := by decide +kernel
theorem dX4_knowAll_15 : decode cX4_knowAll 15 = .ok (.iinc 1 1, 3) := by decide +kernel
theorem dX4_knowAll_18 : decode cX4_knowAll 18 = .ok (.goto (-16), 3) := by decide +kernel
theorem dX4_knowAll_21 : decode cX4_knowAll 21 = .ok (.return_, 1) := by decide +kernel
theorem dX4_isOut_0 : decode cX4_isOut 0 = .ok (.aload_n 0, 1) := by decide +kernel
theorem dX4_isOut_1 : decode cX4_isOut 1 = .ok (.getfield 58, 3) := by decide +kernel
theorem dX4_isOut_4 : decode cX4_isOut 4 = .ok (.sipush 1024, 3) := by decide +kernel
theorem dX4_isOut_7 : decode cX4_isOut 7 = .ok (.iload_n 1, 1) := by decide +kernel
theorem dX4_isOut_8 : decode cX4_isOut 8 = .ok (.imul, 1) := by decide +kernel
theorem dX4_isOut_9 : decode cX4_isOut 9 = .ok (.iload_n 2, 1) := by decide +kernel
theorem dX4_isOut_10 : decode cX4_isOut 10 = .ok (.iadd, 1) := by decide +kernel
theorem dX4_isOut_11 : decode cX4_isOut 11 = .ok (.baload, 1) := by decide +kernel
theorem dX4_isOut_12 : decode cX4_isOut 12 = .ok (.ireturn, 1) := by decide +kernel
theorem dX4_isServed_0 : decode cX4_isServed 0 = .ok (.iconst 0, 1) := by decide +kernel
theorem dX4_isServed_1 : decode cX4_isServed 1 = .ok (.istore_n 3, 1) := by decide +kernel
theorem dX4_isServed_2 : decode cX4_isServed 2 = .ok (.iconst 0, 1) := by decide +kernel
theorem dX4_isServed_3 : decode cX4_isServed 3 = .ok (.istore 4, 2) := by decide +kernel
theorem dX4_isServed_5 : decode cX4_isServed 5 = .ok (.iload 4, 2) := by decide +kernel
theorem dX4_isServed_7 : decode cX4_isServed 7 = .ok (.aload_n 0, 1) := by decide +kernel
theorem dX4_isServed_8 : decode cX4_isServed 8 = .ok (.getfield 30, 3) := by decide +kernel
theorem dX4_isServed_11 : decode cX4_isServed 11 = .ok (.iload_n 1, 1) := by decide +kernel
theorem dX4_isServed_12 : decode cX4_isServed 12 = .ok (.iaload, 1) := by decide +kernel
theorem dX4_isServed_13 : decode cX4_isServed 13 = .ok (.if_icmp .ge 43, 3) := by decide +kernel
theorem dX4_isServed_16 : decode cX4_isServed 16 = .ok (.aload_n 0, 1) := by decide +kernel
theorem dX4_isServed_17 : decode cX4_isServed 17 = .ok (.aload_n 0, 1) := by decide +kernel
theorem dX4_isServed_18 : decode cX4_isServed 18 = .ok (.getfield 33, 3) := by decide +kernel
theorem dX4_isServed_21 : decode cX4_isServed 21 = .ok (.bipush 12, 2) := by decide +kernel
theorem dX4_isServed_23 : decode cX4_isServed 23 = .ok (.iload_n 1, 1) := by decide +kernel
theorem dX4_isServed_24 : decode cX4_isServed 24 = .ok (.imul, 1) := by decide +kernel
theorem dX4_isServed_25 : decode cX4_isServed 25 = .ok (.iload 4, 2) := by decide +kernel
theorem dX4_isServed_27 : decode cX4_isServed 27 = .ok (.iadd, 1) := by decide +kernel
theorem dX4_isServed_28 : decode cX4_isServed 28 = .ok (.iaload, 1) := by decide +kernel
theorem dX4_isServed_29 : decode cX4_isServed 29 = .ok (.invokevirtual 98, 3) := by decide +kernel
theorem dX4_isServed_32 : decode cX4_isServed 32 = .ok (.ifCond .eq 18, 3) := by decide +kernel
theorem dX4_isServed_35 : decode cX4_isServed 35 = .ok (.iload_n 3, 1) := by decide +kernel
theorem dX4_isServed_36 : decode cX4_isServed 36 = .ok (.aload_n 0, 1) := by decide +kernel
theorem dX4_isServed_37 : decode cX4_isServed 37 = .ok (.getfield 33, 3) := by decide +kernel
theorem dX4_isServed_40 : decode cX4_isServed 40 = .ok (.bipush 12, 2) := by decide +kernel
theorem dX4_isServed_42 : decode cX4_isServed 42 = .ok (.iload_n 1, 1) := by decide +kernel
theorem dX4_isServed_43 : decode cX4_isServed 43 = .ok (.imul, 1) := by decide +kernel
theorem dX4_isServed_44 : decode cX4_isServed 44 = .ok (.iload 4, 2) := by decide +kernel
theorem dX4_isServed_46 : decode cX4_isServed 46 = .ok (.iadd, 1) := by decide +kernel
theorem dX4_isServed_47 : decode cX4_isServed 47 = .ok (.iaload, 1) := by decide +kernel
theorem dX4_isServed_48 : decode cX4_isServed 48 = .ok (.ior, 1) := by decide +kernel
theorem dX4_isServed_49 : decode cX4_isServed 49 = .ok (.istore_n 3, 1) := by decide +kernel
theorem dX4_isServed_50 : decode cX4_isServed 50 = .ok (.iinc 4 1, 3) := by decide +kernel
theorem dX4_isServed_53 : decode cX4_isServed 53 = .ok (.goto (-48), 3) := by decide +kernel
theorem dX4_isServed_56 : decode cX4_isServed 56 = .ok (.aload_n 0, 1) := by decide +kernel
theorem dX4_isServed_57 : decode cX4_isServed 57 = .ok (.getfield 23, 3) := by decide +kernel
theorem dX4_isServed_60 : decode cX4_isServed 60 = .ok (.iload_n 1, 1) := by decide +kernel
theorem dX4_isServed_61 : decode cX4_isServed 61 = .ok (.iaload, 1) := by decide +kernel
theorem dX4_isServed_62 : decode cX4_isServed 62 = .ok (.iconst 2, 1) := by decide +kernel
theorem dX4_isServed_63 : decode cX4_isServed 63 = .ok (.if_icmp .ne 17, 3) := by decide +kernel
theorem dX4_isServed_66 : decode cX4_isServed 66 = .ok (.iload_n 3, 1) := by decide +kernel
theorem dX4_isServed_67 : decode cX4_isServed 67 = .ok (.iconst 1, 1) := by decide +kernel
theorem dX4_isServed_68 : decode cX4_isServed 68 = .ok (.aload_n 0, 1) := by decide +kernel
theorem dX4_isServed_69 : decode cX4_isServed 69 = .ok (.getfield 7, 3) := by decide +kernel
theorem dX4_isServed_72 : decode cX4_isServed 72 = .ok (.ishl, 1) := by decide +kernel
theorem dX4_isServed_73 : decode cX4_isServed 73 = .ok (.iconst 1, 1) := by decide +kernel
theorem dX4_isServed_74 : decode cX4_isServed 74 = .ok (.isub, 1) := by decide +kernel
theorem dX4_isServed_75 : decode cX4_isServed 75 = .ok (.if_icmp .ne 5, 3) := by decide +kernel
theorem dX4_isServed_78 : decode cX4_isServed 78 = .ok (.iconst 1, 1) := by decide +kernel
theorem dX4_isServed_79 : decode cX4_isServed 79 = .ok (.ireturn, 1) := by decide +kernel
theorem dX4_isServed_80 : decode cX4_isServed 80 = .ok (.iconst 1, 1) := by decide +kernel
theorem dX4_isServed_81 : decode cX4_isServed 81 = .ok (.istore 4, 2) := by decide +kernel
theorem dX4_isServed_83 : decode cX4_isServed 83 = .ok (.iconst 0, 1) := by decide +kernel
theorem dX4_isServed_84 : decode cX4_isServed 84 = .ok (.istore 5, 2) := by decide +kernel
theorem dX4_isServed_86 : decode cX4_isServed 86 = .ok (.iconst 0, 1) := by decide +kernel
theorem dX4_isServed_87 : decode cX4_isServed 87 = .ok (.istore 6, 2) := by decide +kernel
theorem dX4_isServed_89 : decode cX4_isServed 89 = .ok (.iload 6, 2) := by decide +kernel
theorem dX4_isServed_91 : decode cX4_isServed 91 = .ok (.aload_n 0, 1) := by decide +kernel
theorem dX4_isServed_92 : decode cX4_isServed 92 = .ok (.getfield 7, 3) := by decide +kernel
theorem dX4_isServed_95 : decode cX4_isServed 95 = .ok (.if_icmp .ge 99, 3) := by decide +kernel
theorem dX4_isServed_98 : decode cX4_isServed 98 = .ok (.aload_n 0, 1) := by decide +kernel
theorem dX4_isServed_99 : decode cX4_isServed 99 = .ok (.iload_n 1, 1) := by decide +kernel
theorem dX4_isServed_100 : decode cX4_isServed 100 = .ok (.iconst 1, 1) := by decide +kernel
theorem dX4_isServed_101 : decode cX4_isServed 101 = .ok (.iload 6, 2) := by decide +kernel
theorem dX4_isServed_103 : decode cX4_isServed 103 = .ok (.ishl, 1) := by decide +kernel
theorem dX4_isServed_104 : decode cX4_isServed 104 = .ok (.invokevirtual 124, 3) := by decide +kernel
theorem dX4_isServed_107 : decode cX4_isServed 107 = .ok (.ifCond .ne 17, 3) := by decide +kernel
theorem dX4_isServed_110 : decode cX4_isServed 110 = .ok (.aload_n 0, 1) := by decide +kernel
theorem dX4_isServed_111 : decode cX4_isServed 111 = .ok (.iload_n 1, 1) := by decide +kernel
theorem dX4_isServed_112 : decode cX4_isServed 112 = .ok (.iconst 1, 1) := by decide +kernel
theorem dX4_isServed_113 : decode cX4_isServed 113 = .ok (.iload 6, 2) := by decide +kernel
theorem dX4_isServed_115 : decode cX4_isServed 115 = .ok (.ishl, 1) := by decide +kernel
theorem dX4_isServed_116 : decode cX4_isServed 116 = .ok (.iload_n 2, 1) := by decide +kernel
theorem dX4_isServed_117 : decode cX4_isServed 117 = .ok (.ixor, 1) := by decide +kernel
theorem dX4_isServed_118 : decode cX4_isServed 118 = .ok (.invokevirtual 124, 3) := by decide +kernel
theorem dX4_isServed_121 : decode cX4_isServed 121 = .ok (.ifCond .eq 7, 3) := by decide +kernel
theorem dX4_isServed_124 : decode cX4_isServed 124 = .ok (.iconst 1, 1) := by decide +kernel
theorem dX4_isServed_125 : decode cX4_isServed 125 = .ok (.goto 4, 3) := by decide +kernel
theorem dX4_isServed_128 : decode cX4_isServed 128 = .ok (.iconst 0, 1) := by decide +kernel
theorem dX4_isServed_129 : decode cX4_isServed 129 = .ok (.istore 7, 2) := by decide +kernel
theorem dX4_isServed_131 : decode cX4_isServed 131 = .ok (.iload 5, 2) := by decide +kernel
theorem dX4_isServed_133 : decode cX4_isServed 133 = .ok (.ifCond .ne 17, 3) := by decide +kernel
theorem dX4_isServed_136 : decode cX4_isServed 136 = .ok (.iload 7, 2) := by decide +kernel
theorem dX4_isServed_138 : decode cX4_isServed 138 = .ok (.ifCond .eq 16, 3) := by decide +kernel
theorem dX4_isServed_141 : decode cX4_isServed 141 = .ok (.iload_n 3, 1) := by decide +kernel
theorem dX4_isServed_142 : decode cX4_isServed 142 = .ok (.iload 6, 2) := by decide +kernel
theorem dX4_isServed_144 : decode cX4_isServed 144 = .ok (.ishr, 1) := by decide +kernel
theorem dX4_isServed_145 : decode cX4_isServed 145 = .ok (.iconst 1, 1) := by decide +kernel
theorem dX4_isServed_146 : decode cX4_isServed 146 = .ok (.iand, 1) := by decide +kernel
theorem dX4_isServed_147 : decode cX4_isServed 147 = .ok (.ifCond .ne 7, 3) := by decide +kernel
theorem dX4_isServed_150 : decode cX4_isServed 150 = .ok (.iconst 1, 1) := by decide +kernel
theorem dX4_isServed_151 : decode cX4_isServed 151 = .ok (.goto 4, 3) := by decide +kernel
theorem dX4_isServed_154 : decode cX4_isServed 154 = .ok (.iconst 0, 1) := by decide +kernel
theorem dX4_isServed_155 : decode cX4_isServed 155 = .ok (.istore 5, 2) := by decide +kernel
theorem dX4_isServed_157 : decode cX4_isServed 157 = .ok (.iload 4, 2) := by decide +kernel
theorem dX4_isServed_159 : decode cX4_isServed 159 = .ok (.ifCond .eq 26, 3) := by decide +kernel
theorem dX4_isServed_162 : decode cX4_isServed 162 = .ok (.iload 7, 2) := by decide +kernel
theorem dX4_isServed_164 : decode cX4_isServed 164 = .ok (.ifCond .ne 17, 3) := by decide +kernel
theorem dX4_isServed_167 : decode cX4_isServed 167 = .ok (.aload_n 0, 1) := by decide +kernel
theorem dX4_isServed_168 : decode cX4_isServed 168 = .ok (.getfield 27, 3) := by decide +kernel
theorem dX4_isServed_171 : decode cX4_isServed 171 = .ok (.iload_n 1, 1) := by decide +kernel
theorem dX4_isServed_172 : decode cX4_isServed 172 = .ok (.iaload, 1) := by decide +kernel
theorem dX4_isServed_173 : decode cX4_isServed 173 = .ok (.iload 6, 2) := by decide +kernel
theorem dX4_isServed_175 : decode cX4_isServed 175 = .ok (.ishr, 1) := by decide +kernel
theorem dX4_isServed_176 : decode cX4_isServed 176 = .ok (.iconst 1, 1) := by decide +kernel
theorem dX4_isServed_177 : decode cX4_isServed 177 = .ok (.iand, 1) := by decide +kernel
theorem dX4_isServed_178 : decode cX4_isServed 178 = .ok (.ifCond .ne 7, 3) := by decide +kernel
theorem dX4_isServed_181 : decode cX4_isServed 181 = .ok (.iconst 1, 1) := by decide +kernel
theorem dX4_isServed_182 : decode cX4_isServed 182 = .ok (.goto 4, 3) := by decide +kernel
theorem dX4_isServed_185 : decode cX4_isServed 185 = .ok (.iconst 0, 1) := by decide +kernel
theorem dX4_isServed_186 : decode cX4_isServed 186 = .ok (.istore 4, 2) := by decide +kernel
theorem dX4_isServed_188 : decode cX4_isServed 188 = .ok (.iinc 6 1, 3) := by decide +kernel
theorem dX4_isServed_191 : decode cX4_isServed 191 = .ok (.goto (-102), 3) := by decide +kernel
theorem dX4_isServed_194 : decode cX4_isServed 194 = .ok (.aload_n 0, 1) := by decide +kernel
theorem dX4_isServed_195 : decode cX4_isServed 195 = .ok (.getfield 23, 3) := by decide +kernel
theorem dX4_isServed_198 : decode cX4_isServed 198 = .ok (.iload_n 1, 1) := by decide +kernel
theorem dX4_isServed_199 : decode cX4_isServed 199 = .ok (.iaload, 1) := by decide +kernel
theorem dX4_isServed_200 : decode cX4_isServed 200 = .ok (.iconst 2, 1) := by decide +kernel
theorem dX4_isServed_201 : decode cX4_isServed 201 = .ok (.if_icmp .ne 8, 3) := by decide +kernel
theorem dX4_isServed_204 : decode cX4_isServed 204 = .ok (.iload 5, 2) := by decide +kernel
theorem dX4_isServed_206 : decode cX4_isServed 206 = .ok (.goto 5, 3) := by decide +kernel
theorem dX4_isServed_209 : decode cX4_isServed 209 = .ok (.iload 4, 2) := by decide +kernel
theorem dX4_isServed_211 : decode cX4_isServed 211 = .ok (.ireturn, 1) := by decide +kernel
theorem dX4_call_0 : decode cX4_call 0 = .ok (.aload_n 0, 1) := by decide +kernel
theorem dX4_call_1 : decode cX4_call 1 = .ok (.iload_n 1, 1) := by decide +kernel
theorem dX4_call_2 : decode cX4_call 2 = .ok (.invokevirtual 109, 3) := by decide +kernel
theorem dX4_call_5 : decode cX4_call 5 = .ok (.ifCond .ne 5, 3) := by decide +kernel
theorem dX4_call_8 : decode cX4_call 8 = .ok (.iconst (-1), 1) := by decide +kernel
theorem dX4_call_9 : decode cX4_call 9 = .ok (.ireturn, 1) := by decide +kernel
theorem dX4_call_10 : decode cX4_call 10 = .ok (.iconst 0, 1) := by decide +kernel
theorem dX4_call_11 : decode cX4_call 11 = .ok (.istore_n 3, 1) := by decide +kernel
theorem dX4_call_12 : decode cX4_call 12 = .ok (.iload_n 2, 1) := by decide +kernel
theorem dX4_call_13 : decode cX4_call 13 = .ok (.tableswitch 121 0 2 #[27, 34, 68], 27) := by decide +kernel
theorem dX4_call_40 : decode cX4_call 40 = .ok (.aload_n 0, 1) := by decide +kernel
theorem dX4_call_41 : decode cX4_call 41 = .ok (.getfield 40, 3) := by decide +kernel
theorem dX4_call_44 : decode cX4_call 44 = .ok (.iload_n 1, 1) := by decide +kernel
theorem dX4_call_45 : decode cX4_call 45 = .ok (.iaload, 1) := by decide +kernel
theorem dX4_call_46 : decode cX4_call 46 = .ok (.ireturn, 1) := by decide +kernel
theorem dX4_call_47 : decode cX4_call 47 = .ok (.iconst 0, 1) := by decide +kernel
theorem dX4_call_48 : decode cX4_call 48 = .ok (.istore 4, 2) := by decide +kernel
theorem dX4_call_50 : decode cX4_call 50 = .ok (.iload 4, 2) := by decide +kernel
theorem dX4_call_52 : decode cX4_call 52 = .ok (.aload_n 0, 1) := by decide +kernel
theorem dX4_call_53 : decode cX4_call 53 = .ok (.getfield 13, 3) := by decide +kernel
theorem dX4_call_56 : decode cX4_call 56 = .ok (.if_icmp .ge 23, 3) := by decide +kernel
theorem dX4_call_59 : decode cX4_call 59 = .ok (.iload_n 3, 1) := by decide +kernel
theorem dX4_call_60 : decode cX4_call 60 = .ok (.aload_n 0, 1) := by decide +kernel
theorem dX4_call_61 : decode cX4_call 61 = .ok (.getfield 43, 3) := by decide +kernel
theorem dX4_call_64 : decode cX4_call 64 = .ok (.iload_n 1, 1) := by decide +kernel
theorem dX4_call_65 : decode cX4_call 65 = .ok (.iaload, 1) := by decide +kernel
theorem dX4_call_66 : decode cX4_call 66 = .ok (.iload 4, 2) := by decide +kernel
theorem dX4_call_68 : decode cX4_call 68 = .ok (.ishr, 1) := by decide +kernel
theorem dX4_call_69 : decode cX4_call 69 = .ok (.iconst 1, 1) := by decide +kernel
theorem dX4_call_70 : decode cX4_call 70 = .ok (.iand, 1) := by decide +kernel
theorem dX4_call_71 : decode cX4_call 71 = .ok (.iadd, 1) := by decide +kernel
theorem dX4_call_72 : decode cX4_call 72 = .ok (.istore_n 3, 1) := by decide +kernel
theorem dX4_call_73 : decode cX4_call 73 = .ok (.iinc 4 1, 3) := by decide +kernel
theorem dX4_call_76 : decode cX4_call 76 = .ok (.goto (-26), 3) := by decide +kernel
theorem dX4_call_79 : decode cX4_call 79 = .ok (.iload_n 3, 1) := by decide +kernel
theorem dX4_call_80 : decode cX4_call 80 = .ok (.ireturn, 1) := by decide +kernel
theorem dX4_call_81 : decode cX4_call 81 = .ok (.iconst 0, 1) := by decide +kernel
theorem dX4_call_82 : decode cX4_call 82 = .ok (.istore 4, 2) := by decide +kernel
theorem dX4_call_84 : decode cX4_call 84 = .ok (.iload 4, 2) := by decide +kernel
theorem dX4_call_86 : decode cX4_call 86 = .ok (.aload_n 0, 1) := by decide +kernel
theorem dX4_call_87 : decode cX4_call 87 = .ok (.getfield 13, 3) := by decide +kernel
theorem dX4_call_90 : decode cX4_call 90 = .ok (.if_icmp .ge 42, 3) := by decide +kernel
theorem dX4_call_93 : decode cX4_call 93 = .ok (.iload_n 3, 1) := by decide +kernel
theorem dX4_call_94 : decode cX4_call 94 = .ok (.aload_n 0, 1) := by decide +kernel
theorem dX4_call_95 : decode cX4_call 95 = .ok (.getfield 43, 3) := by decide +kernel
theorem dX4_call_98 : decode cX4_call 98 = .ok (.iload_n 1, 1) := by decide +kernel
theorem dX4_call_99 : decode cX4_call 99 = .ok (.iaload, 1) := by decide +kernel
theorem dX4_call_100 : decode cX4_call 100 = .ok (.iload 4, 2) := by decide +kernel
theorem dX4_call_102 : decode cX4_call 102 = .ok (.ishr, 1) := by decide +kernel
theorem dX4_call_103 : decode cX4_call 103 = .ok (.iconst 1, 1) := by decide +kernel
theorem dX4_call_104 : decode cX4_call 104 = .ok (.iand, 1) := by decide +kernel
theorem dX4_call_105 : decode cX4_call 105 = .ok (.iconst 1, 1) := by decide +kernel
theorem dX4_call_106 : decode cX4_call 106 = .ok (.if_icmp .ne 17, 3) := by decide +kernel
theorem dX4_call_109 : decode cX4_call 109 = .ok (.aload_n 0, 1) := by decide +kernel
theorem dX4_call_110 : decode cX4_call 110 = .ok (.iload 4, 2) := by decide +kernel
theorem dX4_call_112 : decode cX4_call 112 = .ok (.iload_n 1, 1) := by decide +kernel
theorem dX4_call_113 : decode cX4_call 113 = .ok (.invokevirtual 127, 3) := by decide +kernel
theorem dX4_call_116 : decode cX4_call 116 = .ok (.ifCond .eq 7, 3) := by decide +kernel
theorem dX4_call_119 : decode cX4_call 119 = .ok (.iconst 1, 1) := by decide +kernel
theorem dX4_call_120 : decode cX4_call 120 = .ok (.goto 4, 3) := by decide +kernel
theorem dX4_call_123 : decode cX4_call 123 = .ok (.iconst 0, 1) := by decide +kernel
theorem dX4_call_124 : decode cX4_call 124 = .ok (.iadd, 1) := by decide +kernel
theorem dX4_call_125 : decode cX4_call 125 = .ok (.istore_n 3, 1) := by decide +kernel
theorem dX4_call_126 : decode cX4_call 126 = .ok (.iinc 4 1, 3) := by decide +kernel
theorem dX4_call_129 : decode cX4_call 129 = .ok (.goto (-45), 3) := by decide +kernel
theorem dX4_call_132 : decode cX4_call 132 = .ok (.iload_n 3, 1) := by decide +kernel
theorem dX4_call_133 : decode cX4_call 133 = .ok (.ireturn, 1) := by decide +kernel
theorem dX4_call_134 : decode cX4_call 134 = .ok (.iconst (-1), 1) := by decide +kernel
theorem dX4_call_135 : decode cX4_call 135 = .ok (.ireturn, 1) := by decide +kernel
theorem dX4_isNewFor_0 : decode cX4_isNewFor 0 = .ok (.aload_n 0, 1) := by decide +kernel
theorem dX4_isNewFor_1 : decode cX4_isNewFor 1 = .ok (.iload_n 1, 1) := by decide +kernel
theorem dX4_isNewFor_2 : decode cX4_isNewFor 2 = .ok (.invokevirtual 120, 3) := by decide +kernel
theorem dX4_isNewFor_5 : decode cX4_isNewFor 5 = .ok (.aload_n 0, 1) := by decide +kernel
theorem dX4_isNewFor_6 : decode cX4_isNewFor 6 = .ok (.getfield 30, 3) := by decide +kernel
theorem dX4_isNewFor_9 : decode cX4_isNewFor 9 = .ok (.iload_n 1, 1) := by decide +kernel
theorem dX4_isNewFor_10 : decode cX4_isNewFor 10 = .ok (.iaload, 1) := by decide +kernel
theorem dX4_isNewFor_11 : decode cX4_isNewFor 11 = .ok (.istore_n 3, 1) := by decide +kernel
theorem dX4_isNewFor_12 : decode cX4_isNewFor 12 = .ok (.iconst 0, 1) := by decide +kernel
theorem dX4_isNewFor_13 : decode cX4_isNewFor 13 = .ok (.istore 4, 2) := by decide +kernel
theorem dX4_isNewFor_15 : decode cX4_isNewFor 15 = .ok (.iload 4, 2) := by decide +kernel
theorem dX4_isNewFor_17 : decode cX4_isNewFor 17 = .ok (.iload_n 2, 1) := by decide +kernel
theorem dX4_isNewFor_18 : decode cX4_isNewFor 18 = .ok (.if_icmp .ge 23, 3) := by decide +kernel
theorem dX4_isNewFor_21 : decode cX4_isNewFor 21 = .ok (.iload_n 3, 1) := by decide +kernel
theorem dX4_isNewFor_22 : decode cX4_isNewFor 22 = .ok (.aload_n 0, 1) := by decide +kernel
theorem dX4_isNewFor_23 : decode cX4_isNewFor 23 = .ok (.getfield 43, 3) := by decide +kernel
theorem dX4_isNewFor_26 : decode cX4_isNewFor 26 = .ok (.iload 4, 2) := by decide +kernel
theorem dX4_isNewFor_28 : decode cX4_isNewFor 28 = .ok (.iaload, 1) := by decide +kernel
theorem dX4_isNewFor_29 : decode cX4_isNewFor 29 = .ok (.iload_n 1, 1) := by decide +kernel
theorem dX4_isNewFor_30 : decode cX4_isNewFor 30 = .ok (.ishr, 1) := by decide +kernel
theorem dX4_isNewFor_31 : decode cX4_isNewFor 31 = .ok (.iconst 1, 1) := by decide +kernel
theorem dX4_isNewFor_32 : decode cX4_isNewFor 32 = .ok (.iand, 1) := by decide +kernel
theorem dX4_isNewFor_33 : decode cX4_isNewFor 33 = .ok (.iadd, 1) := by decide +kernel
theorem dX4_isNewFor_34 : decode cX4_isNewFor 34 = .ok (.istore_n 3, 1) := by decide +kernel
theorem dX4_isNewFor_35 : decode cX4_isNewFor 35 = .ok (.iinc 4 1, 3) := by decide +kernel
theorem dX4_isNewFor_38 : decode cX4_isNewFor 38 = .ok (.goto (-23), 3) := by decide +kernel
theorem dX4_isNewFor_41 : decode cX4_isNewFor 41 = .ok (.aload_n 0, 1) := by decide +kernel
theorem dX4_isNewFor_42 : decode cX4_isNewFor 42 = .ok (.getfield 49, 3) := by decide +kernel
theorem dX4_isNewFor_45 : decode cX4_isNewFor 45 = .ok (.iload_n 3, 1) := by decide +kernel
theorem dX4_isNewFor_46 : decode cX4_isNewFor 46 = .ok (.baload, 1) := by decide +kernel
theorem dX4_isNewFor_47 : decode cX4_isNewFor 47 = .ok (.ireturn, 1) := by decide +kernel
theorem dX4_about_0 : decode cX4_about 0 = .ok (.aload_n 0, 1) := by decide +kernel
theorem dX4_about_1 : decode cX4_about 1 = .ok (.iload_n 1, 1) := by decide +kernel
theorem dX4_about_2 : decode cX4_about 2 = .ok (.invokevirtual 92, 3) := by decide +kernel
theorem dX4_about_5 : decode cX4_about 5 = .ok (.ifCond .ne 5, 3) := by decide +kernel
theorem dX4_about_8 : decode cX4_about 8 = .ok (.iconst (-1), 1) := by decide +kernel
theorem dX4_about_9 : decode cX4_about 9 = .ok (.ireturn, 1) := by decide +kernel
theorem dX4_about_10 : decode cX4_about 10 = .ok (.aload_n 0, 1) := by decide +kernel
theorem dX4_about_11 : decode cX4_about 11 = .ok (.iload_n 1, 1) := by decide +kernel
theorem dX4_about_12 : decode cX4_about 12 = .ok (.invokevirtual 120, 3) := by decide +kernel
theorem dX4_about_15 : decode cX4_about 15 = .ok (.iload_n 2, 1) := by decide +kernel
theorem dX4_about_16 : decode cX4_about 16 = .ok (.tableswitch 119 0 7 #[48, 55, 62, 67, 72, 82, 89, 104], 48) := by decide +kernel
theorem dX4_about_64 : decode cX4_about 64 = .ok (.aload_n 0, 1) := by decide +kernel
theorem dX4_about_65 : decode cX4_about 65 = .ok (.getfield 23, 3) := by decide +kernel
theorem dX4_about_68 : decode cX4_about 68 = .ok (.iload_n 1, 1) := by decide +kernel
theorem dX4_about_69 : decode cX4_about 69 = .ok (.iaload, 1) := by decide +kernel
theorem dX4_about_70 : decode cX4_about 70 = .ok (.ireturn, 1) := by decide +kernel
theorem dX4_about_71 : decode cX4_about 71 = .ok (.aload_n 0, 1) := by decide +kernel
theorem dX4_about_72 : decode cX4_about 72 = .ok (.getfield 30, 3) := by decide +kernel
theorem dX4_about_75 : decode cX4_about 75 = .ok (.iload_n 1, 1) := by decide +kernel
theorem dX4_about_76 : decode cX4_about 76 = .ok (.iaload, 1) := by decide +kernel
theorem dX4_about_77 : decode cX4_about 77 = .ok (.ireturn, 1) := by decide +kernel
theorem dX4_about_78 : decode cX4_about 78 = .ok (.aload_n 0, 1) := by decide +kernel
theorem dX4_about_79 : decode cX4_about 79 = .ok (.getfield 52, 3) := by decide +kernel
theorem dX4_about_82 : decode cX4_about 82 = .ok (.ireturn, 1) := by decide +kernel
theorem dX4_about_83 : decode cX4_about 83 = .ok (.aload_n 0, 1) := by decide +kernel
theorem dX4_about_84 : decode cX4_about 84 = .ok (.getfield 55, 3) := by decide +kernel
theorem dX4_about_87 : decode cX4_about 87 = .ok (.ireturn, 1) := by decide +kernel
theorem dX4_about_88 : decode cX4_about 88 = .ok (.aload_n 0, 1) := by decide +kernel
theorem dX4_about_89 : decode cX4_about 89 = .ok (.getfield 7, 3) := by decide +kernel
theorem dX4_about_92 : decode cX4_about 92 = .ok (.aload_n 0, 1) := by decide +kernel
theorem dX4_about_93 : decode cX4_about 93 = .ok (.getfield 55, 3) := by decide +kernel
theorem dX4_about_96 : decode cX4_about 96 = .ok (.isub, 1) := by decide +kernel
theorem dX4_about_97 : decode cX4_about 97 = .ok (.ireturn, 1) := by decide +kernel
theorem dX4_about_98 : decode cX4_about 98 = .ok (.aload_n 0, 1) := by decide +kernel
theorem dX4_about_99 : decode cX4_about 99 = .ok (.getfield 27, 3) := by decide +kernel
theorem dX4_about_102 : decode cX4_about 102 = .ok (.iload_n 1, 1) := by decide +kernel
theorem dX4_about_103 : decode cX4_about 103 = .ok (.iaload, 1) := by decide +kernel
theorem dX4_about_104 : decode cX4_about 104 = .ok (.ireturn, 1) := by decide +kernel
theorem dX4_about_105 : decode cX4_about 105 = .ok (.aload_n 0, 1) := by decide +kernel
theorem dX4_about_106 : decode cX4_about 106 = .ok (.iload_n 1, 1) := by decide +kernel
theorem dX4_about_107 : decode cX4_about 107 = .ok (.iconst 0, 1) := by decide +kernel
theorem dX4_about_108 : decode cX4_about 108 = .ok (.invokevirtual 130, 3) := by decide +kernel
theorem dX4_about_111 : decode cX4_about 111 = .ok (.ifCond .eq 7, 3) := by decide +kernel
theorem dX4_about_114 : decode cX4_about 114 = .ok (.iconst 1, 1) := by decide +kernel
theorem dX4_about_115 : decode cX4_about 115 = .ok (.goto 4, 3) := by decide +kernel
theorem dX4_about_118 : decode cX4_about 118 = .ok (.iconst 0, 1) := by decide +kernel
theorem dX4_about_119 : decode cX4_about 119 = .ok (.ireturn, 1) := by decide +kernel
theorem dX4_about_120 : decode cX4_about 120 = .ok (.aload_n 0, 1) := by decide +kernel
theorem dX4_about_121 : decode cX4_about 121 = .ok (.getfield 36, 3) := by decide +kernel
theorem dX4_about_124 : decode cX4_about 124 = .ok (.iload_n 1, 1) := by decide +kernel
theorem dX4_about_125 : decode cX4_about 125 = .ok (.baload, 1) := by decide +kernel
theorem dX4_about_126 : decode cX4_about 126 = .ok (.ifCond .eq 7, 3) := by decide +kernel
theorem dX4_about_129 : decode cX4_about 129 = .ok (.iconst 1, 1) := by decide +kernel
theorem dX4_about_130 : decode cX4_about 130 = .ok (.goto 4, 3) := by decide +kernel
theorem dX4_about_133 : decode cX4_about 133 = .ok (.iconst 0, 1) := by decide +kernel
theorem dX4_about_134 : decode cX4_about 134 = .ok (.ireturn, 1) := by decide +kernel
theorem dX4_about_135 : decode cX4_about 135 = .ok (.iconst (-1), 1) := by decide +kernel
theorem dX4_about_136 : decode cX4_about 136 = .ok (.ireturn, 1) := by decide +kernel
theorem dX4_rowOf_0 : decode cX4_rowOf 0 = .ok (.aload_n 0, 1) := by decide +kernel
theorem dX4_rowOf_1 : decode cX4_rowOf 1 = .ok (.iload_n 1, 1) := by decide +kernel
theorem dX4_rowOf_2 : decode cX4_rowOf 2 = .ok (.invokevirtual 92, 3) := by decide +kernel
theorem dX4_rowOf_5 : decode cX4_rowOf 5 = .ok (.ifCond .ne 5, 3) := by decide +kernel
theorem dX4_rowOf_8 : decode cX4_rowOf 8 = .ok (.iconst (-1), 1) := by decide +kernel
theorem dX4_rowOf_9 : decode cX4_rowOf 9 = .ok (.ireturn, 1) := by decide +kernel
theorem dX4_rowOf_10 : decode cX4_rowOf 10 = .ok (.aload_n 0, 1) := by decide +kernel
theorem dX4_rowOf_11 : decode cX4_rowOf 11 = .ok (.iload_n 1, 1) := by decide +kernel
theorem dX4_rowOf_12 : decode cX4_rowOf 12 = .ok (.invokevirtual 120, 3) := by decide +kernel
theorem dX4_rowOf_15 : decode cX4_rowOf 15 = .ok (.iload_n 2, 1) := by decide +kernel
theorem dX4_rowOf_16 : decode cX4_rowOf 16 = .ok (.ifCond .lt 11, 3) := by decide +kernel
theorem dX4_rowOf_19 : decode cX4_rowOf 19 = .ok (.iload_n 2, 1) := by decide +kernel
theorem dX4_rowOf_20 : decode cX4_rowOf 20 = .ok (.aload_n 0, 1) := by decide +kernel
theorem dX4_rowOf_21 : decode cX4_rowOf 21 = .ok (.getfield 52, 3) := by decide +kernel
theorem dX4_rowOf_24 : decode cX4_rowOf 24 = .ok (.if_icmp .lt 7, 3) := by decide +kernel
theorem dX4_rowOf_27 : decode cX4_rowOf 27 = .ok (.iconst (-1), 1) := by decide +kernel
theorem dX4_rowOf_28 : decode cX4_rowOf 28 = .ok (.goto 9, 3) := by decide +kernel
theorem dX4_rowOf_31 : decode cX4_rowOf 31 = .ok (.aload_n 0, 1) := by decide +kernel
theorem dX4_rowOf_32 : decode cX4_rowOf 32 = .ok (.getfield 46, 3) := by decide +kernel
theorem dX4_rowOf_35 : decode cX4_rowOf 35 = .ok (.iload_n 2, 1) := by decide +kernel
theorem dX4_rowOf_36 : decode cX4_rowOf 36 = .ok (.iaload, 1) := by decide +kernel
theorem dX4_rowOf_37 : decode cX4_rowOf 37 = .ok (.ireturn, 1) := by decide +kernel
theorem dX4_solve_0 : decode cX4_solve 0 = .ok (.aload_n 0, 1) := by decide +kernel
theorem dX4_solve_1 : decode cX4_solve 1 = .ok (.iload_n 1, 1) := by decide +kernel
theorem dX4_solve_2 : decode cX4_solve 2 = .ok (.invokevirtual 92, 3) := by decide +kernel
theorem dX4_solve_5 : decode cX4_solve 5 = .ok (.ifCond .eq 11, 3) := by decide +kernel
theorem dX4_solve_8 : decode cX4_solve 8 = .ok (.aload_n 0, 1) := by decide +kernel
theorem dX4_solve_9 : decode cX4_solve 9 = .ok (.iload_n 2, 1) := by decide +kernel
theorem dX4_solve_10 : decode cX4_solve 10 = .ok (.invokevirtual 88, 3) := by decide +kernel
theorem dX4_solve_13 : decode cX4_solve 13 = .ok (.ifCond .ne 5, 3) := by decide +kernel
theorem dX4_solve_16 : decode cX4_solve 16 = .ok (.iconst (-1), 1) := by decide +kernel
theorem dX4_solve_17 : decode cX4_solve 17 = .ok (.ireturn, 1) := by decide +kernel
theorem dX4_solve_18 : decode cX4_solve 18 = .ok (.aload_n 0, 1) := by decide +kernel
theorem dX4_solve_19 : decode cX4_solve 19 = .ok (.iload_n 1, 1) := by decide +kernel
theorem dX4_solve_20 : decode cX4_solve 20 = .ok (.invokevirtual 120, 3) := by decide +kernel
theorem dX4_solve_23 : decode cX4_solve 23 = .ok (.aload_n 0, 1) := by decide +kernel
theorem dX4_solve_24 : decode cX4_solve 24 = .ok (.iload_n 1, 1) := by decide +kernel
theorem dX4_solve_25 : decode cX4_solve 25 = .ok (.iconst 1, 1) := by decide +kernel
theorem dX4_solve_26 : decode cX4_solve 26 = .ok (.iload_n 2, 1) := by decide +kernel
theorem dX4_solve_27 : decode cX4_solve 27 = .ok (.ishl, 1) := by decide +kernel
theorem dX4_solve_28 : decode cX4_solve 28 = .ok (.invokevirtual 124, 3) := by decide +kernel
theorem dX4_solve_31 : decode cX4_solve 31 = .ok (.ifCond .eq 7, 3) := by decide +kernel
theorem dX4_solve_34 : decode cX4_solve 34 = .ok (.iconst 1, 1) := by decide +kernel
theorem dX4_solve_35 : decode cX4_solve 35 = .ok (.goto 4, 3) := by decide +kernel
theorem dX4_solve_38 : decode cX4_solve 38 = .ok (.iconst 0, 1) := by decide +kernel
theorem dX4_solve_39 : decode cX4_solve 39 = .ok (.ireturn, 1) := by decide +kernel
theorem dX4_byRows_0 : decode cX4_byRows 0 = .ok (.iconst 0, 1) := by decide +kernel
theorem dX4_byRows_1 : decode cX4_byRows 1 = .ok (.istore_n 2, 1) := by decide +kernel
theorem dX4_byRows_2 : decode cX4_byRows 2 = .ok (.iconst 0, 1) := by decide +kernel
theorem dX4_byRows_3 : decode cX4_byRows 3 = .ok (.istore_n 3, 1) := by decide +kernel
theorem dX4_byRows_4 : decode cX4_byRows 4 = .ok (.iload_n 3, 1) := by decide +kernel
theorem dX4_byRows_5 : decode cX4_byRows 5 = .ok (.aload_n 0, 1) := by decide +kernel
theorem dX4_byRows_6 : decode cX4_byRows 6 = .ok (.getfield 52, 3) := by decide +kernel
theorem dX4_byRows_9 : decode cX4_byRows 9 = .ok (.if_icmp .ge 31, 3) := by decide +kernel
theorem dX4_byRows_12 : decode cX4_byRows 12 = .ok (.aload_n 0, 1) := by decide +kernel
theorem dX4_byRows_13 : decode cX4_byRows 13 = .ok (.getfield 49, 3) := by decide +kernel
theorem dX4_byRows_16 : decode cX4_byRows 16 = .ok (.iload_n 3, 1) := by decide +kernel
theorem dX4_byRows_17 : decode cX4_byRows 17 = .ok (.baload, 1) := by decide +kernel
theorem dX4_byRows_18 : decode cX4_byRows 18 = .ok (.ifCond .ne 6, 3) := by decide +kernel
theorem dX4_byRows_21 : decode cX4_byRows 21 = .ok (.goto 13, 3) := by decide +kernel
theorem dX4_byRows_24 : decode cX4_byRows 24 = .ok (.aload_n 0, 1) := by decide +kernel
theorem dX4_byRows_25 : decode cX4_byRows 25 = .ok (.getfield 64, 3) := by decide +kernel
theorem dX4_byRows_28 : decode cX4_byRows 28 = .ok (.iload_n 2, 1) := by decide +kernel
theorem dX4_byRows_29 : decode cX4_byRows 29 = .ok (.iload_n 3, 1) := by decide +kernel
theorem dX4_byRows_30 : decode cX4_byRows 30 = .ok (.iastore, 1) := by decide +kernel
theorem dX4_byRows_31 : decode cX4_byRows 31 = .ok (.iinc 2 1, 3) := by decide +kernel
theorem dX4_byRows_34 : decode cX4_byRows 34 = .ok (.iinc 3 1, 3) := by decide +kernel
theorem dX4_byRows_37 : decode cX4_byRows 37 = .ok (.goto (-33), 3) := by decide +kernel
theorem dX4_byRows_40 : decode cX4_byRows 40 = .ok (.iconst 0, 1) := by decide +kernel
theorem dX4_byRows_41 : decode cX4_byRows 41 = .ok (.istore_n 3, 1) := by decide +kernel
theorem dX4_byRows_42 : decode cX4_byRows 42 = .ok (.iload_n 3, 1) := by decide +kernel
theorem dX4_byRows_43 : decode cX4_byRows 43 = .ok (.iconst 1, 1) := by decide +kernel
theorem dX4_byRows_44 : decode cX4_byRows 44 = .ok (.iload_n 2, 1) := by decide +kernel
theorem dX4_byRows_45 : decode cX4_byRows 45 = .ok (.ishl, 1) := by decide +kernel
theorem dX4_byRows_46 : decode cX4_byRows 46 = .ok (.if_icmp .ge 82, 3) := by decide +kernel
theorem dX4_byRows_49 : decode cX4_byRows 49 = .ok (.iconst 0, 1) := by decide +kernel
theorem dX4_byRows_50 : decode cX4_byRows 50 = .ok (.istore 4, 2) := by decide +kernel
theorem dX4_byRows_52 : decode cX4_byRows 52 = .ok (.lconst 0, 1) := by decide +kernel
theorem dX4_byRows_53 : decode cX4_byRows 53 = .ok (.lstore 5, 2) := by decide +kernel
theorem dX4_byRows_55 : decode cX4_byRows 55 = .ok (.iconst 0, 1) := by decide +kernel
theorem dX4_byRows_56 : decode cX4_byRows 56 = .ok (.istore 7, 2) := by decide +kernel
theorem dX4_byRows_58 : decode cX4_byRows 58 = .ok (.iload 7, 2) := by decide +kernel
theorem dX4_byRows_60 : decode cX4_byRows 60 = .ok (.iload_n 2, 1) := by decide +kernel
theorem dX4_byRows_61 : decode cX4_byRows 61 = .ok (.if_icmp .ge 52, 3) := by decide +kernel
theorem dX4_byRows_64 : decode cX4_byRows 64 = .ok (.iload_n 3, 1) := by decide +kernel
theorem dX4_byRows_65 : decode cX4_byRows 65 = .ok (.iload 7, 2) := by decide +kernel
theorem dX4_byRows_67 : decode cX4_byRows 67 = .ok (.ishr, 1) := by decide +kernel
theorem dX4_byRows_68 : decode cX4_byRows 68 = .ok (.iconst 1, 1) := by decide +kernel
theorem dX4_byRows_69 : decode cX4_byRows 69 = .ok (.iand, 1) := by decide +kernel
theorem dX4_byRows_70 : decode cX4_byRows 70 = .ok (.ifCond .ne 6, 3) := by decide +kernel
theorem dX4_byRows_73 : decode cX4_byRows 73 = .ok (.goto 34, 3) := by decide +kernel
theorem dX4_byRows_76 : decode cX4_byRows 76 = .ok (.iload 4, 2) := by decide +kernel
theorem dX4_byRows_78 : decode cX4_byRows 78 = .ok (.aload_n 0, 1) := by decide +kernel
theorem dX4_byRows_79 : decode cX4_byRows 79 = .ok (.getfield 46, 3) := by decide +kernel
theorem dX4_byRows_82 : decode cX4_byRows 82 = .ok (.aload_n 0, 1) := by decide +kernel
theorem dX4_byRows_83 : decode cX4_byRows 83 = .ok (.getfield 64, 3) := by decide +kernel
theorem dX4_byRows_86 : decode cX4_byRows 86 = .ok (.iload 7, 2) := by decide +kernel
theorem dX4_byRows_88 : decode cX4_byRows 88 = .ok (.iaload, 1) := by decide +kernel
theorem dX4_byRows_89 : decode cX4_byRows 89 = .ok (.iaload, 1) := by decide +kernel
theorem dX4_byRows_90 : decode cX4_byRows 90 = .ok (.ixor, 1) := by decide +kernel
theorem dX4_byRows_91 : decode cX4_byRows 91 = .ok (.istore 4, 2) := by decide +kernel
theorem dX4_byRows_93 : decode cX4_byRows 93 = .ok (.lload 5, 2) := by decide +kernel
theorem dX4_byRows_95 : decode cX4_byRows 95 = .ok (.lconst 1, 1) := by decide +kernel
theorem dX4_byRows_96 : decode cX4_byRows 96 = .ok (.aload_n 0, 1) := by decide +kernel
theorem dX4_byRows_97 : decode cX4_byRows 97 = .ok (.getfield 64, 3) := by decide +kernel
theorem dX4_byRows_100 : decode cX4_byRows 100 = .ok (.iload 7, 2) := by decide +kernel
theorem dX4_byRows_102 : decode cX4_byRows 102 = .ok (.iaload, 1) := by decide +kernel
theorem dX4_byRows_103 : decode cX4_byRows 103 = .ok (.lshl, 1) := by decide +kernel
theorem dX4_byRows_104 : decode cX4_byRows 104 = .ok (.lor, 1) := by decide +kernel
theorem dX4_byRows_105 : decode cX4_byRows 105 = .ok (.lstore 5, 2) := by decide +kernel
theorem dX4_byRows_107 : decode cX4_byRows 107 = .ok (.iinc 7 1, 3) := by decide +kernel
theorem dX4_byRows_110 : decode cX4_byRows 110 = .ok (.goto (-52), 3) := by decide +kernel
theorem dX4_byRows_113 : decode cX4_byRows 113 = .ok (.iload 4, 2) := by decide +kernel
theorem dX4_byRows_115 : decode cX4_byRows 115 = .ok (.iload_n 1, 1) := by decide +kernel
theorem dX4_byRows_116 : decode cX4_byRows 116 = .ok (.if_icmp .ne 6, 3) := by decide +kernel
theorem dX4_byRows_119 : decode cX4_byRows 119 = .ok (.lload 5, 2) := by decide +kernel
theorem dX4_byRows_121 : decode cX4_byRows 121 = .ok (.lreturn, 1) := by decide +kernel
theorem dX4_byRows_122 : decode cX4_byRows 122 = .ok (.iinc 3 1, 3) := by decide +kernel
theorem dX4_byRows_125 : decode cX4_byRows 125 = .ok (.goto (-83), 3) := by decide +kernel
theorem dX4_byRows_128 : decode cX4_byRows 128 = .ok (.ldc2_w 133, 3) := by decide +kernel
theorem dX4_byRows_131 : decode cX4_byRows 131 = .ok (.lreturn, 1) := by decide +kernel
theorem dX4_why_0 : decode cX4_why 0 = .ok (.aload_n 0, 1) := by decide +kernel
theorem dX4_why_1 : decode cX4_why 1 = .ok (.iload_n 1, 1) := by decide +kernel
theorem dX4_why_2 : decode cX4_why 2 = .ok (.invokevirtual 92, 3) := by decide +kernel
theorem dX4_why_5 : decode cX4_why 5 = .ok (.ifCond .eq 11, 3) := by decide +kernel
theorem dX4_why_8 : decode cX4_why 8 = .ok (.aload_n 0, 1) := by decide +kernel
theorem dX4_why_9 : decode cX4_why 9 = .ok (.iload_n 2, 1) := by decide +kernel
theorem dX4_why_10 : decode cX4_why 10 = .ok (.invokevirtual 88, 3) := by decide +kernel
theorem dX4_why_13 : decode cX4_why 13 = .ok (.ifCond .ne 7, 3) := by decide +kernel
theorem dX4_why_16 : decode cX4_why 16 = .ok (.ldc2_w 133, 3) := by decide +kernel
theorem dX4_why_19 : decode cX4_why 19 = .ok (.lreturn, 1) := by decide +kernel
theorem dX4_why_20 : decode cX4_why 20 = .ok (.aload_n 0, 1) := by decide +kernel
theorem dX4_why_21 : decode cX4_why 21 = .ok (.iload_n 1, 1) := by decide +kernel
theorem dX4_why_22 : decode cX4_why 22 = .ok (.invokevirtual 120, 3) := by decide +kernel
theorem dX4_why_25 : decode cX4_why 25 = .ok (.aload_n 0, 1) := by decide +kernel
theorem dX4_why_26 : decode cX4_why 26 = .ok (.iconst 1, 1) := by decide +kernel
theorem dX4_why_27 : decode cX4_why 27 = .ok (.iload_n 2, 1) := by decide +kernel
theorem dX4_why_28 : decode cX4_why 28 = .ok (.ishl, 1) := by decide +kernel
theorem dX4_why_29 : decode cX4_why 29 = .ok (.invokevirtual 135, 3) := by decide +kernel
theorem dX4_why_32 : decode cX4_why 32 = .ok (.lreturn, 1) := by decide +kernel
theorem dX4_gets_0 : decode cX4_gets 0 = .ok (.aload_n 0, 1) := by decide +kernel
theorem dX4_gets_1 : decode cX4_gets 1 = .ok (.iload_n 1, 1) := by decide +kernel
theorem dX4_gets_2 : decode cX4_gets 2 = .ok (.invokevirtual 92, 3) := by decide +kernel
theorem dX4_gets_5 : decode cX4_gets 5 = .ok (.ifCond .eq 11, 3) := by decide +kernel
theorem dX4_gets_8 : decode cX4_gets 8 = .ok (.aload_n 0, 1) := by decide +kernel
theorem dX4_gets_9 : decode cX4_gets 9 = .ok (.iload_n 2, 1) := by decide +kernel
theorem dX4_gets_10 : decode cX4_gets 10 = .ok (.invokevirtual 88, 3) := by decide +kernel
theorem dX4_gets_13 : decode cX4_gets 13 = .ok (.ifCond .ne 5, 3) := by decide +kernel
theorem dX4_gets_16 : decode cX4_gets 16 = .ok (.lconst 0, 1) := by decide +kernel
theorem dX4_gets_17 : decode cX4_gets 17 = .ok (.lreturn, 1) := by decide +kernel
theorem dX4_gets_18 : decode cX4_gets 18 = .ok (.aload_n 0, 1) := by decide +kernel
theorem dX4_gets_19 : decode cX4_gets 19 = .ok (.iload_n 1, 1) := by decide +kernel
theorem dX4_gets_20 : decode cX4_gets 20 = .ok (.invokevirtual 120, 3) := by decide +kernel
theorem dX4_gets_23 : decode cX4_gets 23 = .ok (.aload_n 0, 1) := by decide +kernel
theorem dX4_gets_24 : decode cX4_gets 24 = .ok (.iconst 1, 1) := by decide +kernel
theorem dX4_gets_25 : decode cX4_gets 25 = .ok (.iload_n 2, 1) := by decide +kernel
theorem dX4_gets_26 : decode cX4_gets 26 = .ok (.ishl, 1) := by decide +kernel
theorem dX4_gets_27 : decode cX4_gets 27 = .ok (.invokevirtual 135, 3) := by decide +kernel
theorem dX4_gets_30 : decode cX4_gets 30 = .ok (.lstore_n 3, 1) := by decide +kernel
theorem dX4_gets_31 : decode cX4_gets 31 = .ok (.lconst 0, 1) := by decide +kernel
theorem dX4_gets_32 : decode cX4_gets 32 = .ok (.lstore 5, 2) := by decide +kernel
theorem dX4_gets_34 : decode cX4_gets 34 = .ok (.iconst 0, 1) := by decide +kernel
theorem dX4_gets_35 : decode cX4_gets 35 = .ok (.istore 7, 2) := by decide +kernel
theorem dX4_gets_37 : decode cX4_gets 37 = .ok (.iload 7, 2) := by decide +kernel
theorem dX4_gets_39 : decode cX4_gets 39 = .ok (.aload_n 0, 1) := by decide +kernel
theorem dX4_gets_40 : decode cX4_gets 40 = .ok (.getfield 52, 3) := by decide +kernel
theorem dX4_gets_43 : decode cX4_gets 43 = .ok (.if_icmp .ge 42, 3) := by decide +kernel
theorem dX4_gets_46 : decode cX4_gets 46 = .ok (.lload_n 3, 1) := by decide +kernel
theorem dX4_gets_47 : decode cX4_gets 47 = .ok (.lconst 0, 1) := by decide +kernel
theorem dX4_gets_48 : decode cX4_gets 48 = .ok (.lcmp, 1) := by decide +kernel
theorem dX4_gets_49 : decode cX4_gets 49 = .ok (.ifCond .lt 36, 3) := by decide +kernel
theorem dX4_gets_52 : decode cX4_gets 52 = .ok (.lload_n 3, 1) := by decide +kernel
theorem dX4_gets_53 : decode cX4_gets 53 = .ok (.iload 7, 2) := by decide +kernel
theorem dX4_gets_55 : decode cX4_gets 55 = .ok (.lshr, 1) := by decide +kernel
theorem dX4_gets_56 : decode cX4_gets 56 = .ok (.lconst 1, 1) := by decide +kernel
theorem dX4_gets_57 : decode cX4_gets 57 = .ok (.land, 1) := by decide +kernel
theorem dX4_gets_58 : decode cX4_gets 58 = .ok (.lconst 1, 1) := by decide +kernel
theorem dX4_gets_59 : decode cX4_gets 59 = .ok (.lcmp, 1) := by decide +kernel
theorem dX4_gets_60 : decode cX4_gets 60 = .ok (.ifCond .ne 19, 3) := by decide +kernel
theorem dX4_gets_63 : decode cX4_gets 63 = .ok (.lload 5, 2) := by decide +kernel
theorem dX4_gets_65 : decode cX4_gets 65 = .ok (.aload_n 0, 1) := by decide +kernel
theorem dX4_gets_66 : decode cX4_gets 66 = .ok (.aload_n 0, 1) := by decide +kernel
theorem dX4_gets_67 : decode cX4_gets 67 = .ok (.getfield 46, 3) := by decide +kernel
theorem dX4_gets_70 : decode cX4_gets 70 = .ok (.iload 7, 2) := by decide +kernel
theorem dX4_gets_72 : decode cX4_gets 72 = .ok (.iaload, 1) := by decide +kernel
theorem dX4_gets_73 : decode cX4_gets 73 = .ok (.invokevirtual 112, 3) := by decide +kernel
theorem dX4_gets_76 : decode cX4_gets 76 = .ok (.lxor, 1) := by decide +kernel
theorem dX4_gets_77 : decode cX4_gets 77 = .ok (.lstore 5, 2) := by decide +kernel
theorem dX4_gets_79 : decode cX4_gets 79 = .ok (.iinc 7 1, 3) := by decide +kernel
theorem dX4_gets_82 : decode cX4_gets 82 = .ok (.goto (-45), 3) := by decide +kernel
theorem dX4_gets_85 : decode cX4_gets 85 = .ok (.lload 5, 2) := by decide +kernel
theorem dX4_gets_87 : decode cX4_gets 87 = .ok (.lreturn, 1) := by decide +kernel
theorem dX4_isEven_0 : decode cX4_isEven 0 = .ok (.iconst 0, 1) := by decide +kernel
theorem dX4_isEven_1 : decode cX4_isEven 1 = .ok (.istore_n 2, 1) := by decide +kernel
theorem dX4_isEven_2 : decode cX4_isEven 2 = .ok (.iload_n 1, 1) := by decide +kernel
theorem dX4_isEven_3 : decode cX4_isEven 3 = .ok (.istore_n 3, 1) := by decide +kernel
theorem dX4_isEven_4 : decode cX4_isEven 4 = .ok (.iload_n 3, 1) := by decide +kernel
theorem dX4_isEven_5 : decode cX4_isEven 5 = .ok (.ifCond .eq 22, 3) := by decide +kernel
theorem dX4_isEven_8 : decode cX4_isEven 8 = .ok (.iload_n 2, 1) := by decide +kernel
theorem dX4_isEven_9 : decode cX4_isEven 9 = .ok (.ifCond .ne 7, 3) := by decide +kernel
theorem dX4_isEven_12 : decode cX4_isEven 12 = .ok (.iconst 1, 1) := by decide +kernel
theorem dX4_isEven_13 : decode cX4_isEven 13 = .ok (.goto 4, 3) := by decide +kernel
theorem dX4_isEven_16 : decode cX4_isEven 16 = .ok (.iconst 0, 1) := by decide +kernel
theorem dX4_isEven_17 : decode cX4_isEven 17 = .ok (.istore_n 2, 1) := by decide +kernel
theorem dX4_isEven_18 : decode cX4_isEven 18 = .ok (.iload_n 3, 1) := by decide +kernel
theorem dX4_isEven_19 : decode cX4_isEven 19 = .ok (.iload_n 3, 1) := by decide +kernel
theorem dX4_isEven_20 : decode cX4_isEven 20 = .ok (.iconst 1, 1) := by decide +kernel
theorem dX4_isEven_21 : decode cX4_isEven 21 = .ok (.isub, 1) := by decide +kernel
theorem dX4_isEven_22 : decode cX4_isEven 22 = .ok (.iand, 1) := by decide +kernel
theorem dX4_isEven_23 : decode cX4_isEven 23 = .ok (.istore_n 3, 1) := by decide +kernel
theorem dX4_isEven_24 : decode cX4_isEven 24 = .ok (.goto (-20), 3) := by decide +kernel
theorem dX4_isEven_27 : decode cX4_isEven 27 = .ok (.iload_n 2, 1) := by decide +kernel
theorem dX4_isEven_28 : decode cX4_isEven 28 = .ok (.ifCond .ne 7, 3) := by decide +kernel
theorem dX4_isEven_31 : decode cX4_isEven 31 = .ok (.iconst 1, 1) := by decide +kernel
theorem dX4_isEven_32 : decode cX4_isEven 32 = .ok (.goto 4, 3) := by decide +kernel
theorem dX4_isEven_35 : decode cX4_isEven 35 = .ok (.iconst 0, 1) := by decide +kernel
theorem dX4_isEven_36 : decode cX4_isEven 36 = .ok (.ireturn, 1) := by decide +kernel
theorem dX4_lack_0 : decode cX4_lack 0 = .ok (.aload_n 0, 1) := by decide +kernel
theorem dX4_lack_1 : decode cX4_lack 1 = .ok (.iload_n 1, 1) := by decide +kernel
theorem dX4_lack_2 : decode cX4_lack 2 = .ok (.invokevirtual 92, 3) := by decide +kernel
theorem dX4_lack_5 : decode cX4_lack 5 = .ok (.ifCond .eq 11, 3) := by decide +kernel
theorem dX4_lack_8 : decode cX4_lack 8 = .ok (.aload_n 0, 1) := by decide +kernel
theorem dX4_lack_9 : decode cX4_lack 9 = .ok (.iload_n 2, 1) := by decide +kernel
theorem dX4_lack_10 : decode cX4_lack 10 = .ok (.invokevirtual 88, 3) := by decide +kernel
theorem dX4_lack_13 : decode cX4_lack 13 = .ok (.ifCond .ne 5, 3) := by decide +kernel
theorem dX4_lack_16 : decode cX4_lack 16 = .ok (.iconst (-1), 1) := by decide +kernel
theorem dX4_lack_17 : decode cX4_lack 17 = .ok (.ireturn, 1) := by decide +kernel
theorem dX4_lack_18 : decode cX4_lack 18 = .ok (.aload_n 0, 1) := by decide +kernel
theorem dX4_lack_19 : decode cX4_lack 19 = .ok (.iload_n 1, 1) := by decide +kernel
theorem dX4_lack_20 : decode cX4_lack 20 = .ok (.invokevirtual 120, 3) := by decide +kernel
theorem dX4_lack_23 : decode cX4_lack 23 = .ok (.aload_n 0, 1) := by decide +kernel
theorem dX4_lack_24 : decode cX4_lack 24 = .ok (.iload_n 1, 1) := by decide +kernel
theorem dX4_lack_25 : decode cX4_lack 25 = .ok (.iconst 1, 1) := by decide +kernel
theorem dX4_lack_26 : decode cX4_lack 26 = .ok (.iload_n 2, 1) := by decide +kernel
theorem dX4_lack_27 : decode cX4_lack 27 = .ok (.ishl, 1) := by decide +kernel
theorem dX4_lack_28 : decode cX4_lack 28 = .ok (.invokevirtual 124, 3) := by decide +kernel
theorem dX4_lack_31 : decode cX4_lack 31 = .ok (.ifCond .eq 5, 3) := by decide +kernel
theorem dX4_lack_34 : decode cX4_lack 34 = .ok (.iconst (-1), 1) := by decide +kernel
theorem dX4_lack_35 : decode cX4_lack 35 = .ok (.ireturn, 1) := by decide +kernel
theorem dX4_lack_36 : decode cX4_lack 36 = .ok (.iconst 1, 1) := by decide +kernel
theorem dX4_lack_37 : decode cX4_lack 37 = .ok (.istore_n 3, 1) := by decide +kernel
theorem dX4_lack_38 : decode cX4_lack 38 = .ok (.iload_n 3, 1) := by decide +kernel
theorem dX4_lack_39 : decode cX4_lack 39 = .ok (.iconst 1, 1) := by decide +kernel
theorem dX4_lack_40 : decode cX4_lack 40 = .ok (.aload_n 0, 1) := by decide +kernel
theorem dX4_lack_41 : decode cX4_lack 41 = .ok (.getfield 7, 3) := by decide +kernel
theorem dX4_lack_44 : decode cX4_lack 44 = .ok (.ishl, 1) := by decide +kernel
theorem dX4_lack_45 : decode cX4_lack 45 = .ok (.if_icmp .ge 70, 3) := by decide +kernel
theorem dX4_lack_48 : decode cX4_lack 48 = .ok (.iload_n 3, 1) := by decide +kernel
theorem dX4_lack_49 : decode cX4_lack 49 = .ok (.iload_n 2, 1) := by decide +kernel
theorem dX4_lack_50 : decode cX4_lack 50 = .ok (.ishr, 1) := by decide +kernel
theorem dX4_lack_51 : decode cX4_lack 51 = .ok (.iconst 1, 1) := by decide +kernel
theorem dX4_lack_52 : decode cX4_lack 52 = .ok (.iand, 1) := by decide +kernel
theorem dX4_lack_53 : decode cX4_lack 53 = .ok (.iconst 1, 1) := by decide +kernel
theorem dX4_lack_54 : decode cX4_lack 54 = .ok (.if_icmp .ne 7, 3) := by decide +kernel
theorem dX4_lack_57 : decode cX4_lack 57 = .ok (.iconst 1, 1) := by decide +kernel
theorem dX4_lack_58 : decode cX4_lack 58 = .ok (.goto 4, 3) := by decide +kernel
theorem dX4_lack_61 : decode cX4_lack 61 = .ok (.iconst 0, 1) := by decide +kernel
theorem dX4_lack_62 : decode cX4_lack 62 = .ok (.istore 4, 2) := by decide +kernel
theorem dX4_lack_64 : decode cX4_lack 64 = .ok (.iconst 0, 1) := by decide +kernel
theorem dX4_lack_65 : decode cX4_lack 65 = .ok (.istore 5, 2) := by decide +kernel
theorem dX4_lack_67 : decode cX4_lack 67 = .ok (.iload 5, 2) := by decide +kernel
theorem dX4_lack_69 : decode cX4_lack 69 = .ok (.aload_n 0, 1) := by decide +kernel
theorem dX4_lack_70 : decode cX4_lack 70 = .ok (.getfield 52, 3) := by decide +kernel
theorem dX4_lack_73 : decode cX4_lack 73 = .ok (.if_icmp .ge 29, 3) := by decide +kernel
theorem dX4_lack_76 : decode cX4_lack 76 = .ok (.iload 4, 2) := by decide +kernel
theorem dX4_lack_78 : decode cX4_lack 78 = .ok (.ifCond .eq 24, 3) := by decide +kernel
theorem dX4_lack_81 : decode cX4_lack 81 = .ok (.aload_n 0, 1) := by decide +kernel
theorem dX4_lack_82 : decode cX4_lack 82 = .ok (.iload_n 3, 1) := by decide +kernel
theorem dX4_lack_83 : decode cX4_lack 83 = .ok (.aload_n 0, 1) := by decide +kernel
theorem dX4_lack_84 : decode cX4_lack 84 = .ok (.getfield 46, 3) := by decide +kernel
theorem dX4_lack_87 : decode cX4_lack 87 = .ok (.iload 5, 2) := by decide +kernel
theorem dX4_lack_89 : decode cX4_lack 89 = .ok (.iaload, 1) := by decide +kernel
theorem dX4_lack_90 : decode cX4_lack 90 = .ok (.iand, 1) := by decide +kernel
theorem dX4_lack_91 : decode cX4_lack 91 = .ok (.invokevirtual 138, 3) := by decide +kernel
theorem dX4_lack_94 : decode cX4_lack 94 = .ok (.istore 4, 2) := by decide +kernel
theorem dX4_lack_96 : decode cX4_lack 96 = .ok (.iinc 5 1, 3) := by decide +kernel
theorem dX4_lack_99 : decode cX4_lack 99 = .ok (.goto (-32), 3) := by decide +kernel
theorem dX4_lack_102 : decode cX4_lack 102 = .ok (.iload 4, 2) := by decide +kernel
theorem dX4_lack_104 : decode cX4_lack 104 = .ok (.ifCond .eq 5, 3) := by decide +kernel
theorem dX4_lack_107 : decode cX4_lack 107 = .ok (.iload_n 3, 1) := by decide +kernel
theorem dX4_lack_108 : decode cX4_lack 108 = .ok (.ireturn, 1) := by decide +kernel
theorem dX4_lack_109 : decode cX4_lack 109 = .ok (.iinc 3 1, 3) := by decide +kernel
theorem dX4_lack_112 : decode cX4_lack 112 = .ok (.goto (-74), 3) := by decide +kernel
theorem dX4_lack_115 : decode cX4_lack 115 = .ok (.iconst (-1), 1) := by decide +kernel
theorem dX4_lack_116 : decode cX4_lack 116 = .ok (.ireturn, 1) := by decide +kernel
theorem dX4_served_0 : decode cX4_served 0 = .ok (.aload_n 0, 1) := by decide +kernel
theorem dX4_served_1 : decode cX4_served 1 = .ok (.invokevirtual 141, 3) := by decide +kernel
theorem dX4_served_4 : decode cX4_served 4 = .ok (.iconst 0, 1) := by decide +kernel
theorem dX4_served_5 : decode cX4_served 5 = .ok (.istore_n 1, 1) := by decide +kernel
theorem dX4_served_6 : decode cX4_served 6 = .ok (.iconst 0, 1) := by decide +kernel
theorem dX4_served_7 : decode cX4_served 7 = .ok (.istore_n 2, 1) := by decide +kernel
theorem dX4_served_8 : decode cX4_served 8 = .ok (.iload_n 2, 1) := by decide +kernel
theorem dX4_served_9 : decode cX4_served 9 = .ok (.aload_n 0, 1) := by decide +kernel
theorem dX4_served_10 : decode cX4_served 10 = .ok (.getfield 13, 3) := by decide +kernel
theorem dX4_served_13 : decode cX4_served 13 = .ok (.if_icmp .ge 26, 3) := by decide +kernel
theorem dX4_served_16 : decode cX4_served 16 = .ok (.iload_n 1, 1) := by decide +kernel
theorem dX4_served_17 : decode cX4_served 17 = .ok (.aload_n 0, 1) := by decide +kernel
theorem dX4_served_18 : decode cX4_served 18 = .ok (.iload_n 2, 1) := by decide +kernel
theorem dX4_served_19 : decode cX4_served 19 = .ok (.iconst 0, 1) := by decide +kernel
theorem dX4_served_20 : decode cX4_served 20 = .ok (.invokevirtual 130, 3) := by decide +kernel
theorem dX4_served_23 : decode cX4_served 23 = .ok (.ifCond .eq 7, 3) := by decide +kernel
theorem dX4_served_26 : decode cX4_served 26 = .ok (.iconst 1, 1) := by decide +kernel
theorem dX4_served_27 : decode cX4_served 27 = .ok (.goto 4, 3) := by decide +kernel
theorem dX4_served_30 : decode cX4_served 30 = .ok (.iconst 0, 1) := by decide +kernel
theorem dX4_served_31 : decode cX4_served 31 = .ok (.iadd, 1) := by decide +kernel
theorem dX4_served_32 : decode cX4_served 32 = .ok (.istore_n 1, 1) := by decide +kernel
theorem dX4_served_33 : decode cX4_served 33 = .ok (.iinc 2 1, 3) := by decide +kernel
theorem dX4_served_36 : decode cX4_served 36 = .ok (.goto (-28), 3) := by decide +kernel
theorem dX4_served_39 : decode cX4_served 39 = .ok (.iload_n 1, 1) := by decide +kernel
theorem dX4_served_40 : decode cX4_served 40 = .ok (.ireturn, 1) := by decide +kernel
theorem dX4_left_0 : decode cX4_left 0 = .ok (.aload_n 0, 1) := by decide +kernel
theorem dX4_left_1 : decode cX4_left 1 = .ok (.getfield 13, 3) := by decide +kernel
theorem dX4_left_4 : decode cX4_left 4 = .ok (.aload_n 0, 1) := by decide +kernel
theorem dX4_left_5 : decode cX4_left 5 = .ok (.invokevirtual 144, 3) := by decide +kernel
theorem dX4_left_8 : decode cX4_left 8 = .ok (.isub, 1) := by decide +kernel
theorem dX4_left_9 : decode cX4_left 9 = .ok (.ireturn, 1) := by decide +kernel
theorem dX4_findNeeds_0 : decode cX4_findNeeds 0 = .ok (.aload_n 0, 1) := by decide +kernel
theorem dX4_findNeeds_1 : decode cX4_findNeeds 1 = .ok (.invokevirtual 141, 3) := by decide +kernel
theorem dX4_findNeeds_4 : decode cX4_findNeeds 4 = .ok (.aload_n 0, 1) := by decide +kernel
theorem dX4_findNeeds_5 : decode cX4_findNeeds 5 = .ok (.iconst 0, 1) := by decide +kernel
theorem dX4_findNeeds_6 : decode cX4_findNeeds 6 = .ok (.putfield 73, 3) := by decide +kernel
theorem dX4_findNeeds_9 : decode cX4_findNeeds 9 = .ok (.iconst 0, 1) := by decide +kernel
theorem dX4_findNeeds_10 : decode cX4_findNeeds 10 = .ok (.istore_n 1, 1) := by decide +kernel
theorem dX4_findNeeds_11 : decode cX4_findNeeds 11 = .ok (.iload_n 1, 1) := by decide +kernel
theorem dX4_findNeeds_12 : decode cX4_findNeeds 12 = .ok (.aload_n 0, 1) := by decide +kernel
theorem dX4_findNeeds_13 : decode cX4_findNeeds 13 = .ok (.getfield 13, 3) := by decide +kernel
theorem dX4_findNeeds_16 : decode cX4_findNeeds 16 = .ok (.if_icmp .ge 92, 3) := by decide +kernel
theorem dX4_findNeeds_19 : decode cX4_findNeeds 19 = .ok (.iconst 0, 1) := by decide +kernel
theorem dX4_findNeeds_20 : decode cX4_findNeeds 20 = .ok (.istore_n 2, 1) := by decide +kernel
theorem dX4_findNeeds_21 : decode cX4_findNeeds 21 = .ok (.iload_n 2, 1) := by decide +kernel
theorem dX4_findNeeds_22 : decode cX4_findNeeds 22 = .ok (.aload_n 0, 1) := by decide +kernel
theorem dX4_findNeeds_23 : decode cX4_findNeeds 23 = .ok (.getfield 7, 3) := by decide +kernel
theorem dX4_findNeeds_26 : decode cX4_findNeeds 26 = .ok (.if_icmp .ge 76, 3) := by decide +kernel
theorem dX4_findNeeds_29 : decode cX4_findNeeds 29 = .ok (.aload_n 0, 1) := by decide +kernel
theorem dX4_findNeeds_30 : decode cX4_findNeeds 30 = .ok (.getfield 23, 3) := by decide +kernel
theorem dX4_findNeeds_33 : decode cX4_findNeeds 33 = .ok (.iload_n 1, 1) := by decide +kernel
theorem dX4_findNeeds_34 : decode cX4_findNeeds 34 = .ok (.iaload, 1) := by decide +kernel
theorem dX4_findNeeds_35 : decode cX4_findNeeds 35 = .ok (.iconst 2, 1) := by decide +kernel
theorem dX4_findNeeds_36 : decode cX4_findNeeds 36 = .ok (.if_icmp .eq 60, 3) := by decide +kernel
theorem dX4_findNeeds_39 : decode cX4_findNeeds 39 = .ok (.aload_n 0, 1) := by decide +kernel
theorem dX4_findNeeds_40 : decode cX4_findNeeds 40 = .ok (.getfield 27, 3) := by decide +kernel
theorem dX4_findNeeds_43 : decode cX4_findNeeds 43 = .ok (.iload_n 1, 1) := by decide +kernel
theorem dX4_findNeeds_44 : decode cX4_findNeeds 44 = .ok (.iaload, 1) := by decide +kernel
theorem dX4_findNeeds_45 : decode cX4_findNeeds 45 = .ok (.iload_n 2, 1) := by decide +kernel
theorem dX4_findNeeds_46 : decode cX4_findNeeds 46 = .ok (.ishr, 1) := by decide +kernel
theorem dX4_findNeeds_47 : decode cX4_findNeeds 47 = .ok (.iconst 1, 1) := by decide +kernel
theorem dX4_findNeeds_48 : decode cX4_findNeeds 48 = .ok (.iand, 1) := by decide +kernel
theorem dX4_findNeeds_49 : decode cX4_findNeeds 49 = .ok (.ifCond .eq 47, 3) := by decide +kernel
theorem dX4_findNeeds_52 : decode cX4_findNeeds 52 = .ok (.aload_n 0, 1) := by decide +kernel
theorem dX4_findNeeds_53 : decode cX4_findNeeds 53 = .ok (.iload_n 1, 1) := by decide +kernel
theorem dX4_findNeeds_54 : decode cX4_findNeeds 54 = .ok (.iconst 1, 1) := by decide +kernel
theorem dX4_findNeeds_55 : decode cX4_findNeeds 55 = .ok (.iload_n 2, 1) := by decide +kernel
theorem dX4_findNeeds_56 : decode cX4_findNeeds 56 = .ok (.ishl, 1) := by decide +kernel
theorem dX4_findNeeds_57 : decode cX4_findNeeds 57 = .ok (.invokevirtual 124, 3) := by decide +kernel
theorem dX4_findNeeds_60 : decode cX4_findNeeds 60 = .ok (.ifCond .eq 6, 3) := by decide +kernel
theorem dX4_findNeeds_63 : decode cX4_findNeeds 63 = .ok (.goto 33, 3) := by decide +kernel
theorem dX4_findNeeds_66 : decode cX4_findNeeds 66 = .ok (.aload_n 0, 1) := by decide +kernel
theorem dX4_findNeeds_67 : decode cX4_findNeeds 67 = .ok (.getfield 67, 3) := by decide +kernel
theorem dX4_findNeeds_70 : decode cX4_findNeeds 70 = .ok (.aload_n 0, 1) := by decide +kernel
theorem dX4_findNeeds_71 : decode cX4_findNeeds 71 = .ok (.getfield 73, 3) := by decide +kernel
theorem dX4_findNeeds_74 : decode cX4_findNeeds 74 = .ok (.iload_n 1, 1) := by decide +kernel
theorem dX4_findNeeds_75 : decode cX4_findNeeds 75 = .ok (.iastore, 1) := by decide +kernel
theorem dX4_findNeeds_76 : decode cX4_findNeeds 76 = .ok (.aload_n 0, 1) := by decide +kernel
theorem dX4_findNeeds_77 : decode cX4_findNeeds 77 = .ok (.getfield 70, 3) := by decide +kernel
theorem dX4_findNeeds_80 : decode cX4_findNeeds 80 = .ok (.aload_n 0, 1) := by decide +kernel
theorem dX4_findNeeds_81 : decode cX4_findNeeds 81 = .ok (.getfield 73, 3) := by decide +kernel
theorem dX4_findNeeds_84 : decode cX4_findNeeds 84 = .ok (.iload_n 2, 1) := by decide +kernel
theorem dX4_findNeeds_85 : decode cX4_findNeeds 85 = .ok (.iastore, 1) := by decide +kernel
theorem dX4_findNeeds_86 : decode cX4_findNeeds 86 = .ok (.aload_n 0, 1) := by decide +kernel
theorem dX4_findNeeds_87 : decode cX4_findNeeds 87 = .ok (.dup, 1) := by decide +kernel
theorem dX4_findNeeds_88 : decode cX4_findNeeds 88 = .ok (.getfield 73, 3) := by decide +kernel
theorem dX4_findNeeds_91 : decode cX4_findNeeds 91 = .ok (.iconst 1, 1) := by decide +kernel
theorem dX4_findNeeds_92 : decode cX4_findNeeds 92 = .ok (.iadd, 1) := by decide +kernel
theorem dX4_findNeeds_93 : decode cX4_findNeeds 93 = .ok (.putfield 73, 3) := by decide +kernel
theorem dX4_findNeeds_96 : decode cX4_findNeeds 96 = .ok (.iinc 2 1, 3) := by decide +kernel
theorem dX4_findNeeds_99 : decode cX4_findNeeds 99 = .ok (.goto (-78), 3) := by decide +kernel
theorem dX4_findNeeds_102 : decode cX4_findNeeds 102 = .ok (.iinc 1 1, 3) := by decide +kernel
theorem dX4_findNeeds_105 : decode cX4_findNeeds 105 = .ok (.goto (-94), 3) := by decide +kernel
theorem dX4_findNeeds_108 : decode cX4_findNeeds 108 = .ok (.return_, 1) := by decide +kernel
theorem dX4_needs_0 : decode cX4_needs 0 = .ok (.aload_n 0, 1) := by decide +kernel
theorem dX4_needs_1 : decode cX4_needs 1 = .ok (.invokevirtual 148, 3) := by decide +kernel
theorem dX4_needs_4 : decode cX4_needs 4 = .ok (.aload_n 0, 1) := by decide +kernel
theorem dX4_needs_5 : decode cX4_needs 5 = .ok (.getfield 73, 3) := by decide +kernel
theorem dX4_needs_8 : decode cX4_needs 8 = .ok (.ireturn, 1) := by decide +kernel
theorem dX4_need_0 : decode cX4_need 0 = .ok (.aload_n 0, 1) := by decide +kernel
theorem dX4_need_1 : decode cX4_need 1 = .ok (.invokevirtual 148, 3) := by decide +kernel
theorem dX4_need_4 : decode cX4_need 4 = .ok (.iload_n 1, 1) := by decide +kernel
theorem dX4_need_5 : decode cX4_need 5 = .ok (.ifCond .lt 20, 3) := by decide +kernel
theorem dX4_need_8 : decode cX4_need 8 = .ok (.iload_n 1, 1) := by decide +kernel
theorem dX4_need_9 : decode cX4_need 9 = .ok (.aload_n 0, 1) := by decide +kernel
theorem dX4_need_10 : decode cX4_need 10 = .ok (.getfield 73, 3) := by decide +kernel
theorem dX4_need_13 : decode cX4_need 13 = .ok (.if_icmp .ge 12, 3) := by decide +kernel
theorem dX4_need_16 : decode cX4_need 16 = .ok (.iload_n 2, 1) := by decide +kernel
theorem dX4_need_17 : decode cX4_need 17 = .ok (.ifCond .lt 8, 3) := by decide +kernel
theorem dX4_need_20 : decode cX4_need 20 = .ok (.iload_n 2, 1) := by decide +kernel
theorem dX4_need_21 : decode cX4_need 21 = .ok (.iconst 1, 1) := by decide +kernel
theorem dX4_need_22 : decode cX4_need 22 = .ok (.if_icmp .le 5, 3) := by decide +kernel
theorem dX4_need_25 : decode cX4_need 25 = .ok (.iconst (-1), 1) := by decide +kernel
theorem dX4_need_26 : decode cX4_need 26 = .ok (.ireturn, 1) := by decide +kernel
theorem dX4_need_27 : decode cX4_need 27 = .ok (.iload_n 2, 1) := by decide +kernel
theorem dX4_need_28 : decode cX4_need 28 = .ok (.ifCond .ne 12, 3) := by decide +kernel
theorem dX4_need_31 : decode cX4_need 31 = .ok (.aload_n 0, 1) := by decide +kernel
theorem dX4_need_32 : decode cX4_need 32 = .ok (.getfield 67, 3) := by decide +kernel
theorem dX4_need_35 : decode cX4_need 35 = .ok (.iload_n 1, 1) := by decide +kernel
theorem dX4_need_36 : decode cX4_need 36 = .ok (.iaload, 1) := by decide +kernel
theorem dX4_need_37 : decode cX4_need 37 = .ok (.goto 9, 3) := by decide +kernel
theorem dX4_need_40 : decode cX4_need 40 = .ok (.aload_n 0, 1) := by decide +kernel
theorem dX4_need_41 : decode cX4_need 41 = .ok (.getfield 70, 3) := by decide +kernel
theorem dX4_need_44 : decode cX4_need 44 = .ok (.iload_n 1, 1) := by decide +kernel
theorem dX4_need_45 : decode cX4_need 45 = .ok (.iaload, 1) := by decide +kernel
theorem dX4_need_46 : decode cX4_need 46 = .ok (.ireturn, 1) := by decide +kernel
theorem dX4_mayFollow_0 : decode cX4_mayFollow 0 = .ok (.iload_n 1, 1) := by decide +kernel
theorem dX4_mayFollow_1 : decode cX4_mayFollow 1 = .ok (.iload_n 2, 1) := by decide +kernel
theorem dX4_mayFollow_2 : decode cX4_mayFollow 2 = .ok (.if_icmp .eq 43, 3) := by decide +kernel
theorem dX4_mayFollow_5 : decode cX4_mayFollow 5 = .ok (.aload_n 0, 1) := by decide +kernel
theorem dX4_mayFollow_6 : decode cX4_mayFollow 6 = .ok (.getfield 70, 3) := by decide +kernel
theorem dX4_mayFollow_9 : decode cX4_mayFollow 9 = .ok (.iload_n 1, 1) := by decide +kernel
theorem dX4_mayFollow_10 : decode cX4_mayFollow 10 = .ok (.iaload, 1) := by decide +kernel
theorem dX4_mayFollow_11 : decode cX4_mayFollow 11 = .ok (.aload_n 0, 1) := by decide +kernel
theorem dX4_mayFollow_12 : decode cX4_mayFollow 12 = .ok (.getfield 70, 3) := by decide +kernel
theorem dX4_mayFollow_15 : decode cX4_mayFollow 15 = .ok (.iload_n 2, 1) := by decide +kernel
theorem dX4_mayFollow_16 : decode cX4_mayFollow 16 = .ok (.iaload, 1) := by decide +kernel
theorem dX4_mayFollow_17 : decode cX4_mayFollow 17 = .ok (.if_icmp .eq 28, 3) := by decide +kernel
theorem dX4_mayFollow_20 : decode cX4_mayFollow 20 = .ok (.aload_n 0, 1) := by decide +kernel
theorem dX4_mayFollow_21 : decode cX4_mayFollow 21 = .ok (.aload_n 0, 1) := by decide +kernel
theorem dX4_mayFollow_22 : decode cX4_mayFollow 22 = .ok (.getfield 67, 3) := by decide +kernel
theorem dX4_mayFollow_25 : decode cX4_mayFollow 25 = .ok (.iload_n 1, 1) := by decide +kernel
theorem dX4_mayFollow_26 : decode cX4_mayFollow 26 = .ok (.iaload, 1) := by decide +kernel
theorem dX4_mayFollow_27 : decode cX4_mayFollow 27 = .ok (.iconst 1, 1) := by decide +kernel
theorem dX4_mayFollow_28 : decode cX4_mayFollow 28 = .ok (.aload_n 0, 1) := by decide +kernel
theorem dX4_mayFollow_29 : decode cX4_mayFollow 29 = .ok (.getfield 70, 3) := by decide +kernel
theorem dX4_mayFollow_32 : decode cX4_mayFollow 32 = .ok (.iload_n 2, 1) := by decide +kernel
theorem dX4_mayFollow_33 : decode cX4_mayFollow 33 = .ok (.iaload, 1) := by decide +kernel
theorem dX4_mayFollow_34 : decode cX4_mayFollow 34 = .ok (.ishl, 1) := by decide +kernel
theorem dX4_mayFollow_35 : decode cX4_mayFollow 35 = .ok (.invokevirtual 124, 3) := by decide +kernel
theorem dX4_mayFollow_38 : decode cX4_mayFollow 38 = .ok (.ifCond .ne 7, 3) := by decide +kernel
theorem dX4_mayFollow_41 : decode cX4_mayFollow 41 = .ok (.iconst 1, 1) := by decide +kernel
theorem dX4_mayFollow_42 : decode cX4_mayFollow 42 = .ok (.goto 4, 3) := by decide +kernel
theorem dX4_mayFollow_45 : decode cX4_mayFollow 45 = .ok (.iconst 0, 1) := by decide +kernel
theorem dX4_mayFollow_46 : decode cX4_mayFollow 46 = .ok (.ireturn, 1) := by decide +kernel
theorem dX4_behind_0 : decode cX4_behind 0 = .ok (.iconst 0, 1) := by decide +kernel
theorem dX4_behind_1 : decode cX4_behind 1 = .ok (.istore_n 3, 1) := by decide +kernel
theorem dX4_behind_2 : decode cX4_behind 2 = .ok (.iconst 0, 1) := by decide +kernel
theorem dX4_behind_3 : decode cX4_behind 3 = .ok (.istore 4, 2) := by decide +kernel
theorem dX4_behind_5 : decode cX4_behind 5 = .ok (.iload 4, 2) := by decide +kernel
theorem dX4_behind_7 : decode cX4_behind 7 = .ok (.aload_n 0, 1) := by decide +kernel
theorem dX4_behind_8 : decode cX4_behind 8 = .ok (.getfield 73, 3) := by decide +kernel
theorem dX4_behind_11 : decode cX4_behind 11 = .ok (.if_icmp .ge 36, 3) := by decide +kernel
theorem dX4_behind_14 : decode cX4_behind 14 = .ok (.iload_n 1, 1) := by decide +kernel
theorem dX4_behind_15 : decode cX4_behind 15 = .ok (.iload 4, 2) := by decide +kernel
theorem dX4_behind_17 : decode cX4_behind 17 = .ok (.ishr, 1) := by decide +kernel
theorem dX4_behind_18 : decode cX4_behind 18 = .ok (.iconst 1, 1) := by decide +kernel
theorem dX4_behind_19 : decode cX4_behind 19 = .ok (.iand, 1) := by decide +kernel
theorem dX4_behind_20 : decode cX4_behind 20 = .ok (.iconst 1, 1) := by decide +kernel
theorem dX4_behind_21 : decode cX4_behind 21 = .ok (.if_icmp .ne 20, 3) := by decide +kernel
theorem dX4_behind_24 : decode cX4_behind 24 = .ok (.aload_n 0, 1) := by decide +kernel
theorem dX4_behind_25 : decode cX4_behind 25 = .ok (.iload_n 2, 1) := by decide +kernel
theorem dX4_behind_26 : decode cX4_behind 26 = .ok (.iload 4, 2) := by decide +kernel
theorem dX4_behind_28 : decode cX4_behind 28 = .ok (.invokevirtual 151, 3) := by decide +kernel
theorem dX4_behind_31 : decode cX4_behind 31 = .ok (.ifCond .eq 10, 3) := by decide +kernel
theorem dX4_behind_34 : decode cX4_behind 34 = .ok (.iload_n 3, 1) := by decide +kernel
theorem dX4_behind_35 : decode cX4_behind 35 = .ok (.iconst 1, 1) := by decide +kernel
theorem dX4_behind_36 : decode cX4_behind 36 = .ok (.iload 4, 2) := by decide +kernel
theorem dX4_behind_38 : decode cX4_behind 38 = .ok (.ishl, 1) := by decide +kernel
theorem dX4_behind_39 : decode cX4_behind 39 = .ok (.ior, 1) := by decide +kernel
theorem dX4_behind_40 : decode cX4_behind 40 = .ok (.istore_n 3, 1) := by decide +kernel
theorem dX4_behind_41 : decode cX4_behind 41 = .ok (.iinc 4 1, 3) := by decide +kernel
theorem dX4_behind_44 : decode cX4_behind 44 = .ok (.goto (-39), 3) := by decide +kernel
theorem dX4_behind_47 : decode cX4_behind 47 = .ok (.iload_n 3, 1) := by decide +kernel
theorem dX4_behind_48 : decode cX4_behind 48 = .ok (.ireturn, 1) := by decide +kernel
theorem dX4_orders_0 : decode cX4_orders 0 = .ok (.iconst 0, 1) := by decide +kernel
theorem dX4_orders_1 : decode cX4_orders 1 = .ok (.istore_n 1, 1) := by decide +kernel
theorem dX4_orders_2 : decode cX4_orders 2 = .ok (.iload_n 1, 1) := by decide +kernel
theorem dX4_orders_3 : decode cX4_orders 3 = .ok (.iconst 1, 1) := by decide +kernel
theorem dX4_orders_4 : decode cX4_orders 4 = .ok (.aload_n 0, 1) := by decide +kernel
theorem dX4_orders_5 : decode cX4_orders 5 = .ok (.getfield 73, 3) := by decide +kernel
theorem dX4_orders_8 : decode cX4_orders 8 = .ok (.ishl, 1) := by decide +kernel
theorem dX4_orders_9 : decode cX4_orders 9 = .ok (.if_icmp .ge 83, 3) := by decide +kernel
theorem dX4_orders_12 : decode cX4_orders 12 = .ok (.aload_n 0, 1) := by decide +kernel
theorem dX4_orders_13 : decode cX4_orders 13 = .ok (.getfield 76, 3) := by decide +kernel
theorem dX4_orders_16 : decode cX4_orders 16 = .ok (.iload_n 1, 1) := by decide +kernel
theorem dX4_orders_17 : decode cX4_orders 17 = .ok (.iconst 0, 1) := by decide +kernel
theorem dX4_orders_18 : decode cX4_orders 18 = .ok (.iastore, 1) := by decide +kernel
theorem dX4_orders_19 : decode cX4_orders 19 = .ok (.iconst 0, 1) := by decide +kernel
theorem dX4_orders_20 : decode cX4_orders 20 = .ok (.istore_n 2, 1) := by decide +kernel
theorem dX4_orders_21 : decode cX4_orders 21 = .ok (.iload_n 2, 1) := by decide +kernel
theorem dX4_orders_22 : decode cX4_orders 22 = .ok (.aload_n 0, 1) := by decide +kernel
theorem dX4_orders_23 : decode cX4_orders 23 = .ok (.getfield 73, 3) := by decide +kernel
theorem dX4_orders_26 : decode cX4_orders 26 = .ok (.if_icmp .ge 60, 3) := by decide +kernel
theorem dX4_orders_29 : decode cX4_orders 29 = .ok (.iload_n 1, 1) := by decide +kernel
theorem dX4_orders_30 : decode cX4_orders 30 = .ok (.iload_n 2, 1) := by decide +kernel
theorem dX4_orders_31 : decode cX4_orders 31 = .ok (.ishr, 1) := by decide +kernel
theorem dX4_orders_32 : decode cX4_orders 32 = .ok (.iconst 1, 1) := by decide +kernel
theorem dX4_orders_33 : decode cX4_orders 33 = .ok (.iand, 1) := by decide +kernel
theorem dX4_orders_34 : decode cX4_orders 34 = .ok (.ifCond .ne 6, 3) := by decide +kernel
theorem dX4_orders_37 : decode cX4_orders 37 = .ok (.goto 43, 3) := by decide +kernel
theorem dX4_orders_40 : decode cX4_orders 40 = .ok (.iconst 1, 1) := by decide +kernel
theorem dX4_orders_41 : decode cX4_orders 41 = .ok (.aload_n 0, 1) := by decide +kernel
theorem dX4_orders_42 : decode cX4_orders 42 = .ok (.getfield 76, 3) := by decide +kernel
theorem dX4_orders_45 : decode cX4_orders 45 = .ok (.aload_n 0, 1) := by decide +kernel
theorem dX4_orders_46 : decode cX4_orders 46 = .ok (.iload_n 1, 1) := by decide +kernel
theorem dX4_orders_47 : decode cX4_orders 47 = .ok (.iload_n 2, 1) := by decide +kernel
theorem dX4_orders_48 : decode cX4_orders 48 = .ok (.invokevirtual 154, 3) := by decide +kernel
theorem dX4_orders_51 : decode cX4_orders 51 = .ok (.iaload, 1) := by decide +kernel
theorem dX4_orders_52 : decode cX4_orders 52 = .ok (.iadd, 1) := by decide +kernel
theorem dX4_orders_53 : decode cX4_orders 53 = .ok (.istore_n 3, 1) := by decide +kernel
theorem dX4_orders_54 : decode cX4_orders 54 = .ok (.aload_n 0, 1) := by decide +kernel
theorem dX4_orders_55 : decode cX4_orders 55 = .ok (.getfield 76, 3) := by decide +kernel
theorem dX4_orders_58 : decode cX4_orders 58 = .ok (.iload_n 1, 1) := by decide +kernel
theorem dX4_orders_59 : decode cX4_orders 59 = .ok (.iload_n 3, 1) := by decide +kernel
theorem dX4_orders_60 : decode cX4_orders 60 = .ok (.aload_n 0, 1) := by decide +kernel
theorem dX4_orders_61 : decode cX4_orders 61 = .ok (.getfield 76, 3) := by decide +kernel
theorem dX4_orders_64 : decode cX4_orders 64 = .ok (.iload_n 1, 1) := by decide +kernel
theorem dX4_orders_65 : decode cX4_orders 65 = .ok (.iaload, 1) := by decide +kernel
theorem dX4_orders_66 : decode cX4_orders 66 = .ok (.if_icmp .le 7, 3) := by decide +kernel
theorem dX4_orders_69 : decode cX4_orders 69 = .ok (.iload_n 3, 1) := by decide +kernel
theorem dX4_orders_70 : decode cX4_orders 70 = .ok (.goto 9, 3) := by decide +kernel
theorem dX4_orders_73 : decode cX4_orders 73 = .ok (.aload_n 0, 1) := by decide +kernel
theorem dX4_orders_74 : decode cX4_orders 74 = .ok (.getfield 76, 3) := by decide +kernel
theorem dX4_orders_77 : decode cX4_orders 77 = .ok (.iload_n 1, 1) := by decide +kernel
theorem dX4_orders_78 : decode cX4_orders 78 = .ok (.iaload, 1) := by decide +kernel
theorem dX4_orders_79 : decode cX4_orders 79 = .ok (.iastore, 1) := by decide +kernel
theorem dX4_orders_80 : decode cX4_orders 80 = .ok (.iinc 2 1, 3) := by decide +kernel
theorem dX4_orders_83 : decode cX4_orders 83 = .ok (.goto (-62), 3) := by decide +kernel
theorem dX4_orders_86 : decode cX4_orders 86 = .ok (.iinc 1 1, 3) := by decide +kernel
theorem dX4_orders_89 : decode cX4_orders 89 = .ok (.goto (-87), 3) := by decide +kernel
theorem dX4_orders_92 : decode cX4_orders 92 = .ok (.return_, 1) := by decide +kernel
theorem dX4_below_0 : decode cX4_below 0 = .ok (.aload_n 0, 1) := by decide +kernel
theorem dX4_below_1 : decode cX4_below 1 = .ok (.invokevirtual 148, 3) := by decide +kernel
theorem dX4_below_4 : decode cX4_below 4 = .ok (.aload_n 0, 1) := by decide +kernel
theorem dX4_below_5 : decode cX4_below 5 = .ok (.getfield 73, 3) := by decide +kernel
theorem dX4_below_8 : decode cX4_below 8 = .ok (.bipush 10, 2) := by decide +kernel
theorem dX4_below_10 : decode cX4_below 10 = .ok (.if_icmp .le 6, 3) := by decide +kernel
theorem dX4_below_13 : decode cX4_below 13 = .ok (.bipush (-5), 2) := by decide +kernel
theorem dX4_below_15 : decode cX4_below 15 = .ok (.ireturn, 1) := by decide +kernel
theorem dX4_below_16 : decode cX4_below 16 = .ok (.aload_n 0, 1) := by decide +kernel
theorem dX4_below_17 : decode cX4_below 17 = .ok (.invokevirtual 158, 3) := by decide +kernel
theorem dX4_below_20 : decode cX4_below 20 = .ok (.aload_n 0, 1) := by decide +kernel
theorem dX4_below_21 : decode cX4_below 21 = .ok (.getfield 76, 3) := by decide +kernel
theorem dX4_below_24 : decode cX4_below 24 = .ok (.iconst 1, 1) := by decide +kernel
theorem dX4_below_25 : decode cX4_below 25 = .ok (.aload_n 0, 1) := by decide +kernel
theorem dX4_below_26 : decode cX4_below 26 = .ok (.getfield 73, 3) := by decide +kernel
theorem dX4_below_29 : decode cX4_below 29 = .ok (.ishl, 1) := by decide +kernel
theorem dX4_below_30 : decode cX4_below 30 = .ok (.iconst 1, 1) := by decide +kernel
theorem dX4_below_31 : decode cX4_below 31 = .ok (.isub, 1) := by decide +kernel
theorem dX4_below_32 : decode cX4_below 32 = .ok (.iaload, 1) := by decide +kernel
theorem dX4_below_33 : decode cX4_below 33 = .ok (.ireturn, 1) := by decide +kernel
theorem dX4_order_0 : decode cX4_order 0 = .ok (.aload_n 0, 1) := by decide +kernel
theorem dX4_order_1 : decode cX4_order 1 = .ok (.invokevirtual 148, 3) := by decide +kernel
theorem dX4_order_4 : decode cX4_order 4 = .ok (.aload_n 0, 1) := by decide +kernel
theorem dX4_order_5 : decode cX4_order 5 = .ok (.getfield 73, 3) := by decide +kernel
theorem dX4_order_8 : decode cX4_order 8 = .ok (.bipush 10, 2) := by decide +kernel
theorem dX4_order_10 : decode cX4_order 10 = .ok (.if_icmp .gt 7, 3) := by decide +kernel
theorem dX4_order_13 : decode cX4_order 13 = .ok (.iload_n 1, 1) := by decide +kernel
theorem dX4_order_14 : decode cX4_order 14 = .ok (.ifCond .ge 5, 3) := by decide +kernel
theorem dX4_order_17 : decode cX4_order 17 = .ok (.iconst (-1), 1) := by decide +kernel
theorem dX4_order_18 : decode cX4_order 18 = .ok (.ireturn, 1) := by decide +kernel
theorem dX4_order_19 : decode cX4_order 19 = .ok (.aload_n 0, 1) := by decide +kernel
theorem dX4_order_20 : decode cX4_order 20 = .ok (.invokevirtual 158, 3) := by decide +kernel
theorem dX4_order_23 : decode cX4_order 23 = .ok (.iconst 1, 1) := by decide +kernel
theorem dX4_order_24 : decode cX4_order 24 = .ok (.aload_n 0, 1) := by decide +kernel
theorem dX4_order_25 : decode cX4_order 25 = .ok (.getfield 73, 3) := by decide +kernel
theorem dX4_order_28 : decode cX4_order 28 = .ok (.ishl, 1) := by decide +kernel
theorem dX4_order_29 : decode cX4_order 29 = .ok (.iconst 1, 1) := by decide +kernel
theorem dX4_order_30 : decode cX4_order 30 = .ok (.isub, 1) := by decide +kernel
theorem dX4_order_31 : decode cX4_order 31 = .ok (.istore_n 2, 1) := by decide +kernel
theorem dX4_order_32 : decode cX4_order 32 = .ok (.iload_n 1, 1) := by decide +kernel
theorem dX4_order_33 : decode cX4_order 33 = .ok (.istore_n 3, 1) := by decide +kernel
theorem dX4_order_34 : decode cX4_order 34 = .ok (.aload_n 0, 1) := by decide +kernel
theorem dX4_order_35 : decode cX4_order 35 = .ok (.getfield 76, 3) := by decide +kernel
theorem dX4_order_38 : decode cX4_order 38 = .ok (.iload_n 2, 1) := by decide +kernel
theorem dX4_order_39 : decode cX4_order 39 = .ok (.iaload, 1) := by decide +kernel
theorem dX4_order_40 : decode cX4_order 40 = .ok (.ifCond .le 65, 3) := by decide +kernel
theorem dX4_order_43 : decode cX4_order 43 = .ok (.iconst 0, 1) := by decide +kernel
theorem dX4_order_44 : decode cX4_order 44 = .ok (.istore 4, 2) := by decide +kernel
theorem dX4_order_46 : decode cX4_order 46 = .ok (.iload_n 2, 1) := by decide +kernel
theorem dX4_order_47 : decode cX4_order 47 = .ok (.iload 4, 2) := by decide +kernel
theorem dX4_order_49 : decode cX4_order 49 = .ok (.ishr, 1) := by decide +kernel
theorem dX4_order_50 : decode cX4_order 50 = .ok (.iconst 1, 1) := by decide +kernel
theorem dX4_order_51 : decode cX4_order 51 = .ok (.iand, 1) := by decide +kernel
theorem dX4_order_52 : decode cX4_order 52 = .ok (.ifCond .eq 26, 3) := by decide +kernel
theorem dX4_order_55 : decode cX4_order 55 = .ok (.iconst 1, 1) := by decide +kernel
theorem dX4_order_56 : decode cX4_order 56 = .ok (.aload_n 0, 1) := by decide +kernel
theorem dX4_order_57 : decode cX4_order 57 = .ok (.getfield 76, 3) := by decide +kernel
theorem dX4_order_60 : decode cX4_order 60 = .ok (.aload_n 0, 1) := by decide +kernel
theorem dX4_order_61 : decode cX4_order 61 = .ok (.iload_n 2, 1) := by decide +kernel
theorem dX4_order_62 : decode cX4_order 62 = .ok (.iload 4, 2) := by decide +kernel
theorem dX4_order_64 : decode cX4_order 64 = .ok (.invokevirtual 154, 3) := by decide +kernel
theorem dX4_order_67 : decode cX4_order 67 = .ok (.iaload, 1) := by decide +kernel
theorem dX4_order_68 : decode cX4_order 68 = .ok (.iadd, 1) := by decide +kernel
theorem dX4_order_69 : decode cX4_order 69 = .ok (.aload_n 0, 1) := by decide +kernel
theorem dX4_order_70 : decode cX4_order 70 = .ok (.getfield 76, 3) := by decide +kernel
theorem dX4_order_73 : decode cX4_order 73 = .ok (.iload_n 2, 1) := by decide +kernel
theorem dX4_order_74 : decode cX4_order 74 = .ok (.iaload, 1) := by decide +kernel
theorem dX4_order_75 : decode cX4_order 75 = .ok (.if_icmp .ge 9, 3) := by decide +kernel
theorem dX4_order_78 : decode cX4_order 78 = .ok (.iinc 4 1, 3) := by decide +kernel
theorem dX4_order_81 : decode cX4_order 81 = .ok (.goto (-35), 3) := by decide +kernel
theorem dX4_order_84 : decode cX4_order 84 = .ok (.iload_n 3, 1) := by decide +kernel
theorem dX4_order_85 : decode cX4_order 85 = .ok (.ifCond .ne 6, 3) := by decide +kernel
theorem dX4_order_88 : decode cX4_order 88 = .ok (.iload 4, 2) := by decide +kernel
theorem dX4_order_90 : decode cX4_order 90 = .ok (.ireturn, 1) := by decide +kernel
theorem dX4_order_91 : decode cX4_order 91 = .ok (.iinc 3 (-1), 3) := by decide +kernel
theorem dX4_order_94 : decode cX4_order 94 = .ok (.aload_n 0, 1) := by decide +kernel
theorem dX4_order_95 : decode cX4_order 95 = .ok (.iload_n 2, 1) := by decide +kernel
theorem dX4_order_96 : decode cX4_order 96 = .ok (.iload 4, 2) := by decide +kernel
theorem dX4_order_98 : decode cX4_order 98 = .ok (.invokevirtual 154, 3) := by decide +kernel
theorem dX4_order_101 : decode cX4_order 101 = .ok (.istore_n 2, 1) := by decide +kernel
theorem dX4_order_102 : decode cX4_order 102 = .ok (.goto (-68), 3) := by decide +kernel
theorem dX4_order_105 : decode cX4_order 105 = .ok (.iconst (-1), 1) := by decide +kernel
theorem dX4_order_106 : decode cX4_order 106 = .ok (.ireturn, 1) := by decide +kernel
theorem dX4_goTogether_0 : decode cX4_goTogether 0 = .ok (.aload_n 0, 1) := by decide +kernel
theorem dX4_goTogether_1 : decode cX4_goTogether 1 = .ok (.getfield 70, 3) := by decide +kernel
theorem dX4_goTogether_4 : decode cX4_goTogether 4 = .ok (.iload_n 1, 1) := by decide +kernel
theorem dX4_goTogether_5 : decode cX4_goTogether 5 = .ok (.iaload, 1) := by decide +kernel
theorem dX4_goTogether_6 : decode cX4_goTogether 6 = .ok (.aload_n 0, 1) := by decide +kernel
theorem dX4_goTogether_7 : decode cX4_goTogether 7 = .ok (.getfield 70, 3) := by decide +kernel
theorem dX4_goTogether_10 : decode cX4_goTogether 10 = .ok (.iload_n 2, 1) := by decide +kernel
theorem dX4_goTogether_11 : decode cX4_goTogether 11 = .ok (.iaload, 1) := by decide +kernel
theorem dX4_goTogether_12 : decode cX4_goTogether 12 = .ok (.if_icmp .eq 60, 3) := by decide +kernel
theorem dX4_goTogether_15 : decode cX4_goTogether 15 = .ok (.aload_n 0, 1) := by decide +kernel
theorem dX4_goTogether_16 : decode cX4_goTogether 16 = .ok (.getfield 67, 3) := by decide +kernel
theorem dX4_goTogether_19 : decode cX4_goTogether 19 = .ok (.iload_n 1, 1) := by decide +kernel
theorem dX4_goTogether_20 : decode cX4_goTogether 20 = .ok (.iaload, 1) := by decide +kernel
theorem dX4_goTogether_21 : decode cX4_goTogether 21 = .ok (.aload_n 0, 1) := by decide +kernel
theorem dX4_goTogether_22 : decode cX4_goTogether 22 = .ok (.getfield 67, 3) := by decide +kernel
theorem dX4_goTogether_25 : decode cX4_goTogether 25 = .ok (.iload_n 2, 1) := by decide +kernel
theorem dX4_goTogether_26 : decode cX4_goTogether 26 = .ok (.iaload, 1) := by decide +kernel
theorem dX4_goTogether_27 : decode cX4_goTogether 27 = .ok (.if_icmp .eq 49, 3) := by decide +kernel
theorem dX4_goTogether_30 : decode cX4_goTogether 30 = .ok (.aload_n 0, 1) := by decide +kernel
theorem dX4_goTogether_31 : decode cX4_goTogether 31 = .ok (.aload_n 0, 1) := by decide +kernel
theorem dX4_goTogether_32 : decode cX4_goTogether 32 = .ok (.getfield 67, 3) := by decide +kernel
theorem dX4_goTogether_35 : decode cX4_goTogether 35 = .ok (.iload_n 2, 1) := by decide +kernel
theorem dX4_goTogether_36 : decode cX4_goTogether 36 = .ok (.iaload, 1) := by decide +kernel
theorem dX4_goTogether_37 : decode cX4_goTogether 37 = .ok (.iconst 1, 1) := by decide +kernel
theorem dX4_goTogether_38 : decode cX4_goTogether 38 = .ok (.aload_n 0, 1) := by decide +kernel
theorem dX4_goTogether_39 : decode cX4_goTogether 39 = .ok (.getfield 70, 3) := by decide +kernel
theorem dX4_goTogether_42 : decode cX4_goTogether 42 = .ok (.iload_n 1, 1) := by decide +kernel
theorem dX4_goTogether_43 : decode cX4_goTogether 43 = .ok (.iaload, 1) := by decide +kernel
theorem dX4_goTogether_44 : decode cX4_goTogether 44 = .ok (.ishl, 1) := by decide +kernel
theorem dX4_goTogether_45 : decode cX4_goTogether 45 = .ok (.invokevirtual 124, 3) := by decide +kernel
theorem dX4_goTogether_48 : decode cX4_goTogether 48 = .ok (.ifCond .eq 28, 3) := by decide +kernel
theorem dX4_goTogether_51 : decode cX4_goTogether 51 = .ok (.aload_n 0, 1) := by decide +kernel
theorem dX4_goTogether_52 : decode cX4_goTogether 52 = .ok (.aload_n 0, 1) := by decide +kernel
theorem dX4_goTogether_53 : decode cX4_goTogether 53 = .ok (.getfield 67, 3) := by decide +kernel
theorem dX4_goTogether_56 : decode cX4_goTogether 56 = .ok (.iload_n 1, 1) := by decide +kernel
theorem dX4_goTogether_57 : decode cX4_goTogether 57 = .ok (.iaload, 1) := by decide +kernel
theorem dX4_goTogether_58 : decode cX4_goTogether 58 = .ok (.iconst 1, 1) := by decide +kernel
theorem dX4_goTogether_59 : decode cX4_goTogether 59 = .ok (.aload_n 0, 1) := by decide +kernel
theorem dX4_goTogether_60 : decode cX4_goTogether 60 = .ok (.getfield 70, 3) := by decide +kernel
theorem dX4_goTogether_63 : decode cX4_goTogether 63 = .ok (.iload_n 2, 1) := by decide +kernel
theorem dX4_goTogether_64 : decode cX4_goTogether 64 = .ok (.iaload, 1) := by decide +kernel
theorem dX4_goTogether_65 : decode cX4_goTogether 65 = .ok (.ishl, 1) := by decide +kernel
theorem dX4_goTogether_66 : decode cX4_goTogether 66 = .ok (.invokevirtual 124, 3) := by decide +kernel
theorem dX4_goTogether_69 : decode cX4_goTogether 69 = .ok (.ifCond .eq 7, 3) := by decide +kernel
theorem dX4_goTogether_72 : decode cX4_goTogether 72 = .ok (.iconst 1, 1) := by decide +kernel
theorem dX4_goTogether_73 : decode cX4_goTogether 73 = .ok (.goto 4, 3) := by decide +kernel
theorem dX4_goTogether_76 : decode cX4_goTogether 76 = .ok (.iconst 0, 1) := by decide +kernel
theorem dX4_goTogether_77 : decode cX4_goTogether 77 = .ok (.ireturn, 1) := by decide +kernel
theorem dX4_groups_0 : decode cX4_groups 0 = .ok (.iconst 0, 1) := by decide +kernel
theorem dX4_groups_1 : decode cX4_groups 1 = .ok (.istore_n 1, 1) := by decide +kernel
theorem dX4_groups_2 : decode cX4_groups 2 = .ok (.iload_n 1, 1) := by decide +kernel
theorem dX4_groups_3 : decode cX4_groups 3 = .ok (.iconst 1, 1) := by decide +kernel
theorem dX4_groups_4 : decode cX4_groups 4 = .ok (.aload_n 0, 1) := by decide +kernel
theorem dX4_groups_5 : decode cX4_groups 5 = .ok (.getfield 73, 3) := by decide +kernel
theorem dX4_groups_8 : decode cX4_groups 8 = .ok (.ishl, 1) := by decide +kernel
theorem dX4_groups_9 : decode cX4_groups 9 = .ok (.if_icmp .ge 177, 3) := by decide +kernel
theorem dX4_groups_12 : decode cX4_groups 12 = .ok (.aload_n 0, 1) := by decide +kernel
theorem dX4_groups_13 : decode cX4_groups 13 = .ok (.getfield 79, 3) := by decide +kernel
theorem dX4_groups_16 : decode cX4_groups 16 = .ok (.iload_n 1, 1) := by decide +kernel
theorem dX4_groups_17 : decode cX4_groups 17 = .ok (.iload_n 1, 1) := by decide +kernel
theorem dX4_groups_18 : decode cX4_groups 18 = .ok (.ifCond .le 7, 3) := by decide +kernel
theorem dX4_groups_21 : decode cX4_groups 21 = .ok (.iconst 1, 1) := by decide +kernel
theorem dX4_groups_22 : decode cX4_groups 22 = .ok (.goto 4, 3) := by decide +kernel
theorem dX4_groups_25 : decode cX4_groups 25 = .ok (.iconst 0, 1) := by decide +kernel
theorem dX4_groups_26 : decode cX4_groups 26 = .ok (.bastore, 1) := by decide +kernel
theorem dX4_groups_27 : decode cX4_groups 27 = .ok (.iconst 0, 1) := by decide +kernel
theorem dX4_groups_28 : decode cX4_groups 28 = .ok (.istore_n 2, 1) := by decide +kernel
theorem dX4_groups_29 : decode cX4_groups 29 = .ok (.iload_n 2, 1) := by decide +kernel
theorem dX4_groups_30 : decode cX4_groups 30 = .ok (.aload_n 0, 1) := by decide +kernel
theorem dX4_groups_31 : decode cX4_groups 31 = .ok (.getfield 73, 3) := by decide +kernel
theorem dX4_groups_34 : decode cX4_groups 34 = .ok (.if_icmp .ge 56, 3) := by decide +kernel
theorem dX4_groups_37 : decode cX4_groups 37 = .ok (.iconst 0, 1) := by decide +kernel
theorem dX4_groups_38 : decode cX4_groups 38 = .ok (.istore_n 3, 1) := by decide +kernel
theorem dX4_groups_39 : decode cX4_groups 39 = .ok (.iload_n 3, 1) := by decide +kernel
theorem dX4_groups_40 : decode cX4_groups 40 = .ok (.iload_n 2, 1) := by decide +kernel
theorem dX4_groups_41 : decode cX4_groups 41 = .ok (.if_icmp .ge 43, 3) := by decide +kernel
theorem dX4_groups_44 : decode cX4_groups 44 = .ok (.iload_n 1, 1) := by decide +kernel
theorem dX4_groups_45 : decode cX4_groups 45 = .ok (.iload_n 2, 1) := by decide +kernel
theorem dX4_groups_46 : decode cX4_groups 46 = .ok (.ishr, 1) := by decide +kernel
theorem dX4_groups_47 : decode cX4_groups 47 = .ok (.iconst 1, 1) := by decide +kernel
theorem dX4_groups_48 : decode cX4_groups 48 = .ok (.iand, 1) := by decide +kernel
theorem dX4_groups_49 : decode cX4_groups 49 = .ok (.iconst 1, 1) := by decide +kernel
theorem dX4_groups_50 : decode cX4_groups 50 = .ok (.if_icmp .ne 28, 3) := by decide +kernel
theorem dX4_groups_53 : decode cX4_groups 53 = .ok (.iload_n 1, 1) := by decide +kernel
theorem dX4_groups_54 : decode cX4_groups 54 = .ok (.iload_n 3, 1) := by decide +kernel
theorem dX4_groups_55 : decode cX4_groups 55 = .ok (.ishr, 1) := by decide +kernel
theorem dX4_groups_56 : decode cX4_groups 56 = .ok (.iconst 1, 1) := by decide +kernel
theorem dX4_groups_57 : decode cX4_groups 57 = .ok (.iand, 1) := by decide +kernel
theorem dX4_groups_58 : decode cX4_groups 58 = .ok (.iconst 1, 1) := by decide +kernel
theorem dX4_groups_59 : decode cX4_groups 59 = .ok (.if_icmp .ne 19, 3) := by decide +kernel
theorem dX4_groups_62 : decode cX4_groups 62 = .ok (.aload_n 0, 1) := by decide +kernel
theorem dX4_groups_63 : decode cX4_groups 63 = .ok (.iload_n 2, 1) := by decide +kernel
theorem dX4_groups_64 : decode cX4_groups 64 = .ok (.iload_n 3, 1) := by decide +kernel
theorem dX4_groups_65 : decode cX4_groups 65 = .ok (.invokevirtual 161, 3) := by decide +kernel
theorem dX4_groups_68 : decode cX4_groups 68 = .ok (.ifCond .ne 10, 3) := by decide +kernel
theorem dX4_groups_71 : decode cX4_groups 71 = .ok (.aload_n 0, 1) := by decide +kernel
theorem dX4_groups_72 : decode cX4_groups 72 = .ok (.getfield 79, 3) := by decide +kernel
theorem dX4_groups_75 : decode cX4_groups 75 = .ok (.iload_n 1, 1) := by decide +kernel
theorem dX4_groups_76 : decode cX4_groups 76 = .ok (.iconst 0, 1) := by decide +kernel
theorem dX4_groups_77 : decode cX4_groups 77 = .ok (.bastore, 1) := by decide +kernel
theorem dX4_groups_78 : decode cX4_groups 78 = .ok (.iinc 3 1, 3) := by decide +kernel
theorem dX4_groups_81 : decode cX4_groups 81 = .ok (.goto (-42), 3) := by decide +kernel
theorem dX4_groups_84 : decode cX4_groups 84 = .ok (.iinc 2 1, 3) := by decide +kernel
theorem dX4_groups_87 : decode cX4_groups 87 = .ok (.goto (-58), 3) := by decide +kernel
theorem dX4_groups_90 : decode cX4_groups 90 = .ok (.aload_n 0, 1) := by decide +kernel
theorem dX4_groups_91 : decode cX4_groups 91 = .ok (.getfield 76, 3) := by decide +kernel
theorem dX4_groups_94 : decode cX4_groups 94 = .ok (.iload_n 1, 1) := by decide +kernel
theorem dX4_groups_95 : decode cX4_groups 95 = .ok (.iload_n 1, 1) := by decide +kernel
theorem dX4_groups_96 : decode cX4_groups 96 = .ok (.ifCond .ne 7, 3) := by decide +kernel
theorem dX4_groups_99 : decode cX4_groups 99 = .ok (.iconst 0, 1) := by decide +kernel
theorem dX4_groups_100 : decode cX4_groups 100 = .ok (.goto 5, 3) := by decide +kernel
theorem dX4_groups_103 : decode cX4_groups 103 = .ok (.bipush 100, 2) := by decide +kernel
theorem dX4_groups_105 : decode cX4_groups 105 = .ok (.iastore, 1) := by decide +kernel
theorem dX4_groups_106 : decode cX4_groups 106 = .ok (.iload_n 1, 1) := by decide +kernel
theorem dX4_groups_107 : decode cX4_groups 107 = .ok (.iload_n 1, 1) := by decide +kernel
theorem dX4_groups_108 : decode cX4_groups 108 = .ok (.ineg, 1) := by decide +kernel
theorem dX4_groups_109 : decode cX4_groups 109 = .ok (.iand, 1) := by decide +kernel
theorem dX4_groups_110 : decode cX4_groups 110 = .ok (.istore_n 2, 1) := by decide +kernel
theorem dX4_groups_111 : decode cX4_groups 111 = .ok (.iload_n 1, 1) := by decide +kernel
theorem dX4_groups_112 : decode cX4_groups 112 = .ok (.istore_n 3, 1) := by decide +kernel
theorem dX4_groups_113 : decode cX4_groups 113 = .ok (.iload_n 3, 1) := by decide +kernel
theorem dX4_groups_114 : decode cX4_groups 114 = .ok (.ifCond .le 66, 3) := by decide +kernel
theorem dX4_groups_117 : decode cX4_groups 117 = .ok (.iload_n 3, 1) := by decide +kernel
theorem dX4_groups_118 : decode cX4_groups 118 = .ok (.iload_n 2, 1) := by decide +kernel
theorem dX4_groups_119 : decode cX4_groups 119 = .ok (.iand, 1) := by decide +kernel
theorem dX4_groups_120 : decode cX4_groups 120 = .ok (.ifCond .eq 51, 3) := by decide +kernel
theorem dX4_groups_123 : decode cX4_groups 123 = .ok (.aload_n 0, 1) := by decide +kernel
theorem dX4_groups_124 : decode cX4_groups 124 = .ok (.getfield 79, 3) := by decide +kernel
theorem dX4_groups_127 : decode cX4_groups 127 = .ok (.iload_n 3, 1) := by decide +kernel
theorem dX4_groups_128 : decode cX4_groups 128 = .ok (.baload, 1) := by decide +kernel
theorem dX4_groups_129 : decode cX4_groups 129 = .ok (.ifCond .eq 42, 3) := by decide +kernel
theorem dX4_groups_132 : decode cX4_groups 132 = .ok (.iconst 1, 1) := by decide +kernel
theorem dX4_groups_133 : decode cX4_groups 133 = .ok (.aload_n 0, 1) := by decide +kernel
theorem dX4_groups_134 : decode cX4_groups 134 = .ok (.getfield 76, 3) := by decide +kernel
theorem dX4_groups_137 : decode cX4_groups 137 = .ok (.iload_n 1, 1) := by decide +kernel
theorem dX4_groups_138 : decode cX4_groups 138 = .ok (.iload_n 3, 1) := by decide +kernel
theorem dX4_groups_139 : decode cX4_groups 139 = .ok (.iconst (-1), 1) := by decide +kernel
theorem dX4_groups_140 : decode cX4_groups 140 = .ok (.ixor, 1) := by decide +kernel
theorem dX4_groups_141 : decode cX4_groups 141 = .ok (.iand, 1) := by decide +kernel
theorem dX4_groups_142 : decode cX4_groups 142 = .ok (.iaload, 1) := by decide +kernel
theorem dX4_groups_143 : decode cX4_groups 143 = .ok (.iadd, 1) := by decide +kernel
theorem dX4_groups_144 : decode cX4_groups 144 = .ok (.aload_n 0, 1) := by decide +kernel
theorem dX4_groups_145 : decode cX4_groups 145 = .ok (.getfield 76, 3) := by decide +kernel
theorem dX4_groups_148 : decode cX4_groups 148 = .ok (.iload_n 1, 1) := by decide +kernel
theorem dX4_groups_149 : decode cX4_groups 149 = .ok (.iaload, 1) := by decide +kernel
theorem dX4_groups_150 : decode cX4_groups 150 = .ok (.if_icmp .ge 21, 3) := by decide +kernel
theorem dX4_groups_153 : decode cX4_groups 153 = .ok (.aload_n 0, 1) := by decide +kernel
theorem dX4_groups_154 : decode cX4_groups 154 = .ok (.getfield 76, 3) := by decide +kernel
theorem dX4_groups_157 : decode cX4_groups 157 = .ok (.iload_n 1, 1) := by decide +kernel
theorem dX4_groups_158 : decode cX4_groups 158 = .ok (.iconst 1, 1) := by decide +kernel
theorem dX4_groups_159 : decode cX4_groups 159 = .ok (.aload_n 0, 1) := by decide +kernel
theorem dX4_groups_160 : decode cX4_groups 160 = .ok (.getfield 76, 3) := by decide +kernel
theorem dX4_groups_163 : decode cX4_groups 163 = .ok (.iload_n 1, 1) := by decide +kernel
theorem dX4_groups_164 : decode cX4_groups 164 = .ok (.iload_n 3, 1) := by decide +kernel
theorem dX4_groups_165 : decode cX4_groups 165 = .ok (.iconst (-1), 1) := by decide +kernel
theorem dX4_groups_166 : decode cX4_groups 166 = .ok (.ixor, 1) := by decide +kernel
theorem dX4_groups_167 : decode cX4_groups 167 = .ok (.iand, 1) := by decide +kernel
theorem dX4_groups_168 : decode cX4_groups 168 = .ok (.iaload, 1) := by decide +kernel
theorem dX4_groups_169 : decode cX4_groups 169 = .ok (.iadd, 1) := by decide +kernel
theorem dX4_groups_170 : decode cX4_groups 170 = .ok (.iastore, 1) := by decide +kernel
theorem dX4_groups_171 : decode cX4_groups 171 = .ok (.iload_n 3, 1) := by decide +kernel
theorem dX4_groups_172 : decode cX4_groups 172 = .ok (.iconst 1, 1) := by decide +kernel
theorem dX4_groups_173 : decode cX4_groups 173 = .ok (.isub, 1) := by decide +kernel
theorem dX4_groups_174 : decode cX4_groups 174 = .ok (.iload_n 1, 1) := by decide +kernel
theorem dX4_groups_175 : decode cX4_groups 175 = .ok (.iand, 1) := by decide +kernel
theorem dX4_groups_176 : decode cX4_groups 176 = .ok (.istore_n 3, 1) := by decide +kernel
theorem dX4_groups_177 : decode cX4_groups 177 = .ok (.goto (-64), 3) := by decide +kernel
theorem dX4_groups_180 : decode cX4_groups 180 = .ok (.iinc 1 1, 3) := by decide +kernel
theorem dX4_groups_183 : decode cX4_groups 183 = .ok (.goto (-181), 3) := by decide +kernel
theorem dX4_groups_186 : decode cX4_groups 186 = .ok (.return_, 1) := by decide +kernel
theorem dX4_above_0 : decode cX4_above 0 = .ok (.aload_n 0, 1) := by decide +kernel
theorem dX4_above_1 : decode cX4_above 1 = .ok (.invokevirtual 148, 3) := by decide +kernel
theorem dX4_above_4 : decode cX4_above 4 = .ok (.aload_n 0, 1) := by decide +kernel
theorem dX4_above_5 : decode cX4_above 5 = .ok (.getfield 73, 3) := by decide +kernel
theorem dX4_above_8 : decode cX4_above 8 = .ok (.bipush 10, 2) := by decide +kernel
theorem dX4_above_10 : decode cX4_above 10 = .ok (.if_icmp .le 6, 3) := by decide +kernel
theorem dX4_above_13 : decode cX4_above 13 = .ok (.bipush (-5), 2) := by decide +kernel
theorem dX4_above_15 : decode cX4_above 15 = .ok (.ireturn, 1) := by decide +kernel
theorem dX4_above_16 : decode cX4_above 16 = .ok (.aload_n 0, 1) := by decide +kernel
theorem dX4_above_17 : decode cX4_above 17 = .ok (.invokevirtual 164, 3) := by decide +kernel
theorem dX4_above_20 : decode cX4_above 20 = .ok (.aload_n 0, 1) := by decide +kernel
theorem dX4_above_21 : decode cX4_above 21 = .ok (.getfield 76, 3) := by decide +kernel
theorem dX4_above_24 : decode cX4_above 24 = .ok (.iconst 1, 1) := by decide +kernel
theorem dX4_above_25 : decode cX4_above 25 = .ok (.aload_n 0, 1) := by decide +kernel
theorem dX4_above_26 : decode cX4_above 26 = .ok (.getfield 73, 3) := by decide +kernel
theorem dX4_above_29 : decode cX4_above 29 = .ok (.ishl, 1) := by decide +kernel
theorem dX4_above_30 : decode cX4_above 30 = .ok (.iconst 1, 1) := by decide +kernel
theorem dX4_above_31 : decode cX4_above 31 = .ok (.isub, 1) := by decide +kernel
theorem dX4_above_32 : decode cX4_above 32 = .ok (.iaload, 1) := by decide +kernel
theorem dX4_above_33 : decode cX4_above 33 = .ok (.ireturn, 1) := by decide +kernel
theorem dX4_group_0 : decode cX4_group 0 = .ok (.aload_n 0, 1) := by decide +kernel
theorem dX4_group_1 : decode cX4_group 1 = .ok (.invokevirtual 148, 3) := by decide +kernel
theorem dX4_group_4 : decode cX4_group 4 = .ok (.aload_n 0, 1) := by decide +kernel
theorem dX4_group_5 : decode cX4_group 5 = .ok (.getfield 73, 3) := by decide +kernel
theorem dX4_group_8 : decode cX4_group 8 = .ok (.bipush 10, 2) := by decide +kernel
theorem dX4_group_10 : decode cX4_group 10 = .ok (.if_icmp .gt 7, 3) := by decide +kernel
theorem dX4_group_13 : decode cX4_group 13 = .ok (.iload_n 1, 1) := by decide +kernel
theorem dX4_group_14 : decode cX4_group 14 = .ok (.ifCond .ge 5, 3) := by decide +kernel
theorem dX4_group_17 : decode cX4_group 17 = .ok (.iconst (-1), 1) := by decide +kernel
theorem dX4_group_18 : decode cX4_group 18 = .ok (.ireturn, 1) := by decide +kernel
theorem dX4_group_19 : decode cX4_group 19 = .ok (.aload_n 0, 1) := by decide +kernel
theorem dX4_group_20 : decode cX4_group 20 = .ok (.invokevirtual 164, 3) := by decide +kernel
theorem dX4_group_23 : decode cX4_group 23 = .ok (.iconst 1, 1) := by decide +kernel
theorem dX4_group_24 : decode cX4_group 24 = .ok (.aload_n 0, 1) := by decide +kernel
theorem dX4_group_25 : decode cX4_group 25 = .ok (.getfield 73, 3) := by decide +kernel
theorem dX4_group_28 : decode cX4_group 28 = .ok (.ishl, 1) := by decide +kernel
theorem dX4_group_29 : decode cX4_group 29 = .ok (.iconst 1, 1) := by decide +kernel
theorem dX4_group_30 : decode cX4_group 30 = .ok (.isub, 1) := by decide +kernel
theorem dX4_group_31 : decode cX4_group 31 = .ok (.istore_n 2, 1) := by decide +kernel
theorem dX4_group_32 : decode cX4_group 32 = .ok (.iload_n 1, 1) := by decide +kernel
theorem dX4_group_33 : decode cX4_group 33 = .ok (.istore_n 3, 1) := by decide +kernel
theorem dX4_group_34 : decode cX4_group 34 = .ok (.iload_n 2, 1) := by decide +kernel
theorem dX4_group_35 : decode cX4_group 35 = .ok (.ifCond .le 83, 3) := by decide +kernel
theorem dX4_group_38 : decode cX4_group 38 = .ok (.iconst 1, 1) := by decide +kernel
theorem dX4_group_39 : decode cX4_group 39 = .ok (.istore 4, 2) := by decide +kernel
theorem dX4_group_41 : decode cX4_group 41 = .ok (.iload 4, 2) := by decide +kernel
theorem dX4_group_43 : decode cX4_group 43 = .ok (.iload_n 2, 1) := by decide +kernel
theorem dX4_group_44 : decode cX4_group 44 = .ok (.iconst (-1), 1) := by decide +kernel
theorem dX4_group_45 : decode cX4_group 45 = .ok (.ixor, 1) := by decide +kernel
theorem dX4_group_46 : decode cX4_group 46 = .ok (.iand, 1) := by decide +kernel
theorem dX4_group_47 : decode cX4_group 47 = .ok (.ifCond .ne 45, 3) := by decide +kernel
theorem dX4_group_50 : decode cX4_group 50 = .ok (.iload 4, 2) := by decide +kernel
theorem dX4_group_52 : decode cX4_group 52 = .ok (.iload_n 2, 1) := by decide +kernel
theorem dX4_group_53 : decode cX4_group 53 = .ok (.iand, 1) := by decide +kernel
theorem dX4_group_54 : decode cX4_group 54 = .ok (.iload_n 2, 1) := by decide +kernel
theorem dX4_group_55 : decode cX4_group 55 = .ok (.ineg, 1) := by decide +kernel
theorem dX4_group_56 : decode cX4_group 56 = .ok (.iand, 1) := by decide +kernel
theorem dX4_group_57 : decode cX4_group 57 = .ok (.ifCond .eq 35, 3) := by decide +kernel
theorem dX4_group_60 : decode cX4_group 60 = .ok (.aload_n 0, 1) := by decide +kernel
theorem dX4_group_61 : decode cX4_group 61 = .ok (.getfield 79, 3) := by decide +kernel
theorem dX4_group_64 : decode cX4_group 64 = .ok (.iload 4, 2) := by decide +kernel
theorem dX4_group_66 : decode cX4_group 66 = .ok (.baload, 1) := by decide +kernel
theorem dX4_group_67 : decode cX4_group 67 = .ok (.ifCond .eq 25, 3) := by decide +kernel
theorem dX4_group_70 : decode cX4_group 70 = .ok (.iconst 1, 1) := by decide +kernel
theorem dX4_group_71 : decode cX4_group 71 = .ok (.aload_n 0, 1) := by decide +kernel
theorem dX4_group_72 : decode cX4_group 72 = .ok (.getfield 76, 3) := by decide +kernel
theorem dX4_group_75 : decode cX4_group 75 = .ok (.iload_n 2, 1) := by decide +kernel
theorem dX4_group_76 : decode cX4_group 76 = .ok (.iload 4, 2) := by decide +kernel
theorem dX4_group_78 : decode cX4_group 78 = .ok (.iconst (-1), 1) := by decide +kernel
theorem dX4_group_79 : decode cX4_group 79 = .ok (.ixor, 1) := by decide +kernel
theorem dX4_group_80 : decode cX4_group 80 = .ok (.iand, 1) := by decide +kernel
theorem dX4_group_81 : decode cX4_group 81 = .ok (.iaload, 1) := by decide +kernel
theorem dX4_group_82 : decode cX4_group 82 = .ok (.iadd, 1) := by decide +kernel
theorem dX4_group_83 : decode cX4_group 83 = .ok (.aload_n 0, 1) := by decide +kernel
theorem dX4_group_84 : decode cX4_group 84 = .ok (.getfield 76, 3) := by decide +kernel
theorem dX4_group_87 : decode cX4_group 87 = .ok (.iload_n 2, 1) := by decide +kernel
theorem dX4_group_88 : decode cX4_group 88 = .ok (.iaload, 1) := by decide +kernel
theorem dX4_group_89 : decode cX4_group 89 = .ok (.if_icmp .le 9, 3) := by decide +kernel
theorem dX4_group_92 : decode cX4_group 92 = .ok (.iinc 4 1, 3) := by decide +kernel
theorem dX4_group_95 : decode cX4_group 95 = .ok (.goto (-54), 3) := by decide +kernel
theorem dX4_group_98 : decode cX4_group 98 = .ok (.iload_n 3, 1) := by decide +kernel
theorem dX4_group_99 : decode cX4_group 99 = .ok (.ifCond .ne 6, 3) := by decide +kernel
theorem dX4_group_102 : decode cX4_group 102 = .ok (.iload 4, 2) := by decide +kernel
theorem dX4_group_104 : decode cX4_group 104 = .ok (.ireturn, 1) := by decide +kernel
theorem dX4_group_105 : decode cX4_group 105 = .ok (.iinc 3 (-1), 3) := by decide +kernel
theorem dX4_group_108 : decode cX4_group 108 = .ok (.iload_n 2, 1) := by decide +kernel
theorem dX4_group_109 : decode cX4_group 109 = .ok (.iload 4, 2) := by decide +kernel
theorem dX4_group_111 : decode cX4_group 111 = .ok (.iconst (-1), 1) := by decide +kernel
theorem dX4_group_112 : decode cX4_group 112 = .ok (.ixor, 1) := by decide +kernel
theorem dX4_group_113 : decode cX4_group 113 = .ok (.iand, 1) := by decide +kernel
theorem dX4_group_114 : decode cX4_group 114 = .ok (.istore_n 2, 1) := by decide +kernel
theorem dX4_group_115 : decode cX4_group 115 = .ok (.goto (-81), 3) := by decide +kernel
theorem dX4_group_118 : decode cX4_group 118 = .ok (.iconst (-1), 1) := by decide +kernel
theorem dX4_group_119 : decode cX4_group 119 = .ok (.ireturn, 1) := by decide +kernel
theorem dX4_with_0 : decode cX4_with 0 = .ok (.iload_n 1, 1) := by decide +kernel
theorem dX4_with_1 : decode cX4_with 1 = .ok (.istore_n 3, 1) := by decide +kernel
theorem dX4_with_2 : decode cX4_with 2 = .ok (.iconst 0, 1) := by decide +kernel
theorem dX4_with_3 : decode cX4_with 3 = .ok (.istore 4, 2) := by decide +kernel
theorem dX4_with_5 : decode cX4_with 5 = .ok (.iload 4, 2) := by decide +kernel
theorem dX4_with_7 : decode cX4_with 7 = .ok (.iconst 5, 1) := by decide +kernel
theorem dX4_with_8 : decode cX4_with 8 = .ok (.if_icmp .ge 92, 3) := by decide +kernel
theorem dX4_with_11 : decode cX4_with 11 = .ok (.iload_n 2, 1) := by decide +kernel
theorem dX4_with_12 : decode cX4_with 12 = .ok (.iload 4, 2) := by decide +kernel
theorem dX4_with_14 : decode cX4_with 14 = .ok (.ishr, 1) := by decide +kernel
theorem dX4_with_15 : decode cX4_with 15 = .ok (.iconst 1, 1) := by decide +kernel
theorem dX4_with_16 : decode cX4_with 16 = .ok (.iand, 1) := by decide +kernel
theorem dX4_with_17 : decode cX4_with 17 = .ok (.ifCond .ne 6, 3) := by decide +kernel
theorem dX4_with_20 : decode cX4_with 20 = .ok (.goto 74, 3) := by decide +kernel
theorem dX4_with_23 : decode cX4_with 23 = .ok (.iconst 1, 1) := by decide +kernel
theorem dX4_with_24 : decode cX4_with 24 = .ok (.iload 4, 2) := by decide +kernel
theorem dX4_with_26 : decode cX4_with 26 = .ok (.ishl, 1) := by decide +kernel
theorem dX4_with_27 : decode cX4_with 27 = .ok (.istore 5, 2) := by decide +kernel
theorem dX4_with_29 : decode cX4_with 29 = .ok (.iload 5, 2) := by decide +kernel
theorem dX4_with_31 : decode cX4_with 31 = .ok (.iconst 1, 1) := by decide +kernel
theorem dX4_with_32 : decode cX4_with 32 = .ok (.if_icmp .ne 8, 3) := by decide +kernel
theorem dX4_with_35 : decode cX4_with 35 = .ok (.ldc 167, 2) := by decide +kernel
theorem dX4_with_37 : decode cX4_with 37 = .ok (.goto 39, 3) := by decide +kernel
theorem dX4_with_40 : decode cX4_with 40 = .ok (.iload 5, 2) := by decide +kernel
theorem dX4_with_42 : decode cX4_with 42 = .ok (.iconst 2, 1) := by decide +kernel
theorem dX4_with_43 : decode cX4_with 43 = .ok (.if_icmp .ne 8, 3) := by decide +kernel
theorem dX4_with_46 : decode cX4_with 46 = .ok (.ldc 168, 2) := by decide +kernel
theorem dX4_with_48 : decode cX4_with 48 = .ok (.goto 28, 3) := by decide +kernel
theorem dX4_with_51 : decode cX4_with 51 = .ok (.iload 5, 2) := by decide +kernel
theorem dX4_with_53 : decode cX4_with 53 = .ok (.iconst 4, 1) := by decide +kernel
theorem dX4_with_54 : decode cX4_with 54 = .ok (.if_icmp .ne 8, 3) := by decide +kernel
theorem dX4_with_57 : decode cX4_with 57 = .ok (.ldc 169, 2) := by decide +kernel
theorem dX4_with_59 : decode cX4_with 59 = .ok (.goto 17, 3) := by decide +kernel
theorem dX4_with_62 : decode cX4_with 62 = .ok (.iload 5, 2) := by decide +kernel
theorem dX4_with_64 : decode cX4_with 64 = .ok (.bipush 8, 2) := by decide +kernel
theorem dX4_with_66 : decode cX4_with 66 = .ok (.if_icmp .ne 8, 3) := by decide +kernel
theorem dX4_with_69 : decode cX4_with 69 = .ok (.ldc 170, 2) := by decide +kernel
theorem dX4_with_71 : decode cX4_with 71 = .ok (.goto 5, 3) := by decide +kernel
theorem dX4_with_74 : decode cX4_with 74 = .ok (.ldc 171, 2) := by decide +kernel
theorem dX4_with_76 : decode cX4_with 76 = .ok (.istore 6, 2) := by decide +kernel
theorem dX4_with_78 : decode cX4_with 78 = .ok (.iload_n 3, 1) := by decide +kernel
theorem dX4_with_79 : decode cX4_with 79 = .ok (.iload 5, 2) := by decide +kernel
theorem dX4_with_81 : decode cX4_with 81 = .ok (.iushr, 1) := by decide +kernel
theorem dX4_with_82 : decode cX4_with 82 = .ok (.iload 6, 2) := by decide +kernel
theorem dX4_with_84 : decode cX4_with 84 = .ok (.iand, 1) := by decide +kernel
theorem dX4_with_85 : decode cX4_with 85 = .ok (.iload_n 3, 1) := by decide +kernel
theorem dX4_with_86 : decode cX4_with 86 = .ok (.iload 6, 2) := by decide +kernel
theorem dX4_with_88 : decode cX4_with 88 = .ok (.iand, 1) := by decide +kernel
theorem dX4_with_89 : decode cX4_with 89 = .ok (.iload 5, 2) := by decide +kernel
theorem dX4_with_91 : decode cX4_with 91 = .ok (.ishl, 1) := by decide +kernel
theorem dX4_with_92 : decode cX4_with 92 = .ok (.ior, 1) := by decide +kernel
theorem dX4_with_93 : decode cX4_with 93 = .ok (.istore_n 3, 1) := by decide +kernel
theorem dX4_with_94 : decode cX4_with 94 = .ok (.iinc 4 1, 3) := by decide +kernel
theorem dX4_with_97 : decode cX4_with 97 = .ok (.goto (-92), 3) := by decide +kernel
theorem dX4_with_100 : decode cX4_with 100 = .ok (.iload_n 1, 1) := by decide +kernel
theorem dX4_with_101 : decode cX4_with 101 = .ok (.iload_n 3, 1) := by decide +kernel
theorem dX4_with_102 : decode cX4_with 102 = .ok (.ior, 1) := by decide +kernel
theorem dX4_with_103 : decode cX4_with 103 = .ok (.ireturn, 1) := by decide +kernel
theorem dX4_servedBy_0 : decode cX4_servedBy 0 = .ok (.iconst 0, 1) := by decide +kernel
theorem dX4_servedBy_1 : decode cX4_servedBy 1 = .ok (.istore_n 3, 1) := by decide +kernel
theorem dX4_servedBy_2 : decode cX4_servedBy 2 = .ok (.iconst 0, 1) := by decide +kernel
theorem dX4_servedBy_3 : decode cX4_servedBy 3 = .ok (.istore 4, 2) := by decide +kernel
theorem dX4_servedBy_5 : decode cX4_servedBy 5 = .ok (.iload 4, 2) := by decide +kernel
theorem dX4_servedBy_7 : decode cX4_servedBy 7 = .ok (.aload_n 0, 1) := by decide +kernel
theorem dX4_servedBy_8 : decode cX4_servedBy 8 = .ok (.getfield 30, 3) := by decide +kernel
theorem dX4_servedBy_11 : decode cX4_servedBy 11 = .ok (.iload_n 1, 1) := by decide +kernel
theorem dX4_servedBy_12 : decode cX4_servedBy 12 = .ok (.iaload, 1) := by decide +kernel
theorem dX4_servedBy_13 : decode cX4_servedBy 13 = .ok (.if_icmp .ge 43, 3) := by decide +kernel
theorem dX4_servedBy_16 : decode cX4_servedBy 16 = .ok (.aload_n 0, 1) := by decide +kernel
theorem dX4_servedBy_17 : decode cX4_servedBy 17 = .ok (.aload_n 0, 1) := by decide +kernel
theorem dX4_servedBy_18 : decode cX4_servedBy 18 = .ok (.getfield 33, 3) := by decide +kernel
theorem dX4_servedBy_21 : decode cX4_servedBy 21 = .ok (.bipush 12, 2) := by decide +kernel
theorem dX4_servedBy_23 : decode cX4_servedBy 23 = .ok (.iload_n 1, 1) := by decide +kernel
theorem dX4_servedBy_24 : decode cX4_servedBy 24 = .ok (.imul, 1) := by decide +kernel
theorem dX4_servedBy_25 : decode cX4_servedBy 25 = .ok (.iload 4, 2) := by decide +kernel
theorem dX4_servedBy_27 : decode cX4_servedBy 27 = .ok (.iadd, 1) := by decide +kernel
theorem dX4_servedBy_28 : decode cX4_servedBy 28 = .ok (.iaload, 1) := by decide +kernel
theorem dX4_servedBy_29 : decode cX4_servedBy 29 = .ok (.invokevirtual 98, 3) := by decide +kernel
theorem dX4_servedBy_32 : decode cX4_servedBy 32 = .ok (.ifCond .eq 18, 3) := by decide +kernel
theorem dX4_servedBy_35 : decode cX4_servedBy 35 = .ok (.iload_n 3, 1) := by decide +kernel
theorem dX4_servedBy_36 : decode cX4_servedBy 36 = .ok (.aload_n 0, 1) := by decide +kernel
theorem dX4_servedBy_37 : decode cX4_servedBy 37 = .ok (.getfield 33, 3) := by decide +kernel
theorem dX4_servedBy_40 : decode cX4_servedBy 40 = .ok (.bipush 12, 2) := by decide +kernel
theorem dX4_servedBy_42 : decode cX4_servedBy 42 = .ok (.iload_n 1, 1) := by decide +kernel
theorem dX4_servedBy_43 : decode cX4_servedBy 43 = .ok (.imul, 1) := by decide +kernel
theorem dX4_servedBy_44 : decode cX4_servedBy 44 = .ok (.iload 4, 2) := by decide +kernel
theorem dX4_servedBy_46 : decode cX4_servedBy 46 = .ok (.iadd, 1) := by decide +kernel
theorem dX4_servedBy_47 : decode cX4_servedBy 47 = .ok (.iaload, 1) := by decide +kernel
theorem dX4_servedBy_48 : decode cX4_servedBy 48 = .ok (.ior, 1) := by decide +kernel
theorem dX4_servedBy_49 : decode cX4_servedBy 49 = .ok (.istore_n 3, 1) := by decide +kernel
theorem dX4_servedBy_50 : decode cX4_servedBy 50 = .ok (.iinc 4 1, 3) := by decide +kernel
theorem dX4_servedBy_53 : decode cX4_servedBy 53 = .ok (.goto (-48), 3) := by decide +kernel
theorem dX4_servedBy_56 : decode cX4_servedBy 56 = .ok (.aload_n 0, 1) := by decide +kernel
theorem dX4_servedBy_57 : decode cX4_servedBy 57 = .ok (.getfield 23, 3) := by decide +kernel
theorem dX4_servedBy_60 : decode cX4_servedBy 60 = .ok (.iload_n 1, 1) := by decide +kernel
theorem dX4_servedBy_61 : decode cX4_servedBy 61 = .ok (.iaload, 1) := by decide +kernel
theorem dX4_servedBy_62 : decode cX4_servedBy 62 = .ok (.iconst 2, 1) := by decide +kernel
theorem dX4_servedBy_63 : decode cX4_servedBy 63 = .ok (.if_icmp .ne 17, 3) := by decide +kernel
theorem dX4_servedBy_66 : decode cX4_servedBy 66 = .ok (.iload_n 3, 1) := by decide +kernel
theorem dX4_servedBy_67 : decode cX4_servedBy 67 = .ok (.iconst 1, 1) := by decide +kernel
theorem dX4_servedBy_68 : decode cX4_servedBy 68 = .ok (.aload_n 0, 1) := by decide +kernel
theorem dX4_servedBy_69 : decode cX4_servedBy 69 = .ok (.getfield 7, 3) := by decide +kernel
theorem dX4_servedBy_72 : decode cX4_servedBy 72 = .ok (.ishl, 1) := by decide +kernel
theorem dX4_servedBy_73 : decode cX4_servedBy 73 = .ok (.iconst 1, 1) := by decide +kernel
theorem dX4_servedBy_74 : decode cX4_servedBy 74 = .ok (.isub, 1) := by decide +kernel
theorem dX4_servedBy_75 : decode cX4_servedBy 75 = .ok (.if_icmp .ne 5, 3) := by decide +kernel
theorem dX4_servedBy_78 : decode cX4_servedBy 78 = .ok (.iconst 1, 1) := by decide +kernel
theorem dX4_servedBy_79 : decode cX4_servedBy 79 = .ok (.ireturn, 1) := by decide +kernel
theorem dX4_servedBy_80 : decode cX4_servedBy 80 = .ok (.iconst 1, 1) := by decide +kernel
theorem dX4_servedBy_81 : decode cX4_servedBy 81 = .ok (.istore 4, 2) := by decide +kernel
theorem dX4_servedBy_83 : decode cX4_servedBy 83 = .ok (.iconst 0, 1) := by decide +kernel
theorem dX4_servedBy_84 : decode cX4_servedBy 84 = .ok (.istore 5, 2) := by decide +kernel
theorem dX4_servedBy_86 : decode cX4_servedBy 86 = .ok (.iconst 0, 1) := by decide +kernel
theorem dX4_servedBy_87 : decode cX4_servedBy 87 = .ok (.istore 6, 2) := by decide +kernel
theorem dX4_servedBy_89 : decode cX4_servedBy 89 = .ok (.iload 6, 2) := by decide +kernel
theorem dX4_servedBy_91 : decode cX4_servedBy 91 = .ok (.aload_n 0, 1) := by decide +kernel
theorem dX4_servedBy_92 : decode cX4_servedBy 92 = .ok (.getfield 7, 3) := by decide +kernel
theorem dX4_servedBy_95 : decode cX4_servedBy 95 = .ok (.if_icmp .ge 85, 3) := by decide +kernel
theorem dX4_servedBy_98 : decode cX4_servedBy 98 = .ok (.iload_n 2, 1) := by decide +kernel
theorem dX4_servedBy_99 : decode cX4_servedBy 99 = .ok (.iconst 1, 1) := by decide +kernel
theorem dX4_servedBy_100 : decode cX4_servedBy 100 = .ok (.iload 6, 2) := by decide +kernel
theorem dX4_servedBy_102 : decode cX4_servedBy 102 = .ok (.ishl, 1) := by decide +kernel
theorem dX4_servedBy_103 : decode cX4_servedBy 103 = .ok (.iushr, 1) := by decide +kernel
theorem dX4_servedBy_104 : decode cX4_servedBy 104 = .ok (.iconst 1, 1) := by decide +kernel
theorem dX4_servedBy_105 : decode cX4_servedBy 105 = .ok (.iand, 1) := by decide +kernel
theorem dX4_servedBy_106 : decode cX4_servedBy 106 = .ok (.iconst 1, 1) := by decide +kernel
theorem dX4_servedBy_107 : decode cX4_servedBy 107 = .ok (.if_icmp .ne 7, 3) := by decide +kernel
theorem dX4_servedBy_110 : decode cX4_servedBy 110 = .ok (.iconst 1, 1) := by decide +kernel
theorem dX4_servedBy_111 : decode cX4_servedBy 111 = .ok (.goto 4, 3) := by decide +kernel
theorem dX4_servedBy_114 : decode cX4_servedBy 114 = .ok (.iconst 0, 1) := by decide +kernel
theorem dX4_servedBy_115 : decode cX4_servedBy 115 = .ok (.istore 7, 2) := by decide +kernel
theorem dX4_servedBy_117 : decode cX4_servedBy 117 = .ok (.iload 5, 2) := by decide +kernel
theorem dX4_servedBy_119 : decode cX4_servedBy 119 = .ok (.ifCond .ne 17, 3) := by decide +kernel
theorem dX4_servedBy_122 : decode cX4_servedBy 122 = .ok (.iload 7, 2) := by decide +kernel
theorem dX4_servedBy_124 : decode cX4_servedBy 124 = .ok (.ifCond .eq 16, 3) := by decide +kernel
theorem dX4_servedBy_127 : decode cX4_servedBy 127 = .ok (.iload_n 3, 1) := by decide +kernel
theorem dX4_servedBy_128 : decode cX4_servedBy 128 = .ok (.iload 6, 2) := by decide +kernel
theorem dX4_servedBy_130 : decode cX4_servedBy 130 = .ok (.ishr, 1) := by decide +kernel
theorem dX4_servedBy_131 : decode cX4_servedBy 131 = .ok (.iconst 1, 1) := by decide +kernel
theorem dX4_servedBy_132 : decode cX4_servedBy 132 = .ok (.iand, 1) := by decide +kernel
theorem dX4_servedBy_133 : decode cX4_servedBy 133 = .ok (.ifCond .ne 7, 3) := by decide +kernel
theorem dX4_servedBy_136 : decode cX4_servedBy 136 = .ok (.iconst 1, 1) := by decide +kernel
theorem dX4_servedBy_137 : decode cX4_servedBy 137 = .ok (.goto 4, 3) := by decide +kernel
theorem dX4_servedBy_140 : decode cX4_servedBy 140 = .ok (.iconst 0, 1) := by decide +kernel
theorem dX4_servedBy_141 : decode cX4_servedBy 141 = .ok (.istore 5, 2) := by decide +kernel
theorem dX4_servedBy_143 : decode cX4_servedBy 143 = .ok (.iload 4, 2) := by decide +kernel
theorem dX4_servedBy_145 : decode cX4_servedBy 145 = .ok (.ifCond .eq 26, 3) := by decide +kernel
theorem dX4_servedBy_148 : decode cX4_servedBy 148 = .ok (.iload 7, 2) := by decide +kernel
theorem dX4_servedBy_150 : decode cX4_servedBy 150 = .ok (.ifCond .ne 17, 3) := by decide +kernel
theorem dX4_servedBy_153 : decode cX4_servedBy 153 = .ok (.aload_n 0, 1) := by decide +kernel
theorem dX4_servedBy_154 : decode cX4_servedBy 154 = .ok (.getfield 27, 3) := by decide +kernel
theorem dX4_servedBy_157 : decode cX4_servedBy 157 = .ok (.iload_n 1, 1) := by decide +kernel
theorem dX4_servedBy_158 : decode cX4_servedBy 158 = .ok (.iaload, 1) := by decide +kernel
theorem dX4_servedBy_159 : decode cX4_servedBy 159 = .ok (.iload 6, 2) := by decide +kernel
theorem dX4_servedBy_161 : decode cX4_servedBy 161 = .ok (.ishr, 1) := by decide +kernel
theorem dX4_servedBy_162 : decode cX4_servedBy 162 = .ok (.iconst 1, 1) := by decide +kernel
theorem dX4_servedBy_163 : decode cX4_servedBy 163 = .ok (.iand, 1) := by decide +kernel
theorem dX4_servedBy_164 : decode cX4_servedBy 164 = .ok (.ifCond .ne 7, 3) := by decide +kernel
theorem dX4_servedBy_167 : decode cX4_servedBy 167 = .ok (.iconst 1, 1) := by decide +kernel
theorem dX4_servedBy_168 : decode cX4_servedBy 168 = .ok (.goto 4, 3) := by decide +kernel
theorem dX4_servedBy_171 : decode cX4_servedBy 171 = .ok (.iconst 0, 1) := by decide +kernel
theorem dX4_servedBy_172 : decode cX4_servedBy 172 = .ok (.istore 4, 2) := by decide +kernel
theorem dX4_servedBy_174 : decode cX4_servedBy 174 = .ok (.iinc 6 1, 3) := by decide +kernel
theorem dX4_servedBy_177 : decode cX4_servedBy 177 = .ok (.goto (-88), 3) := by decide +kernel
theorem dX4_servedBy_180 : decode cX4_servedBy 180 = .ok (.aload_n 0, 1) := by decide +kernel
theorem dX4_servedBy_181 : decode cX4_servedBy 181 = .ok (.getfield 23, 3) := by decide +kernel
theorem dX4_servedBy_184 : decode cX4_servedBy 184 = .ok (.iload_n 1, 1) := by decide +kernel
theorem dX4_servedBy_185 : decode cX4_servedBy 185 = .ok (.iaload, 1) := by decide +kernel
theorem dX4_servedBy_186 : decode cX4_servedBy 186 = .ok (.iconst 2, 1) := by decide +kernel
theorem dX4_servedBy_187 : decode cX4_servedBy 187 = .ok (.if_icmp .ne 8, 3) := by decide +kernel
theorem dX4_servedBy_190 : decode cX4_servedBy 190 = .ok (.iload 5, 2) := by decide +kernel
theorem dX4_servedBy_192 : decode cX4_servedBy 192 = .ok (.goto 5, 3) := by decide +kernel
theorem dX4_servedBy_195 : decode cX4_servedBy 195 = .ok (.iload 4, 2) := by decide +kernel
theorem dX4_servedBy_197 : decode cX4_servedBy 197 = .ok (.ireturn, 1) := by decide +kernel
theorem dX4_step_0 : decode cX4_step 0 = .ok (.iconst 1, 1) := by decide +kernel
theorem dX4_step_1 : decode cX4_step 1 = .ok (.istore_n 2, 1) := by decide +kernel
theorem dX4_step_2 : decode cX4_step 2 = .ok (.iconst 0, 1) := by decide +kernel
theorem dX4_step_3 : decode cX4_step 3 = .ok (.istore_n 3, 1) := by decide +kernel
theorem dX4_step_4 : decode cX4_step 4 = .ok (.iload_n 3, 1) := by decide +kernel
theorem dX4_step_5 : decode cX4_step 5 = .ok (.aload_n 0, 1) := by decide +kernel
theorem dX4_step_6 : decode cX4_step 6 = .ok (.getfield 13, 3) := by decide +kernel
theorem dX4_step_9 : decode cX4_step 9 = .ok (.if_icmp .ge 73, 3) := by decide +kernel
theorem dX4_step_12 : decode cX4_step 12 = .ok (.aload_n 0, 1) := by decide +kernel
theorem dX4_step_13 : decode cX4_step 13 = .ok (.getfield 82, 3) := by decide +kernel
theorem dX4_step_16 : decode cX4_step 16 = .ok (.bipush 10, 2) := by decide +kernel
theorem dX4_step_18 : decode cX4_step 18 = .ok (.iload_n 1, 1) := by decide +kernel
theorem dX4_step_19 : decode cX4_step 19 = .ok (.imul, 1) := by decide +kernel
theorem dX4_step_20 : decode cX4_step 20 = .ok (.iload_n 3, 1) := by decide +kernel
theorem dX4_step_21 : decode cX4_step 21 = .ok (.iadd, 1) := by decide +kernel
theorem dX4_step_22 : decode cX4_step 22 = .ok (.aload_n 0, 1) := by decide +kernel
theorem dX4_step_23 : decode cX4_step 23 = .ok (.aload_n 0, 1) := by decide +kernel
theorem dX4_step_24 : decode cX4_step 24 = .ok (.getfield 82, 3) := by decide +kernel
theorem dX4_step_27 : decode cX4_step 27 = .ok (.bipush 10, 2) := by decide +kernel
theorem dX4_step_29 : decode cX4_step 29 = .ok (.iload_n 1, 1) := by decide +kernel
theorem dX4_step_30 : decode cX4_step 30 = .ok (.imul, 1) := by decide +kernel
theorem dX4_step_31 : decode cX4_step 31 = .ok (.bipush 10, 2) := by decide +kernel
theorem dX4_step_33 : decode cX4_step 33 = .ok (.isub, 1) := by decide +kernel
theorem dX4_step_34 : decode cX4_step 34 = .ok (.iload_n 3, 1) := by decide +kernel
theorem dX4_step_35 : decode cX4_step 35 = .ok (.iadd, 1) := by decide +kernel
theorem dX4_step_36 : decode cX4_step 36 = .ok (.iaload, 1) := by decide +kernel
theorem dX4_step_37 : decode cX4_step 37 = .ok (.aload_n 0, 1) := by decide +kernel
theorem dX4_step_38 : decode cX4_step 38 = .ok (.getfield 85, 3) := by decide +kernel
theorem dX4_step_41 : decode cX4_step 41 = .ok (.iload_n 1, 1) := by decide +kernel
theorem dX4_step_42 : decode cX4_step 42 = .ok (.iaload, 1) := by decide +kernel
theorem dX4_step_43 : decode cX4_step 43 = .ok (.invokevirtual 172, 3) := by decide +kernel
theorem dX4_step_46 : decode cX4_step 46 = .ok (.iastore, 1) := by decide +kernel
theorem dX4_step_47 : decode cX4_step 47 = .ok (.iload_n 2, 1) := by decide +kernel
theorem dX4_step_48 : decode cX4_step 48 = .ok (.ifCond .eq 26, 3) := by decide +kernel
theorem dX4_step_51 : decode cX4_step 51 = .ok (.aload_n 0, 1) := by decide +kernel
theorem dX4_step_52 : decode cX4_step 52 = .ok (.iload_n 3, 1) := by decide +kernel
theorem dX4_step_53 : decode cX4_step 53 = .ok (.aload_n 0, 1) := by decide +kernel
theorem dX4_step_54 : decode cX4_step 54 = .ok (.getfield 82, 3) := by decide +kernel
theorem dX4_step_57 : decode cX4_step 57 = .ok (.bipush 10, 2) := by decide +kernel
theorem dX4_step_59 : decode cX4_step 59 = .ok (.iload_n 1, 1) := by decide +kernel
theorem dX4_step_60 : decode cX4_step 60 = .ok (.imul, 1) := by decide +kernel
theorem dX4_step_61 : decode cX4_step 61 = .ok (.iload_n 3, 1) := by decide +kernel
theorem dX4_step_62 : decode cX4_step 62 = .ok (.iadd, 1) := by decide +kernel
theorem dX4_step_63 : decode cX4_step 63 = .ok (.iaload, 1) := by decide +kernel
theorem dX4_step_64 : decode cX4_step 64 = .ok (.invokevirtual 175, 3) := by decide +kernel
theorem dX4_step_67 : decode cX4_step 67 = .ok (.ifCond .eq 7, 3) := by decide +kernel
theorem dX4_step_70 : decode cX4_step 70 = .ok (.iconst 1, 1) := by decide +kernel
theorem dX4_step_71 : decode cX4_step 71 = .ok (.goto 4, 3) := by decide +kernel
theorem dX4_step_74 : decode cX4_step 74 = .ok (.iconst 0, 1) := by decide +kernel
theorem dX4_step_75 : decode cX4_step 75 = .ok (.istore_n 2, 1) := by decide +kernel
theorem dX4_step_76 : decode cX4_step 76 = .ok (.iinc 3 1, 3) := by decide +kernel
theorem dX4_step_79 : decode cX4_step 79 = .ok (.goto (-75), 3) := by decide +kernel
theorem dX4_step_82 : decode cX4_step 82 = .ok (.iload_n 2, 1) := by decide +kernel
theorem dX4_step_83 : decode cX4_step 83 = .ok (.ireturn, 1) := by decide +kernel
theorem dX4_begin_0 : decode cX4_begin 0 = .ok (.aload_n 0, 1) := by decide +kernel
theorem dX4_begin_1 : decode cX4_begin 1 = .ok (.invokevirtual 141, 3) := by decide +kernel
theorem dX4_begin_4 : decode cX4_begin 4 = .ok (.iconst 1, 1) := by decide +kernel
theorem dX4_begin_5 : decode cX4_begin 5 = .ok (.istore_n 1, 1) := by decide +kernel
theorem dX4_begin_6 : decode cX4_begin 6 = .ok (.iconst 0, 1) := by decide +kernel
theorem dX4_begin_7 : decode cX4_begin 7 = .ok (.istore_n 2, 1) := by decide +kernel
theorem dX4_begin_8 : decode cX4_begin 8 = .ok (.iload_n 2, 1) := by decide +kernel
theorem dX4_begin_9 : decode cX4_begin 9 = .ok (.aload_n 0, 1) := by decide +kernel
theorem dX4_begin_10 : decode cX4_begin 10 = .ok (.getfield 13, 3) := by decide +kernel
theorem dX4_begin_13 : decode cX4_begin 13 = .ok (.if_icmp .ge 74, 3) := by decide +kernel
theorem dX4_begin_16 : decode cX4_begin 16 = .ok (.iconst 0, 1) := by decide +kernel
theorem dX4_begin_17 : decode cX4_begin 17 = .ok (.istore_n 3, 1) := by decide +kernel
theorem dX4_begin_18 : decode cX4_begin 18 = .ok (.iconst 0, 1) := by decide +kernel
theorem dX4_begin_19 : decode cX4_begin 19 = .ok (.istore 4, 2) := by decide +kernel
theorem dX4_begin_21 : decode cX4_begin 21 = .ok (.iload 4, 2) := by decide +kernel
theorem dX4_begin_23 : decode cX4_begin 23 = .ok (.iconst 1, 1) := by decide +kernel
theorem dX4_begin_24 : decode cX4_begin 24 = .ok (.aload_n 0, 1) := by decide +kernel
theorem dX4_begin_25 : decode cX4_begin 25 = .ok (.getfield 7, 3) := by decide +kernel
theorem dX4_begin_28 : decode cX4_begin 28 = .ok (.ishl, 1) := by decide +kernel
theorem dX4_begin_29 : decode cX4_begin 29 = .ok (.if_icmp .ge 26, 3) := by decide +kernel
theorem dX4_begin_32 : decode cX4_begin 32 = .ok (.aload_n 0, 1) := by decide +kernel
theorem dX4_begin_33 : decode cX4_begin 33 = .ok (.iload_n 2, 1) := by decide +kernel
theorem dX4_begin_34 : decode cX4_begin 34 = .ok (.iload 4, 2) := by decide +kernel
theorem dX4_begin_36 : decode cX4_begin 36 = .ok (.invokevirtual 124, 3) := by decide +kernel
theorem dX4_begin_39 : decode cX4_begin 39 = .ok (.ifCond .eq 10, 3) := by decide +kernel
theorem dX4_begin_42 : decode cX4_begin 42 = .ok (.iload_n 3, 1) := by decide +kernel
theorem dX4_begin_43 : decode cX4_begin 43 = .ok (.iconst 1, 1) := by decide +kernel
theorem dX4_begin_44 : decode cX4_begin 44 = .ok (.iload 4, 2) := by decide +kernel
theorem dX4_begin_46 : decode cX4_begin 46 = .ok (.ishl, 1) := by decide +kernel
theorem dX4_begin_47 : decode cX4_begin 47 = .ok (.ior, 1) := by decide +kernel
theorem dX4_begin_48 : decode cX4_begin 48 = .ok (.istore_n 3, 1) := by decide +kernel
theorem dX4_begin_49 : decode cX4_begin 49 = .ok (.iinc 4 1, 3) := by decide +kernel
theorem dX4_begin_52 : decode cX4_begin 52 = .ok (.goto (-31), 3) := by decide +kernel
theorem dX4_begin_55 : decode cX4_begin 55 = .ok (.aload_n 0, 1) := by decide +kernel
theorem dX4_begin_56 : decode cX4_begin 56 = .ok (.getfield 82, 3) := by decide +kernel
theorem dX4_begin_59 : decode cX4_begin 59 = .ok (.iload_n 2, 1) := by decide +kernel
theorem dX4_begin_60 : decode cX4_begin 60 = .ok (.iload_n 3, 1) := by decide +kernel
theorem dX4_begin_61 : decode cX4_begin 61 = .ok (.iastore, 1) := by decide +kernel
theorem dX4_begin_62 : decode cX4_begin 62 = .ok (.iload_n 1, 1) := by decide +kernel
theorem dX4_begin_63 : decode cX4_begin 63 = .ok (.ifCond .eq 16, 3) := by decide +kernel
theorem dX4_begin_66 : decode cX4_begin 66 = .ok (.aload_n 0, 1) := by decide +kernel
theorem dX4_begin_67 : decode cX4_begin 67 = .ok (.iload_n 2, 1) := by decide +kernel
theorem dX4_begin_68 : decode cX4_begin 68 = .ok (.iload_n 3, 1) := by decide +kernel
theorem dX4_begin_69 : decode cX4_begin 69 = .ok (.invokevirtual 175, 3) := by decide +kernel
theorem dX4_begin_72 : decode cX4_begin 72 = .ok (.ifCond .eq 7, 3) := by decide +kernel
theorem dX4_begin_75 : decode cX4_begin 75 = .ok (.iconst 1, 1) := by decide +kernel
theorem dX4_begin_76 : decode cX4_begin 76 = .ok (.goto 4, 3) := by decide +kernel
theorem dX4_begin_79 : decode cX4_begin 79 = .ok (.iconst 0, 1) := by decide +kernel
theorem dX4_begin_80 : decode cX4_begin 80 = .ok (.istore_n 1, 1) := by decide +kernel
theorem dX4_begin_81 : decode cX4_begin 81 = .ok (.iinc 2 1, 3) := by decide +kernel
theorem dX4_begin_84 : decode cX4_begin 84 = .ok (.goto (-76), 3) := by decide +kernel
theorem dX4_begin_87 : decode cX4_begin 87 = .ok (.iload_n 1, 1) := by decide +kernel
theorem dX4_begin_88 : decode cX4_begin 88 = .ok (.ireturn, 1) := by decide +kernel
theorem dX4_isPlan_0 : decode cX4_isPlan 0 = .ok (.iconst 1, 1) := by decide +kernel
theorem dX4_isPlan_1 : decode cX4_isPlan 1 = .ok (.aload_n 0, 1) := by decide +kernel
theorem dX4_isPlan_2 : decode cX4_isPlan 2 = .ok (.getfield 7, 3) := by decide +kernel
theorem dX4_isPlan_5 : decode cX4_isPlan 5 = .ok (.ishl, 1) := by decide +kernel
theorem dX4_isPlan_6 : decode cX4_isPlan 6 = .ok (.iconst 1, 1) := by decide +kernel
theorem dX4_isPlan_7 : decode cX4_isPlan 7 = .ok (.isub, 1) := by decide +kernel
theorem dX4_isPlan_8 : decode cX4_isPlan 8 = .ok (.istore_n 2, 1) := by decide +kernel
theorem dX4_isPlan_9 : decode cX4_isPlan 9 = .ok (.iconst 1, 1) := by decide +kernel
theorem dX4_isPlan_10 : decode cX4_isPlan 10 = .ok (.istore_n 3, 1) := by decide +kernel
theorem dX4_isPlan_11 : decode cX4_isPlan 11 = .ok (.aload_n 0, 1) := by decide +kernel
theorem dX4_isPlan_12 : decode cX4_isPlan 12 = .ok (.getfield 85, 3) := by decide +kernel
theorem dX4_isPlan_15 : decode cX4_isPlan 15 = .ok (.iconst 1, 1) := by decide +kernel
theorem dX4_isPlan_16 : decode cX4_isPlan 16 = .ok (.iconst 0, 1) := by decide +kernel
theorem dX4_isPlan_17 : decode cX4_isPlan 17 = .ok (.iastore, 1) := by decide +kernel
theorem dX4_isPlan_18 : decode cX4_isPlan 18 = .ok (.iload_n 3, 1) := by decide +kernel
theorem dX4_isPlan_19 : decode cX4_isPlan 19 = .ok (.ifCond .le 76, 3) := by decide +kernel
theorem dX4_isPlan_22 : decode cX4_isPlan 22 = .ok (.aload_n 0, 1) := by decide +kernel
theorem dX4_isPlan_23 : decode cX4_isPlan 23 = .ok (.getfield 85, 3) := by decide +kernel
theorem dX4_isPlan_26 : decode cX4_isPlan 26 = .ok (.iload_n 3, 1) := by decide +kernel
theorem dX4_isPlan_27 : decode cX4_isPlan 27 = .ok (.dup2, 1) := by decide +kernel
theorem dX4_isPlan_28 : decode cX4_isPlan 28 = .ok (.iaload, 1) := by decide +kernel
theorem dX4_isPlan_29 : decode cX4_isPlan 29 = .ok (.iconst 1, 1) := by decide +kernel
theorem dX4_isPlan_30 : decode cX4_isPlan 30 = .ok (.iadd, 1) := by decide +kernel
theorem dX4_isPlan_31 : decode cX4_isPlan 31 = .ok (.iastore, 1) := by decide +kernel
theorem dX4_isPlan_32 : decode cX4_isPlan 32 = .ok (.aload_n 0, 1) := by decide +kernel
theorem dX4_isPlan_33 : decode cX4_isPlan 33 = .ok (.getfield 85, 3) := by decide +kernel
theorem dX4_isPlan_36 : decode cX4_isPlan 36 = .ok (.iload_n 3, 1) := by decide +kernel
theorem dX4_isPlan_37 : decode cX4_isPlan 37 = .ok (.iaload, 1) := by decide +kernel
theorem dX4_isPlan_38 : decode cX4_isPlan 38 = .ok (.iload_n 2, 1) := by decide +kernel
theorem dX4_isPlan_39 : decode cX4_isPlan 39 = .ok (.if_icmp .le 9, 3) := by decide +kernel
theorem dX4_isPlan_42 : decode cX4_isPlan 42 = .ok (.iinc 3 (-1), 3) := by decide +kernel
theorem dX4_isPlan_45 : decode cX4_isPlan 45 = .ok (.goto (-27), 3) := by decide +kernel
theorem dX4_isPlan_48 : decode cX4_isPlan 48 = .ok (.aload_n 0, 1) := by decide +kernel
theorem dX4_isPlan_49 : decode cX4_isPlan 49 = .ok (.iload_n 3, 1) := by decide +kernel
theorem dX4_isPlan_50 : decode cX4_isPlan 50 = .ok (.invokevirtual 178, 3) := by decide +kernel
theorem dX4_isPlan_53 : decode cX4_isPlan 53 = .ok (.istore 4, 2) := by decide +kernel
theorem dX4_isPlan_55 : decode cX4_isPlan 55 = .ok (.iload_n 3, 1) := by decide +kernel
theorem dX4_isPlan_56 : decode cX4_isPlan 56 = .ok (.iload_n 1, 1) := by decide +kernel
theorem dX4_isPlan_57 : decode cX4_isPlan 57 = .ok (.if_icmp .ne 10, 3) := by decide +kernel
theorem dX4_isPlan_60 : decode cX4_isPlan 60 = .ok (.iload 4, 2) := by decide +kernel
theorem dX4_isPlan_62 : decode cX4_isPlan 62 = .ok (.ifCond .eq 5, 3) := by decide +kernel
theorem dX4_isPlan_65 : decode cX4_isPlan 65 = .ok (.iconst 1, 1) := by decide +kernel
theorem dX4_isPlan_66 : decode cX4_isPlan 66 = .ok (.ireturn, 1) := by decide +kernel
theorem dX4_isPlan_67 : decode cX4_isPlan 67 = .ok (.iload_n 3, 1) := by decide +kernel
theorem dX4_isPlan_68 : decode cX4_isPlan 68 = .ok (.iload_n 1, 1) := by decide +kernel
theorem dX4_isPlan_69 : decode cX4_isPlan 69 = .ok (.if_icmp .ne 6, 3) := by decide +kernel
theorem dX4_isPlan_72 : decode cX4_isPlan 72 = .ok (.goto (-54), 3) := by decide +kernel
theorem dX4_isPlan_75 : decode cX4_isPlan 75 = .ok (.aload_n 0, 1) := by decide +kernel
theorem dX4_isPlan_76 : decode cX4_isPlan 76 = .ok (.getfield 85, 3) := by decide +kernel
theorem dX4_isPlan_79 : decode cX4_isPlan 79 = .ok (.iload_n 3, 1) := by decide +kernel
theorem dX4_isPlan_80 : decode cX4_isPlan 80 = .ok (.iconst 1, 1) := by decide +kernel
theorem dX4_isPlan_81 : decode cX4_isPlan 81 = .ok (.iadd, 1) := by decide +kernel
theorem dX4_isPlan_82 : decode cX4_isPlan 82 = .ok (.aload_n 0, 1) := by decide +kernel
theorem dX4_isPlan_83 : decode cX4_isPlan 83 = .ok (.getfield 85, 3) := by decide +kernel
theorem dX4_isPlan_86 : decode cX4_isPlan 86 = .ok (.iload_n 3, 1) := by decide +kernel
theorem dX4_isPlan_87 : decode cX4_isPlan 87 = .ok (.iaload, 1) := by decide +kernel
theorem dX4_isPlan_88 : decode cX4_isPlan 88 = .ok (.iastore, 1) := by decide +kernel
theorem dX4_isPlan_89 : decode cX4_isPlan 89 = .ok (.iinc 3 1, 3) := by decide +kernel
theorem dX4_isPlan_92 : decode cX4_isPlan 92 = .ok (.goto (-74), 3) := by decide +kernel
theorem dX4_isPlan_95 : decode cX4_isPlan 95 = .ok (.iconst 0, 1) := by decide +kernel
theorem dX4_isPlan_96 : decode cX4_isPlan 96 = .ok (.ireturn, 1) := by decide +kernel
theorem dX4_planSize_0 : decode cX4_planSize 0 = .ok (.aload_n 0, 1) := by decide +kernel
theorem dX4_planSize_1 : decode cX4_planSize 1 = .ok (.invokevirtual 181, 3) := by decide +kernel
theorem dX4_planSize_4 : decode cX4_planSize 4 = .ok (.ifCond .eq 5, 3) := by decide +kernel
theorem dX4_planSize_7 : decode cX4_planSize 7 = .ok (.iconst 0, 1) := by decide +kernel
theorem dX4_planSize_8 : decode cX4_planSize 8 = .ok (.ireturn, 1) := by decide +kernel
theorem dX4_planSize_9 : decode cX4_planSize 9 = .ok (.iconst 1, 1) := by decide +kernel
theorem dX4_planSize_10 : decode cX4_planSize 10 = .ok (.istore_n 1, 1) := by decide +kernel
theorem dX4_planSize_11 : decode cX4_planSize 11 = .ok (.iload_n 1, 1) := by decide +kernel
theorem dX4_planSize_12 : decode cX4_planSize 12 = .ok (.bipush 6, 2) := by decide +kernel
theorem dX4_planSize_14 : decode cX4_planSize 14 = .ok (.if_icmp .ge 17, 3) := by decide +kernel
theorem dX4_planSize_17 : decode cX4_planSize 17 = .ok (.aload_n 0, 1) := by decide +kernel
theorem dX4_planSize_18 : decode cX4_planSize 18 = .ok (.iload_n 1, 1) := by decide +kernel
theorem dX4_planSize_19 : decode cX4_planSize 19 = .ok (.invokevirtual 185, 3) := by decide +kernel
theorem dX4_planSize_22 : decode cX4_planSize 22 = .ok (.ifCond .ne 9, 3) := by decide +kernel
theorem dX4_planSize_25 : decode cX4_planSize 25 = .ok (.iinc 1 1, 3) := by decide +kernel
theorem dX4_planSize_28 : decode cX4_planSize 28 = .ok (.goto (-17), 3) := by decide +kernel
theorem dX4_planSize_31 : decode cX4_planSize 31 = .ok (.iload_n 1, 1) := by decide +kernel
theorem dX4_planSize_32 : decode cX4_planSize 32 = .ok (.ireturn, 1) := by decide +kernel
theorem dX4_least_0 : decode cX4_least 0 = .ok (.aload_n 0, 1) := by decide +kernel
theorem dX4_least_1 : decode cX4_least 1 = .ok (.getfield 7, 3) := by decide +kernel
theorem dX4_least_4 : decode cX4_least 4 = .ok (.iconst 5, 1) := by decide +kernel
theorem dX4_least_5 : decode cX4_least 5 = .ok (.if_icmp .le 8, 3) := by decide +kernel
theorem dX4_least_8 : decode cX4_least 8 = .ok (.bipush (-5), 2) := by decide +kernel
theorem dX4_least_10 : decode cX4_least 10 = .ok (.goto 7, 3) := by decide +kernel
theorem dX4_least_13 : decode cX4_least 13 = .ok (.aload_n 0, 1) := by decide +kernel
theorem dX4_least_14 : decode cX4_least 14 = .ok (.invokevirtual 188, 3) := by decide +kernel
theorem dX4_least_17 : decode cX4_least 17 = .ok (.ireturn, 1) := by decide +kernel
theorem dX4_planned_0 : decode cX4_planned 0 = .ok (.aload_n 0, 1) := by decide +kernel
theorem dX4_planned_1 : decode cX4_planned 1 = .ok (.getfield 7, 3) := by decide +kernel
theorem dX4_planned_4 : decode cX4_planned 4 = .ok (.iconst 5, 1) := by decide +kernel
theorem dX4_planned_5 : decode cX4_planned 5 = .ok (.if_icmp .gt 7, 3) := by decide +kernel
theorem dX4_planned_8 : decode cX4_planned 8 = .ok (.iload_n 1, 1) := by decide +kernel
theorem dX4_planned_9 : decode cX4_planned 9 = .ok (.ifCond .ge 5, 3) := by decide +kernel
theorem dX4_planned_12 : decode cX4_planned 12 = .ok (.iconst (-1), 1) := by decide +kernel
theorem dX4_planned_13 : decode cX4_planned 13 = .ok (.ireturn, 1) := by decide +kernel
theorem dX4_planned_14 : decode cX4_planned 14 = .ok (.aload_n 0, 1) := by decide +kernel
theorem dX4_planned_15 : decode cX4_planned 15 = .ok (.invokevirtual 188, 3) := by decide +kernel
theorem dX4_planned_18 : decode cX4_planned 18 = .ok (.istore_n 2, 1) := by decide +kernel
theorem dX4_planned_19 : decode cX4_planned 19 = .ok (.iload_n 1, 1) := by decide +kernel
theorem dX4_planned_20 : decode cX4_planned 20 = .ok (.iload_n 2, 1) := by decide +kernel
theorem dX4_planned_21 : decode cX4_planned 21 = .ok (.if_icmp .ge 14, 3) := by decide +kernel
theorem dX4_planned_24 : decode cX4_planned 24 = .ok (.aload_n 0, 1) := by decide +kernel
theorem dX4_planned_25 : decode cX4_planned 25 = .ok (.getfield 85, 3) := by decide +kernel
theorem dX4_planned_28 : decode cX4_planned 28 = .ok (.iload_n 1, 1) := by decide +kernel
theorem dX4_planned_29 : decode cX4_planned 29 = .ok (.iconst 1, 1) := by decide +kernel
theorem dX4_planned_30 : decode cX4_planned 30 = .ok (.iadd, 1) := by decide +kernel
theorem dX4_planned_31 : decode cX4_planned 31 = .ok (.iaload, 1) := by decide +kernel
theorem dX4_planned_32 : decode cX4_planned 32 = .ok (.goto 4, 3) := by decide +kernel
theorem dX4_planned_35 : decode cX4_planned 35 = .ok (.iconst (-1), 1) := by decide +kernel
theorem dX4_planned_36 : decode cX4_planned 36 = .ok (.ireturn, 1) := by decide +kernel
theorem dX4_plan_0 : decode cX4_plan 0 = .ok (.iload_n 1, 1) := by decide +kernel
theorem dX4_plan_1 : decode cX4_plan 1 = .ok (.ifCond .ne 7, 3) := by decide +kernel
theorem dX4_plan_4 : decode cX4_plan 4 = .ok (.iconst 0, 1) := by decide +kernel
theorem dX4_plan_5 : decode cX4_plan 5 = .ok (.goto 29, 3) := by decide +kernel
theorem dX4_plan_8 : decode cX4_plan 8 = .ok (.iload_n 2, 1) := by decide +kernel
theorem dX4_plan_9 : decode cX4_plan 9 = .ok (.ifCond .ne 7, 3) := by decide +kernel
theorem dX4_plan_12 : decode cX4_plan 12 = .ok (.iconst 1, 1) := by decide +kernel
theorem dX4_plan_13 : decode cX4_plan 13 = .ok (.goto 21, 3) := by decide +kernel
theorem dX4_plan_16 : decode cX4_plan 16 = .ok (.iload_n 3, 1) := by decide +kernel
theorem dX4_plan_17 : decode cX4_plan 17 = .ok (.ifCond .ne 7, 3) := by decide +kernel
theorem dX4_plan_20 : decode cX4_plan 20 = .ok (.iconst 2, 1) := by decide +kernel
theorem dX4_plan_21 : decode cX4_plan 21 = .ok (.goto 13, 3) := by decide +kernel
theorem dX4_plan_24 : decode cX4_plan 24 = .ok (.iload 4, 2) := by decide +kernel
theorem dX4_plan_26 : decode cX4_plan 26 = .ok (.ifCond .ne 7, 3) := by decide +kernel
theorem dX4_plan_29 : decode cX4_plan 29 = .ok (.iconst 3, 1) := by decide +kernel
theorem dX4_plan_30 : decode cX4_plan 30 = .ok (.goto 4, 3) := by decide +kernel
theorem dX4_plan_33 : decode cX4_plan 33 = .ok (.iconst 4, 1) := by decide +kernel
theorem dX4_plan_34 : decode cX4_plan 34 = .ok (.istore 5, 2) := by decide +kernel
theorem dX4_plan_36 : decode cX4_plan 36 = .ok (.iload 5, 2) := by decide +kernel
theorem dX4_plan_38 : decode cX4_plan 38 = .ok (.ifCond .gt 7, 3) := by decide +kernel
theorem dX4_plan_41 : decode cX4_plan 41 = .ok (.iload_n 2, 1) := by decide +kernel
theorem dX4_plan_42 : decode cX4_plan 42 = .ok (.ifCond .ne 28, 3) := by decide +kernel
theorem dX4_plan_45 : decode cX4_plan 45 = .ok (.iload 5, 2) := by decide +kernel
theorem dX4_plan_47 : decode cX4_plan 47 = .ok (.iconst 1, 1) := by decide +kernel
theorem dX4_plan_48 : decode cX4_plan 48 = .ok (.if_icmp .gt 7, 3) := by decide +kernel
theorem dX4_plan_51 : decode cX4_plan 51 = .ok (.iload_n 3, 1) := by decide +kernel
theorem dX4_plan_52 : decode cX4_plan 52 = .ok (.ifCond .ne 18, 3) := by decide +kernel
theorem dX4_plan_55 : decode cX4_plan 55 = .ok (.iload 5, 2) := by decide +kernel
theorem dX4_plan_57 : decode cX4_plan 57 = .ok (.iconst 2, 1) := by decide +kernel
theorem dX4_plan_58 : decode cX4_plan 58 = .ok (.if_icmp .gt 8, 3) := by decide +kernel
theorem dX4_plan_61 : decode cX4_plan 61 = .ok (.iload 4, 2) := by decide +kernel
theorem dX4_plan_63 : decode cX4_plan 63 = .ok (.ifCond .ne 7, 3) := by decide +kernel
theorem dX4_plan_66 : decode cX4_plan 66 = .ok (.iconst 1, 1) := by decide +kernel
theorem dX4_plan_67 : decode cX4_plan 67 = .ok (.goto 4, 3) := by decide +kernel
theorem dX4_plan_70 : decode cX4_plan 70 = .ok (.iconst 0, 1) := by decide +kernel
theorem dX4_plan_71 : decode cX4_plan 71 = .ok (.istore 6, 2) := by decide +kernel
theorem dX4_plan_73 : decode cX4_plan 73 = .ok (.iload 6, 2) := by decide +kernel
theorem dX4_plan_75 : decode cX4_plan 75 = .ok (.ifCond .eq 64, 3) := by decide +kernel
theorem dX4_plan_78 : decode cX4_plan 78 = .ok (.iload 5, 2) := by decide +kernel
theorem dX4_plan_80 : decode cX4_plan 80 = .ok (.iconst 1, 1) := by decide +kernel
theorem dX4_plan_81 : decode cX4_plan 81 = .ok (.if_icmp .lt 11, 3) := by decide +kernel
theorem dX4_plan_84 : decode cX4_plan 84 = .ok (.aload_n 0, 1) := by decide +kernel
theorem dX4_plan_85 : decode cX4_plan 85 = .ok (.iload_n 1, 1) := by decide +kernel
theorem dX4_plan_86 : decode cX4_plan 86 = .ok (.invokevirtual 95, 3) := by decide +kernel
theorem dX4_plan_89 : decode cX4_plan 89 = .ok (.ifCond .eq 50, 3) := by decide +kernel
theorem dX4_plan_92 : decode cX4_plan 92 = .ok (.iload 5, 2) := by decide +kernel
theorem dX4_plan_94 : decode cX4_plan 94 = .ok (.iconst 2, 1) := by decide +kernel
theorem dX4_plan_95 : decode cX4_plan 95 = .ok (.if_icmp .lt 11, 3) := by decide +kernel
theorem dX4_plan_98 : decode cX4_plan 98 = .ok (.aload_n 0, 1) := by decide +kernel
theorem dX4_plan_99 : decode cX4_plan 99 = .ok (.iload_n 2, 1) := by decide +kernel
theorem dX4_plan_100 : decode cX4_plan 100 = .ok (.invokevirtual 95, 3) := by decide +kernel
theorem dX4_plan_103 : decode cX4_plan 103 = .ok (.ifCond .eq 36, 3) := by decide +kernel
theorem dX4_plan_106 : decode cX4_plan 106 = .ok (.iload 5, 2) := by decide +kernel
theorem dX4_plan_108 : decode cX4_plan 108 = .ok (.iconst 3, 1) := by decide +kernel
theorem dX4_plan_109 : decode cX4_plan 109 = .ok (.if_icmp .lt 11, 3) := by decide +kernel
theorem dX4_plan_112 : decode cX4_plan 112 = .ok (.aload_n 0, 1) := by decide +kernel
theorem dX4_plan_113 : decode cX4_plan 113 = .ok (.iload_n 3, 1) := by decide +kernel
theorem dX4_plan_114 : decode cX4_plan 114 = .ok (.invokevirtual 95, 3) := by decide +kernel
theorem dX4_plan_117 : decode cX4_plan 117 = .ok (.ifCond .eq 22, 3) := by decide +kernel
theorem dX4_plan_120 : decode cX4_plan 120 = .ok (.iload 5, 2) := by decide +kernel
theorem dX4_plan_122 : decode cX4_plan 122 = .ok (.iconst 4, 1) := by decide +kernel
theorem dX4_plan_123 : decode cX4_plan 123 = .ok (.if_icmp .lt 12, 3) := by decide +kernel
theorem dX4_plan_126 : decode cX4_plan 126 = .ok (.aload_n 0, 1) := by decide +kernel
theorem dX4_plan_127 : decode cX4_plan 127 = .ok (.iload 4, 2) := by decide +kernel
theorem dX4_plan_129 : decode cX4_plan 129 = .ok (.invokevirtual 95, 3) := by decide +kernel
theorem dX4_plan_132 : decode cX4_plan 132 = .ok (.ifCond .eq 7, 3) := by decide +kernel
theorem dX4_plan_135 : decode cX4_plan 135 = .ok (.iconst 1, 1) := by decide +kernel
theorem dX4_plan_136 : decode cX4_plan 136 = .ok (.goto 4, 3) := by decide +kernel
theorem dX4_plan_139 : decode cX4_plan 139 = .ok (.iconst 0, 1) := by decide +kernel
theorem dX4_plan_140 : decode cX4_plan 140 = .ok (.istore 6, 2) := by decide +kernel
theorem dX4_plan_142 : decode cX4_plan 142 = .ok (.iload 6, 2) := by decide +kernel
theorem dX4_plan_144 : decode cX4_plan 144 = .ok (.ifCond .ne 6, 3) := by decide +kernel
theorem dX4_plan_147 : decode cX4_plan 147 = .ok (.bipush (-2), 2) := by decide +kernel
theorem dX4_plan_149 : decode cX4_plan 149 = .ok (.ireturn, 1) := by decide +kernel
theorem dX4_plan_150 : decode cX4_plan 150 = .ok (.iconst 1, 1) := by decide +kernel
theorem dX4_plan_151 : decode cX4_plan 151 = .ok (.istore 7, 2) := by decide +kernel
theorem dX4_plan_153 : decode cX4_plan 153 = .ok (.iconst 0, 1) := by decide +kernel
theorem dX4_plan_154 : decode cX4_plan 154 = .ok (.istore 8, 2) := by decide +kernel
theorem dX4_plan_156 : decode cX4_plan 156 = .ok (.iload 8, 2) := by decide +kernel
theorem dX4_plan_158 : decode cX4_plan 158 = .ok (.aload_n 0, 1) := by decide +kernel
theorem dX4_plan_159 : decode cX4_plan 159 = .ok (.getfield 13, 3) := by decide +kernel
theorem dX4_plan_162 : decode cX4_plan 162 = .ok (.if_icmp .ge 89, 3) := by decide +kernel
theorem dX4_plan_165 : decode cX4_plan 165 = .ok (.aload_n 0, 1) := by decide +kernel
theorem dX4_plan_166 : decode cX4_plan 166 = .ok (.iload 8, 2) := by decide +kernel
theorem dX4_plan_168 : decode cX4_plan 168 = .ok (.invokevirtual 120, 3) := by decide +kernel
theorem dX4_plan_171 : decode cX4_plan 171 = .ok (.iload 5, 2) := by decide +kernel
theorem dX4_plan_173 : decode cX4_plan 173 = .ok (.ifCond .le 10, 3) := by decide +kernel
theorem dX4_plan_176 : decode cX4_plan 176 = .ok (.aload_n 0, 1) := by decide +kernel
theorem dX4_plan_177 : decode cX4_plan 177 = .ok (.iload 8, 2) := by decide +kernel
theorem dX4_plan_179 : decode cX4_plan 179 = .ok (.iload_n 1, 1) := by decide +kernel
theorem dX4_plan_180 : decode cX4_plan 180 = .ok (.invokevirtual 116, 3) := by decide +kernel
theorem dX4_plan_183 : decode cX4_plan 183 = .ok (.iload 5, 2) := by decide +kernel
theorem dX4_plan_185 : decode cX4_plan 185 = .ok (.iconst 1, 1) := by decide +kernel
theorem dX4_plan_186 : decode cX4_plan 186 = .ok (.if_icmp .le 10, 3) := by decide +kernel
theorem dX4_plan_189 : decode cX4_plan 189 = .ok (.aload_n 0, 1) := by decide +kernel
theorem dX4_plan_190 : decode cX4_plan 190 = .ok (.iload 8, 2) := by decide +kernel
theorem dX4_plan_192 : decode cX4_plan 192 = .ok (.iload_n 2, 1) := by decide +kernel
theorem dX4_plan_193 : decode cX4_plan 193 = .ok (.invokevirtual 116, 3) := by decide +kernel
theorem dX4_plan_196 : decode cX4_plan 196 = .ok (.iload 5, 2) := by decide +kernel
theorem dX4_plan_198 : decode cX4_plan 198 = .ok (.iconst 2, 1) := by decide +kernel
theorem dX4_plan_199 : decode cX4_plan 199 = .ok (.if_icmp .le 10, 3) := by decide +kernel
theorem dX4_plan_202 : decode cX4_plan 202 = .ok (.aload_n 0, 1) := by decide +kernel
theorem dX4_plan_203 : decode cX4_plan 203 = .ok (.iload 8, 2) := by decide +kernel
theorem dX4_plan_205 : decode cX4_plan 205 = .ok (.iload_n 3, 1) := by decide +kernel
theorem dX4_plan_206 : decode cX4_plan 206 = .ok (.invokevirtual 116, 3) := by decide +kernel
theorem dX4_plan_209 : decode cX4_plan 209 = .ok (.iload 5, 2) := by decide +kernel
theorem dX4_plan_211 : decode cX4_plan 211 = .ok (.iconst 3, 1) := by decide +kernel
theorem dX4_plan_212 : decode cX4_plan 212 = .ok (.if_icmp .le 11, 3) := by decide +kernel
theorem dX4_plan_215 : decode cX4_plan 215 = .ok (.aload_n 0, 1) := by decide +kernel
theorem dX4_plan_216 : decode cX4_plan 216 = .ok (.iload 8, 2) := by decide +kernel
theorem dX4_plan_218 : decode cX4_plan 218 = .ok (.iload 4, 2) := by decide +kernel
theorem dX4_plan_220 : decode cX4_plan 220 = .ok (.invokevirtual 116, 3) := by decide +kernel
theorem dX4_plan_223 : decode cX4_plan 223 = .ok (.iload 7, 2) := by decide +kernel
theorem dX4_plan_225 : decode cX4_plan 225 = .ok (.ifCond .eq 17, 3) := by decide +kernel
theorem dX4_plan_228 : decode cX4_plan 228 = .ok (.aload_n 0, 1) := by decide +kernel
theorem dX4_plan_229 : decode cX4_plan 229 = .ok (.iload 8, 2) := by decide +kernel
theorem dX4_plan_231 : decode cX4_plan 231 = .ok (.iconst 0, 1) := by decide +kernel
theorem dX4_plan_232 : decode cX4_plan 232 = .ok (.invokevirtual 130, 3) := by decide +kernel
theorem dX4_plan_235 : decode cX4_plan 235 = .ok (.ifCond .eq 7, 3) := by decide +kernel
theorem dX4_plan_238 : decode cX4_plan 238 = .ok (.iconst 1, 1) := by decide +kernel
theorem dX4_plan_239 : decode cX4_plan 239 = .ok (.goto 4, 3) := by decide +kernel
theorem dX4_plan_242 : decode cX4_plan 242 = .ok (.iconst 0, 1) := by decide +kernel
theorem dX4_plan_243 : decode cX4_plan 243 = .ok (.istore 7, 2) := by decide +kernel
theorem dX4_plan_245 : decode cX4_plan 245 = .ok (.iinc 8 1, 3) := by decide +kernel
theorem dX4_plan_248 : decode cX4_plan 248 = .ok (.goto (-92), 3) := by decide +kernel
theorem dX4_plan_251 : decode cX4_plan 251 = .ok (.iload 7, 2) := by decide +kernel
theorem dX4_plan_253 : decode cX4_plan 253 = .ok (.ifCond .eq 7, 3) := by decide +kernel
theorem dX4_plan_256 : decode cX4_plan 256 = .ok (.iconst 1, 1) := by decide +kernel
theorem dX4_plan_257 : decode cX4_plan 257 = .ok (.goto 4, 3) := by decide +kernel
theorem dX4_plan_260 : decode cX4_plan 260 = .ok (.iconst 0, 1) := by decide +kernel
theorem dX4_plan_261 : decode cX4_plan 261 = .ok (.ireturn, 1) := by decide +kernel
theorem dX4_next_0 : decode cX4_next 0 = .ok (.aload_n 0, 1) := by decide +kernel
theorem dX4_next_1 : decode cX4_next 1 = .ok (.invokevirtual 141, 3) := by decide +kernel
theorem dX4_next_4 : decode cX4_next 4 = .ok (.iconst 0, 1) := by decide +kernel
theorem dX4_next_5 : decode cX4_next 5 = .ok (.istore_n 1, 1) := by decide +kernel
theorem dX4_next_6 : decode cX4_next 6 = .ok (.iconst (-1), 1) := by decide +kernel
theorem dX4_next_7 : decode cX4_next 7 = .ok (.istore_n 2, 1) := by decide +kernel
theorem dX4_next_8 : decode cX4_next 8 = .ok (.iconst (-1), 1) := by decide +kernel
theorem dX4_next_9 : decode cX4_next 9 = .ok (.istore_n 3, 1) := by decide +kernel
theorem dX4_next_10 : decode cX4_next 10 = .ok (.iconst 0, 1) := by decide +kernel
theorem dX4_next_11 : decode cX4_next 11 = .ok (.istore 4, 2) := by decide +kernel
theorem dX4_next_13 : decode cX4_next 13 = .ok (.iconst 1, 1) := by decide +kernel
theorem dX4_next_14 : decode cX4_next 14 = .ok (.istore 5, 2) := by decide +kernel
theorem dX4_next_16 : decode cX4_next 16 = .ok (.iload 5, 2) := by decide +kernel
theorem dX4_next_18 : decode cX4_next 18 = .ok (.iconst 1, 1) := by decide +kernel
theorem dX4_next_19 : decode cX4_next 19 = .ok (.aload_n 0, 1) := by decide +kernel
theorem dX4_next_20 : decode cX4_next 20 = .ok (.getfield 7, 3) := by decide +kernel
theorem dX4_next_23 : decode cX4_next 23 = .ok (.ishl, 1) := by decide +kernel
theorem dX4_next_24 : decode cX4_next 24 = .ok (.if_icmp .ge 145, 3) := by decide +kernel
theorem dX4_next_27 : decode cX4_next 27 = .ok (.iconst 0, 1) := by decide +kernel
theorem dX4_next_28 : decode cX4_next 28 = .ok (.istore 6, 2) := by decide +kernel
theorem dX4_next_30 : decode cX4_next 30 = .ok (.iconst 0, 1) := by decide +kernel
theorem dX4_next_31 : decode cX4_next 31 = .ok (.istore 7, 2) := by decide +kernel
theorem dX4_next_33 : decode cX4_next 33 = .ok (.iconst 0, 1) := by decide +kernel
theorem dX4_next_34 : decode cX4_next 34 = .ok (.istore 8, 2) := by decide +kernel
theorem dX4_next_36 : decode cX4_next 36 = .ok (.iload 8, 2) := by decide +kernel
theorem dX4_next_38 : decode cX4_next 38 = .ok (.aload_n 0, 1) := by decide +kernel
theorem dX4_next_39 : decode cX4_next 39 = .ok (.getfield 13, 3) := by decide +kernel
theorem dX4_next_42 : decode cX4_next 42 = .ok (.if_icmp .ge 74, 3) := by decide +kernel
theorem dX4_next_45 : decode cX4_next 45 = .ok (.aload_n 0, 1) := by decide +kernel
theorem dX4_next_46 : decode cX4_next 46 = .ok (.getfield 36, 3) := by decide +kernel
theorem dX4_next_49 : decode cX4_next 49 = .ok (.iload 8, 2) := by decide +kernel
theorem dX4_next_51 : decode cX4_next 51 = .ok (.baload, 1) := by decide +kernel
theorem dX4_next_52 : decode cX4_next 52 = .ok (.ifCond .ne 58, 3) := by decide +kernel
theorem dX4_next_55 : decode cX4_next 55 = .ok (.aload_n 0, 1) := by decide +kernel
theorem dX4_next_56 : decode cX4_next 56 = .ok (.iload 8, 2) := by decide +kernel
theorem dX4_next_58 : decode cX4_next 58 = .ok (.iconst 0, 1) := by decide +kernel
theorem dX4_next_59 : decode cX4_next 59 = .ok (.invokevirtual 130, 3) := by decide +kernel
theorem dX4_next_62 : decode cX4_next 62 = .ok (.ifCond .eq 6, 3) := by decide +kernel
theorem dX4_next_65 : decode cX4_next 65 = .ok (.goto 45, 3) := by decide +kernel
theorem dX4_next_68 : decode cX4_next 68 = .ok (.iload 6, 2) := by decide +kernel
theorem dX4_next_70 : decode cX4_next 70 = .ok (.aload_n 0, 1) := by decide +kernel
theorem dX4_next_71 : decode cX4_next 71 = .ok (.iload 8, 2) := by decide +kernel
theorem dX4_next_73 : decode cX4_next 73 = .ok (.iload 5, 2) := by decide +kernel
theorem dX4_next_75 : decode cX4_next 75 = .ok (.invokevirtual 130, 3) := by decide +kernel
theorem dX4_next_78 : decode cX4_next 78 = .ok (.ifCond .eq 7, 3) := by decide +kernel
theorem dX4_next_81 : decode cX4_next 81 = .ok (.iconst 1, 1) := by decide +kernel
theorem dX4_next_82 : decode cX4_next 82 = .ok (.goto 4, 3) := by decide +kernel
theorem dX4_next_85 : decode cX4_next 85 = .ok (.iconst 0, 1) := by decide +kernel
theorem dX4_next_86 : decode cX4_next 86 = .ok (.iadd, 1) := by decide +kernel
theorem dX4_next_87 : decode cX4_next 87 = .ok (.istore 6, 2) := by decide +kernel
theorem dX4_next_89 : decode cX4_next 89 = .ok (.iload 7, 2) := by decide +kernel
theorem dX4_next_91 : decode cX4_next 91 = .ok (.aload_n 0, 1) := by decide +kernel
theorem dX4_next_92 : decode cX4_next 92 = .ok (.iload 8, 2) := by decide +kernel
theorem dX4_next_94 : decode cX4_next 94 = .ok (.iload 5, 2) := by decide +kernel
theorem dX4_next_96 : decode cX4_next 96 = .ok (.invokevirtual 124, 3) := by decide +kernel
theorem dX4_next_99 : decode cX4_next 99 = .ok (.ifCond .eq 7, 3) := by decide +kernel
theorem dX4_next_102 : decode cX4_next 102 = .ok (.iconst 0, 1) := by decide +kernel
theorem dX4_next_103 : decode cX4_next 103 = .ok (.goto 4, 3) := by decide +kernel
theorem dX4_next_106 : decode cX4_next 106 = .ok (.iconst 1, 1) := by decide +kernel
theorem dX4_next_107 : decode cX4_next 107 = .ok (.iadd, 1) := by decide +kernel
theorem dX4_next_108 : decode cX4_next 108 = .ok (.istore 7, 2) := by decide +kernel
theorem dX4_next_110 : decode cX4_next 110 = .ok (.iinc 8 1, 3) := by decide +kernel
theorem dX4_next_113 : decode cX4_next 113 = .ok (.goto (-77), 3) := by decide +kernel
theorem dX4_next_116 : decode cX4_next 116 = .ok (.iload 4, 2) := by decide +kernel
theorem dX4_next_118 : decode cX4_next 118 = .ok (.ifCond .ne 8, 3) := by decide +kernel
theorem dX4_next_121 : decode cX4_next 121 = .ok (.iload 7, 2) := by decide +kernel
theorem dX4_next_123 : decode cX4_next 123 = .ok (.ifCond .le 7, 3) := by decide +kernel
theorem dX4_next_126 : decode cX4_next 126 = .ok (.iconst 1, 1) := by decide +kernel
theorem dX4_next_127 : decode cX4_next 127 = .ok (.goto 4, 3) := by decide +kernel
theorem dX4_next_130 : decode cX4_next 130 = .ok (.iconst 0, 1) := by decide +kernel
theorem dX4_next_131 : decode cX4_next 131 = .ok (.istore 4, 2) := by decide +kernel
theorem dX4_next_133 : decode cX4_next 133 = .ok (.iload 6, 2) := by decide +kernel
theorem dX4_next_135 : decode cX4_next 135 = .ok (.iload_n 2, 1) := by decide +kernel
theorem dX4_next_136 : decode cX4_next 136 = .ok (.if_icmp .lt 27, 3) := by decide +kernel
theorem dX4_next_139 : decode cX4_next 139 = .ok (.iload 6, 2) := by decide +kernel
theorem dX4_next_141 : decode cX4_next 141 = .ok (.iload_n 2, 1) := by decide +kernel
theorem dX4_next_142 : decode cX4_next 142 = .ok (.if_icmp .ne 12, 3) := by decide +kernel
theorem dX4_next_145 : decode cX4_next 145 = .ok (.iload 7, 2) := by decide +kernel
theorem dX4_next_147 : decode cX4_next 147 = .ok (.iload_n 3, 1) := by decide +kernel
theorem dX4_next_148 : decode cX4_next 148 = .ok (.if_icmp .gt 6, 3) := by decide +kernel
theorem dX4_next_151 : decode cX4_next 151 = .ok (.goto 12, 3) := by decide +kernel
theorem dX4_next_154 : decode cX4_next 154 = .ok (.iload 6, 2) := by decide +kernel
theorem dX4_next_156 : decode cX4_next 156 = .ok (.istore_n 2, 1) := by decide +kernel
theorem dX4_next_157 : decode cX4_next 157 = .ok (.iload 7, 2) := by decide +kernel
theorem dX4_next_159 : decode cX4_next 159 = .ok (.istore_n 3, 1) := by decide +kernel
theorem dX4_next_160 : decode cX4_next 160 = .ok (.iload 5, 2) := by decide +kernel
theorem dX4_next_162 : decode cX4_next 162 = .ok (.istore_n 1, 1) := by decide +kernel
theorem dX4_next_163 : decode cX4_next 163 = .ok (.iinc 5 1, 3) := by decide +kernel
theorem dX4_next_166 : decode cX4_next 166 = .ok (.goto (-150), 3) := by decide +kernel
theorem dX4_next_169 : decode cX4_next 169 = .ok (.iload 4, 2) := by decide +kernel
theorem dX4_next_171 : decode cX4_next 171 = .ok (.ifCond .eq 7, 3) := by decide +kernel
theorem dX4_next_174 : decode cX4_next 174 = .ok (.iload_n 1, 1) := by decide +kernel
theorem dX4_next_175 : decode cX4_next 175 = .ok (.goto 4, 3) := by decide +kernel
theorem dX4_next_178 : decode cX4_next 178 = .ok (.iconst 0, 1) := by decide +kernel
theorem dX4_next_179 : decode cX4_next 179 = .ok (.ireturn, 1) := by decide +kernel
theorem dX4_goOn_0 : decode cX4_goOn 0 = .ok (.aload_n 0, 1) := by decide +kernel
theorem dX4_goOn_1 : decode cX4_goOn 1 = .ok (.getfield 16, 3) := by decide +kernel
theorem dX4_goOn_4 : decode cX4_goOn 4 = .ok (.bipush 40, 2) := by decide +kernel
theorem dX4_goOn_6 : decode cX4_goOn 6 = .ok (.if_icmp .ne 6, 3) := by decide +kernel
theorem dX4_goOn_9 : decode cX4_goOn 9 = .ok (.bipush (-4), 2) := by decide +kernel
theorem dX4_goOn_11 : decode cX4_goOn 11 = .ok (.ireturn, 1) := by decide +kernel
theorem dX4_goOn_12 : decode cX4_goOn 12 = .ok (.aload_n 0, 1) := by decide +kernel
theorem dX4_goOn_13 : decode cX4_goOn 13 = .ok (.invokevirtual 191, 3) := by decide +kernel
theorem dX4_goOn_16 : decode cX4_goOn 16 = .ok (.istore_n 1, 1) := by decide +kernel
theorem dX4_goOn_17 : decode cX4_goOn 17 = .ok (.iload_n 1, 1) := by decide +kernel
theorem dX4_goOn_18 : decode cX4_goOn 18 = .ok (.ifCond .le 9, 3) := by decide +kernel
theorem dX4_goOn_21 : decode cX4_goOn 21 = .ok (.aload_n 0, 1) := by decide +kernel
theorem dX4_goOn_22 : decode cX4_goOn 22 = .ok (.iload_n 1, 1) := by decide +kernel
theorem dX4_goOn_23 : decode cX4_goOn 23 = .ok (.invokevirtual 105, 3) := by decide +kernel
theorem dX4_goOn_26 : decode cX4_goOn 26 = .ok (.istore_n 2, 1) := by decide +kernel
theorem dX4_goOn_27 : decode cX4_goOn 27 = .ok (.iload_n 1, 1) := by decide +kernel
theorem dX4_goOn_28 : decode cX4_goOn 28 = .ok (.ireturn, 1) := by decide +kernel
theorem dX4_finish_0 : decode cX4_finish 0 = .ok (.iconst 0, 1) := by decide +kernel
theorem dX4_finish_1 : decode cX4_finish 1 = .ok (.istore_n 1, 1) := by decide +kernel
theorem dX4_finish_2 : decode cX4_finish 2 = .ok (.iconst 1, 1) := by decide +kernel
theorem dX4_finish_3 : decode cX4_finish 3 = .ok (.istore_n 2, 1) := by decide +kernel
theorem dX4_finish_4 : decode cX4_finish 4 = .ok (.iload_n 2, 1) := by decide +kernel
theorem dX4_finish_5 : decode cX4_finish 5 = .ok (.ifCond .eq 31, 3) := by decide +kernel
theorem dX4_finish_8 : decode cX4_finish 8 = .ok (.aload_n 0, 1) := by decide +kernel
theorem dX4_finish_9 : decode cX4_finish 9 = .ok (.invokevirtual 194, 3) := by decide +kernel
theorem dX4_finish_12 : decode cX4_finish 12 = .ok (.ifCond .le 7, 3) := by decide +kernel
theorem dX4_finish_15 : decode cX4_finish 15 = .ok (.iconst 1, 1) := by decide +kernel
theorem dX4_finish_16 : decode cX4_finish 16 = .ok (.goto 4, 3) := by decide +kernel
theorem dX4_finish_19 : decode cX4_finish 19 = .ok (.iconst 0, 1) := by decide +kernel
theorem dX4_finish_20 : decode cX4_finish 20 = .ok (.istore_n 2, 1) := by decide +kernel
theorem dX4_finish_21 : decode cX4_finish 21 = .ok (.iload_n 1, 1) := by decide +kernel
theorem dX4_finish_22 : decode cX4_finish 22 = .ok (.iload_n 2, 1) := by decide +kernel
theorem dX4_finish_23 : decode cX4_finish 23 = .ok (.ifCond .eq 7, 3) := by decide +kernel
theorem dX4_finish_26 : decode cX4_finish 26 = .ok (.iconst 1, 1) := by decide +kernel
theorem dX4_finish_27 : decode cX4_finish 27 = .ok (.goto 4, 3) := by decide +kernel
theorem dX4_finish_30 : decode cX4_finish 30 = .ok (.iconst 0, 1) := by decide +kernel
theorem dX4_finish_31 : decode cX4_finish 31 = .ok (.iadd, 1) := by decide +kernel
theorem dX4_finish_32 : decode cX4_finish 32 = .ok (.istore_n 1, 1) := by decide +kernel
theorem dX4_finish_33 : decode cX4_finish 33 = .ok (.goto (-29), 3) := by decide +kernel
theorem dX4_finish_36 : decode cX4_finish 36 = .ok (.iload_n 1, 1) := by decide +kernel
theorem dX4_finish_37 : decode cX4_finish 37 = .ok (.ireturn, 1) := by decide +kernel
theorem dX4_count_0 : decode cX4_count 0 = .ok (.iconst 0, 1) := by decide +kernel
theorem dX4_count_1 : decode cX4_count 1 = .ok (.istore_n 2, 1) := by decide +kernel
theorem dX4_count_2 : decode cX4_count 2 = .ok (.iload_n 1, 1) := by decide +kernel
theorem dX4_count_3 : decode cX4_count 3 = .ok (.tableswitch 83 0 4 #[33, 38, 43, 48, 53], 33) := by decide +kernel
theorem dX4_count_36 : decode cX4_count 36 = .ok (.aload_n 0, 1) := by decide +kernel
theorem dX4_count_37 : decode cX4_count 37 = .ok (.getfield 7, 3) := by decide +kernel
theorem dX4_count_40 : decode cX4_count 40 = .ok (.ireturn, 1) := by decide +kernel
theorem dX4_count_41 : decode cX4_count 41 = .ok (.aload_n 0, 1) := by decide +kernel
theorem dX4_count_42 : decode cX4_count 42 = .ok (.getfield 13, 3) := by decide +kernel
theorem dX4_count_45 : decode cX4_count 45 = .ok (.ireturn, 1) := by decide +kernel
theorem dX4_count_46 : decode cX4_count 46 = .ok (.aload_n 0, 1) := by decide +kernel
theorem dX4_count_47 : decode cX4_count 47 = .ok (.getfield 16, 3) := by decide +kernel
theorem dX4_count_50 : decode cX4_count 50 = .ok (.ireturn, 1) := by decide +kernel
theorem dX4_count_51 : decode cX4_count 51 = .ok (.aload_n 0, 1) := by decide +kernel
theorem dX4_count_52 : decode cX4_count 52 = .ok (.invokevirtual 144, 3) := by decide +kernel
theorem dX4_count_55 : decode cX4_count 55 = .ok (.ireturn, 1) := by decide +kernel
theorem dX4_count_56 : decode cX4_count 56 = .ok (.iconst 0, 1) := by decide +kernel
theorem dX4_count_57 : decode cX4_count 57 = .ok (.istore_n 3, 1) := by decide +kernel
theorem dX4_count_58 : decode cX4_count 58 = .ok (.iload_n 3, 1) := by decide +kernel
theorem dX4_count_59 : decode cX4_count 59 = .ok (.aload_n 0, 1) := by decide +kernel
theorem dX4_count_60 : decode cX4_count 60 = .ok (.getfield 13, 3) := by decide +kernel
theorem dX4_count_63 : decode cX4_count 63 = .ok (.if_icmp .ge 21, 3) := by decide +kernel
theorem dX4_count_66 : decode cX4_count 66 = .ok (.aload_n 0, 1) := by decide +kernel
theorem dX4_count_67 : decode cX4_count 67 = .ok (.iload_n 3, 1) := by decide +kernel
theorem dX4_count_68 : decode cX4_count 68 = .ok (.invokevirtual 120, 3) := by decide +kernel
theorem dX4_count_71 : decode cX4_count 71 = .ok (.iload_n 2, 1) := by decide +kernel
theorem dX4_count_72 : decode cX4_count 72 = .ok (.aload_n 0, 1) := by decide +kernel
theorem dX4_count_73 : decode cX4_count 73 = .ok (.getfield 55, 3) := by decide +kernel
theorem dX4_count_76 : decode cX4_count 76 = .ok (.iadd, 1) := by decide +kernel
theorem dX4_count_77 : decode cX4_count 77 = .ok (.istore_n 2, 1) := by decide +kernel
theorem dX4_count_78 : decode cX4_count 78 = .ok (.iinc 3 1, 3) := by decide +kernel
theorem dX4_count_81 : decode cX4_count 81 = .ok (.goto (-23), 3) := by decide +kernel
theorem dX4_count_84 : decode cX4_count 84 = .ok (.iload_n 2, 1) := by decide +kernel
theorem dX4_count_85 : decode cX4_count 85 = .ok (.ireturn, 1) := by decide +kernel
theorem dX4_count_86 : decode cX4_count 86 = .ok (.iconst (-1), 1) := by decide +kernel
theorem dX4_count_87 : decode cX4_count 87 = .ok (.ireturn, 1) := by decide +kernel
end
section
theorem dL_law_0 : decode cL_law 0 = .ok (.new 7, 3) := by decide +kernel
theorem dL_law_3 : decode cL_law 3 = .ok (.dup, 1) := by decide +kernel
theorem dL_law_4 : decode cL_law 4 = .ok (.invokespecial 9, 3) := by decide +kernel
theorem dL_law_7 : decode cL_law 7 = .ok (.astore_n 1, 1) := by decide +kernel
theorem dL_law_8 : decode cL_law 8 = .ok (.new 10, 3) := by decide +kernel
theorem dL_law_11 : decode cL_law 11 = .ok (.dup, 1) := by decide +kernel
theorem dL_law_12 : decode cL_law 12 = .ok (.invokespecial 12, 3) := by decide +kernel
theorem dL_law_15 : decode cL_law 15 = .ok (.astore_n 2, 1) := by decide +kernel
theorem dL_law_16 : decode cL_law 16 = .ok (.iconst 0, 1) := by decide +kernel
theorem dL_law_17 : decode cL_law 17 = .ok (.istore_n 3, 1) := by decide +kernel
theorem dL_law_18 : decode cL_law 18 = .ok (.iload_n 3, 1) := by decide +kernel
theorem dL_law_19 : decode cL_law 19 = .ok (.aload_n 0, 1) := by decide +kernel
theorem dL_law_20 : decode cL_law 20 = .ok (.arraylength, 1) := by decide +kernel
theorem dL_law_21 : decode cL_law 21 = .ok (.iconst 5, 1) := by decide +kernel
theorem dL_law_22 : decode cL_law 22 = .ok (.isub, 1) := by decide +kernel
theorem dL_law_23 : decode cL_law 23 = .ok (.if_icmp .gt 955, 3) := by decide +kernel
theorem dL_law_26 : decode cL_law 26 = .ok (.aload_n 0, 1) := by decide +kernel
theorem dL_law_27 : decode cL_law 27 = .ok (.iload_n 3, 1) := by decide +kernel
theorem dL_law_28 : decode cL_law 28 = .ok (.iaload, 1) := by decide +kernel
theorem dL_law_29 : decode cL_law 29 = .ok (.bipush 31, 2) := by decide +kernel
theorem dL_law_31 : decode cL_law 31 = .ok (.iand, 1) := by decide +kernel
theorem dL_law_32 : decode cL_law 32 = .ok (.tableswitch 940 0 29 #[136, 189, 213, 236, 269, 302, 335, 358, 381, 414, 438, 471, 504, 537, 570, 604, 638, 671, 684, 697, 730, 743, 766, 779, 802, 815, 838, 891, 904, 917], 136) := by decide +kernel
theorem dL_law_168 : decode cL_law 168 = .ok (.aload_n 1, 1) := by decide +kernel
theorem dL_law_169 : decode cL_law 169 = .ok (.aload_n 0, 1) := by decide +kernel
theorem dL_law_170 : decode cL_law 170 = .ok (.iload_n 3, 1) := by decide +kernel
theorem dL_law_171 : decode cL_law 171 = .ok (.iconst 1, 1) := by decide +kernel
theorem dL_law_172 : decode cL_law 172 = .ok (.iadd, 1) := by decide +kernel
theorem dL_law_173 : decode cL_law 173 = .ok (.iaload, 1) := by decide +kernel
theorem dL_law_174 : decode cL_law 174 = .ok (.i2l, 1) := by decide +kernel
theorem dL_law_175 : decode cL_law 175 = .ok (.bipush 32, 2) := by decide +kernel
theorem dL_law_177 : decode cL_law 177 = .ok (.lshl, 1) := by decide +kernel
theorem dL_law_178 : decode cL_law 178 = .ok (.aload_n 0, 1) := by decide +kernel
theorem dL_law_179 : decode cL_law 179 = .ok (.iload_n 3, 1) := by decide +kernel
theorem dL_law_180 : decode cL_law 180 = .ok (.iconst 2, 1) := by decide +kernel
theorem dL_law_181 : decode cL_law 181 = .ok (.iadd, 1) := by decide +kernel
theorem dL_law_182 : decode cL_law 182 = .ok (.iaload, 1) := by decide +kernel
theorem dL_law_183 : decode cL_law 183 = .ok (.i2l, 1) := by decide +kernel
theorem dL_law_184 : decode cL_law 184 = .ok (.ldc2_w 13, 3) := by decide +kernel
theorem dL_law_187 : decode cL_law 187 = .ok (.land, 1) := by decide +kernel
theorem dL_law_188 : decode cL_law 188 = .ok (.lor, 1) := by decide +kernel
theorem dL_law_189 : decode cL_law 189 = .ok (.invokevirtual 15, 3) := by decide +kernel
theorem dL_law_192 : decode cL_law 192 = .ok (.aload_n 2, 1) := by decide +kernel
theorem dL_law_193 : decode cL_law 193 = .ok (.aload_n 0, 1) := by decide +kernel
theorem dL_law_194 : decode cL_law 194 = .ok (.iload_n 3, 1) := by decide +kernel
theorem dL_law_195 : decode cL_law 195 = .ok (.iconst 1, 1) := by decide +kernel
theorem dL_law_196 : decode cL_law 196 = .ok (.iadd, 1) := by decide +kernel
theorem dL_law_197 : decode cL_law 197 = .ok (.iaload, 1) := by decide +kernel
theorem dL_law_198 : decode cL_law 198 = .ok (.i2l, 1) := by decide +kernel
theorem dL_law_199 : decode cL_law 199 = .ok (.bipush 32, 2) := by decide +kernel
theorem dL_law_201 : decode cL_law 201 = .ok (.lshl, 1) := by decide +kernel
theorem dL_law_202 : decode cL_law 202 = .ok (.aload_n 0, 1) := by decide +kernel
theorem dL_law_203 : decode cL_law 203 = .ok (.iload_n 3, 1) := by decide +kernel
theorem dL_law_204 : decode cL_law 204 = .ok (.iconst 2, 1) := by decide +kernel
theorem dL_law_205 : decode cL_law 205 = .ok (.iadd, 1) := by decide +kernel
theorem dL_law_206 : decode cL_law 206 = .ok (.iaload, 1) := by decide +kernel
theorem dL_law_207 : decode cL_law 207 = .ok (.i2l, 1) := by decide +kernel
theorem dL_law_208 : decode cL_law 208 = .ok (.ldc2_w 13, 3) := by decide +kernel
theorem dL_law_211 : decode cL_law 211 = .ok (.land, 1) := by decide +kernel
theorem dL_law_212 : decode cL_law 212 = .ok (.lor, 1) := by decide +kernel
theorem dL_law_213 : decode cL_law 213 = .ok (.invokevirtual 19, 3) := by decide +kernel
theorem dL_law_216 : decode cL_law 216 = .ok (.if_icmp .eq 756, 3) := by decide +kernel
theorem dL_law_219 : decode cL_law 219 = .ok (.iconst 0, 1) := by decide +kernel
theorem dL_law_220 : decode cL_law 220 = .ok (.ireturn, 1) := by decide +kernel
theorem dL_law_221 : decode cL_law 221 = .ok (.aload_n 1, 1) := by decide +kernel
theorem dL_law_222 : decode cL_law 222 = .ok (.aload_n 0, 1) := by decide +kernel
theorem dL_law_223 : decode cL_law 223 = .ok (.iload_n 3, 1) := by decide +kernel
theorem dL_law_224 : decode cL_law 224 = .ok (.iconst 1, 1) := by decide +kernel
theorem dL_law_225 : decode cL_law 225 = .ok (.iadd, 1) := by decide +kernel
theorem dL_law_226 : decode cL_law 226 = .ok (.iaload, 1) := by decide +kernel
theorem dL_law_227 : decode cL_law 227 = .ok (.invokevirtual 20, 3) := by decide +kernel
theorem dL_law_230 : decode cL_law 230 = .ok (.aload_n 2, 1) := by decide +kernel
theorem dL_law_231 : decode cL_law 231 = .ok (.aload_n 0, 1) := by decide +kernel
theorem dL_law_232 : decode cL_law 232 = .ok (.iload_n 3, 1) := by decide +kernel
theorem dL_law_233 : decode cL_law 233 = .ok (.iconst 1, 1) := by decide +kernel
theorem dL_law_234 : decode cL_law 234 = .ok (.iadd, 1) := by decide +kernel
theorem dL_law_235 : decode cL_law 235 = .ok (.iaload, 1) := by decide +kernel
theorem dL_law_236 : decode cL_law 236 = .ok (.invokevirtual 24, 3) := by decide +kernel
theorem dL_law_239 : decode cL_law 239 = .ok (.lcmp, 1) := by decide +kernel
theorem dL_law_240 : decode cL_law 240 = .ok (.ifCond .eq 732, 3) := by decide +kernel
theorem dL_law_243 : decode cL_law 243 = .ok (.iconst 0, 1) := by decide +kernel
theorem dL_law_244 : decode cL_law 244 = .ok (.ireturn, 1) := by decide +kernel
theorem dL_law_245 : decode cL_law 245 = .ok (.aload_n 1, 1) := by decide +kernel
theorem dL_law_246 : decode cL_law 246 = .ok (.aload_n 0, 1) := by decide +kernel
theorem dL_law_247 : decode cL_law 247 = .ok (.iload_n 3, 1) := by decide +kernel
theorem dL_law_248 : decode cL_law 248 = .ok (.iconst 1, 1) := by decide +kernel
theorem dL_law_249 : decode cL_law 249 = .ok (.iadd, 1) := by decide +kernel
theorem dL_law_250 : decode cL_law 250 = .ok (.iaload, 1) := by decide +kernel
theorem dL_law_251 : decode cL_law 251 = .ok (.invokevirtual 25, 3) := by decide +kernel
theorem dL_law_254 : decode cL_law 254 = .ok (.aload_n 2, 1) := by decide +kernel
theorem dL_law_255 : decode cL_law 255 = .ok (.aload_n 0, 1) := by decide +kernel
theorem dL_law_256 : decode cL_law 256 = .ok (.iload_n 3, 1) := by decide +kernel
theorem dL_law_257 : decode cL_law 257 = .ok (.iconst 1, 1) := by decide +kernel
theorem dL_law_258 : decode cL_law 258 = .ok (.iadd, 1) := by decide +kernel
theorem dL_law_259 : decode cL_law 259 = .ok (.iaload, 1) := by decide +kernel
theorem dL_law_260 : decode cL_law 260 = .ok (.invokevirtual 29, 3) := by decide +kernel
theorem dL_law_263 : decode cL_law 263 = .ok (.if_icmp .eq 709, 3) := by decide +kernel
theorem dL_law_266 : decode cL_law 266 = .ok (.iconst 0, 1) := by decide +kernel
theorem dL_law_267 : decode cL_law 267 = .ok (.ireturn, 1) := by decide +kernel
theorem dL_law_268 : decode cL_law 268 = .ok (.aload_n 1, 1) := by decide +kernel
theorem dL_law_269 : decode cL_law 269 = .ok (.aload_n 0, 1) := by decide +kernel
theorem dL_law_270 : decode cL_law 270 = .ok (.iload_n 3, 1) := by decide +kernel
theorem dL_law_271 : decode cL_law 271 = .ok (.iconst 1, 1) := by decide +kernel
theorem dL_law_272 : decode cL_law 272 = .ok (.iadd, 1) := by decide +kernel
theorem dL_law_273 : decode cL_law 273 = .ok (.iaload, 1) := by decide +kernel
theorem dL_law_274 : decode cL_law 274 = .ok (.aload_n 0, 1) := by decide +kernel
theorem dL_law_275 : decode cL_law 275 = .ok (.iload_n 3, 1) := by decide +kernel
theorem dL_law_276 : decode cL_law 276 = .ok (.iconst 2, 1) := by decide +kernel
theorem dL_law_277 : decode cL_law 277 = .ok (.iadd, 1) := by decide +kernel
theorem dL_law_278 : decode cL_law 278 = .ok (.iaload, 1) := by decide +kernel
theorem dL_law_279 : decode cL_law 279 = .ok (.invokevirtual 30, 3) := by decide +kernel
theorem dL_law_282 : decode cL_law 282 = .ok (.aload_n 2, 1) := by decide +kernel
theorem dL_law_283 : decode cL_law 283 = .ok (.aload_n 0, 1) := by decide +kernel
theorem dL_law_284 : decode cL_law 284 = .ok (.iload_n 3, 1) := by decide +kernel
theorem dL_law_285 : decode cL_law 285 = .ok (.iconst 1, 1) := by decide +kernel
theorem dL_law_286 : decode cL_law 286 = .ok (.iadd, 1) := by decide +kernel
theorem dL_law_287 : decode cL_law 287 = .ok (.iaload, 1) := by decide +kernel
theorem dL_law_288 : decode cL_law 288 = .ok (.aload_n 0, 1) := by decide +kernel
theorem dL_law_289 : decode cL_law 289 = .ok (.iload_n 3, 1) := by decide +kernel
theorem dL_law_290 : decode cL_law 290 = .ok (.iconst 2, 1) := by decide +kernel
theorem dL_law_291 : decode cL_law 291 = .ok (.iadd, 1) := by decide +kernel
theorem dL_law_292 : decode cL_law 292 = .ok (.iaload, 1) := by decide +kernel
theorem dL_law_293 : decode cL_law 293 = .ok (.invokevirtual 34, 3) := by decide +kernel
theorem dL_law_296 : decode cL_law 296 = .ok (.if_icmp .eq 676, 3) := by decide +kernel
theorem dL_law_299 : decode cL_law 299 = .ok (.iconst 0, 1) := by decide +kernel
theorem dL_law_300 : decode cL_law 300 = .ok (.ireturn, 1) := by decide +kernel
theorem dL_law_301 : decode cL_law 301 = .ok (.aload_n 1, 1) := by decide +kernel
theorem dL_law_302 : decode cL_law 302 = .ok (.aload_n 0, 1) := by decide +kernel
theorem dL_law_303 : decode cL_law 303 = .ok (.iload_n 3, 1) := by decide +kernel
theorem dL_law_304 : decode cL_law 304 = .ok (.iconst 1, 1) := by decide +kernel
theorem dL_law_305 : decode cL_law 305 = .ok (.iadd, 1) := by decide +kernel
theorem dL_law_306 : decode cL_law 306 = .ok (.iaload, 1) := by decide +kernel
theorem dL_law_307 : decode cL_law 307 = .ok (.aload_n 0, 1) := by decide +kernel
theorem dL_law_308 : decode cL_law 308 = .ok (.iload_n 3, 1) := by decide +kernel
theorem dL_law_309 : decode cL_law 309 = .ok (.iconst 2, 1) := by decide +kernel
theorem dL_law_310 : decode cL_law 310 = .ok (.iadd, 1) := by decide +kernel
theorem dL_law_311 : decode cL_law 311 = .ok (.iaload, 1) := by decide +kernel
theorem dL_law_312 : decode cL_law 312 = .ok (.invokevirtual 35, 3) := by decide +kernel
theorem dL_law_315 : decode cL_law 315 = .ok (.aload_n 2, 1) := by decide +kernel
theorem dL_law_316 : decode cL_law 316 = .ok (.aload_n 0, 1) := by decide +kernel
theorem dL_law_317 : decode cL_law 317 = .ok (.iload_n 3, 1) := by decide +kernel
theorem dL_law_318 : decode cL_law 318 = .ok (.iconst 1, 1) := by decide +kernel
theorem dL_law_319 : decode cL_law 319 = .ok (.iadd, 1) := by decide +kernel
theorem dL_law_320 : decode cL_law 320 = .ok (.iaload, 1) := by decide +kernel
theorem dL_law_321 : decode cL_law 321 = .ok (.aload_n 0, 1) := by decide +kernel
theorem dL_law_322 : decode cL_law 322 = .ok (.iload_n 3, 1) := by decide +kernel
theorem dL_law_323 : decode cL_law 323 = .ok (.iconst 2, 1) := by decide +kernel
theorem dL_law_324 : decode cL_law 324 = .ok (.iadd, 1) := by decide +kernel
theorem dL_law_325 : decode cL_law 325 = .ok (.iaload, 1) := by decide +kernel
theorem dL_law_326 : decode cL_law 326 = .ok (.invokevirtual 38, 3) := by decide +kernel
theorem dL_law_329 : decode cL_law 329 = .ok (.if_icmp .eq 643, 3) := by decide +kernel
theorem dL_law_332 : decode cL_law 332 = .ok (.iconst 0, 1) := by decide +kernel
theorem dL_law_333 : decode cL_law 333 = .ok (.ireturn, 1) := by decide +kernel
theorem dL_law_334 : decode cL_law 334 = .ok (.aload_n 1, 1) := by decide +kernel
theorem dL_law_335 : decode cL_law 335 = .ok (.aload_n 0, 1) := by decide +kernel
theorem dL_law_336 : decode cL_law 336 = .ok (.iload_n 3, 1) := by decide +kernel
theorem dL_law_337 : decode cL_law 337 = .ok (.iconst 1, 1) := by decide +kernel
theorem dL_law_338 : decode cL_law 338 = .ok (.iadd, 1) := by decide +kernel
theorem dL_law_339 : decode cL_law 339 = .ok (.iaload, 1) := by decide +kernel
theorem dL_law_340 : decode cL_law 340 = .ok (.aload_n 0, 1) := by decide +kernel
theorem dL_law_341 : decode cL_law 341 = .ok (.iload_n 3, 1) := by decide +kernel
theorem dL_law_342 : decode cL_law 342 = .ok (.iconst 2, 1) := by decide +kernel
theorem dL_law_343 : decode cL_law 343 = .ok (.iadd, 1) := by decide +kernel
theorem dL_law_344 : decode cL_law 344 = .ok (.iaload, 1) := by decide +kernel
theorem dL_law_345 : decode cL_law 345 = .ok (.invokevirtual 39, 3) := by decide +kernel
theorem dL_law_348 : decode cL_law 348 = .ok (.aload_n 2, 1) := by decide +kernel
theorem dL_law_349 : decode cL_law 349 = .ok (.aload_n 0, 1) := by decide +kernel
theorem dL_law_350 : decode cL_law 350 = .ok (.iload_n 3, 1) := by decide +kernel
theorem dL_law_351 : decode cL_law 351 = .ok (.iconst 1, 1) := by decide +kernel
theorem dL_law_352 : decode cL_law 352 = .ok (.iadd, 1) := by decide +kernel
theorem dL_law_353 : decode cL_law 353 = .ok (.iaload, 1) := by decide +kernel
theorem dL_law_354 : decode cL_law 354 = .ok (.aload_n 0, 1) := by decide +kernel
theorem dL_law_355 : decode cL_law 355 = .ok (.iload_n 3, 1) := by decide +kernel
theorem dL_law_356 : decode cL_law 356 = .ok (.iconst 2, 1) := by decide +kernel
theorem dL_law_357 : decode cL_law 357 = .ok (.iadd, 1) := by decide +kernel
theorem dL_law_358 : decode cL_law 358 = .ok (.iaload, 1) := by decide +kernel
theorem dL_law_359 : decode cL_law 359 = .ok (.invokevirtual 42, 3) := by decide +kernel
theorem dL_law_362 : decode cL_law 362 = .ok (.if_icmp .eq 610, 3) := by decide +kernel
theorem dL_law_365 : decode cL_law 365 = .ok (.iconst 0, 1) := by decide +kernel
theorem dL_law_366 : decode cL_law 366 = .ok (.ireturn, 1) := by decide +kernel
theorem dL_law_367 : decode cL_law 367 = .ok (.aload_n 1, 1) := by decide +kernel
theorem dL_law_368 : decode cL_law 368 = .ok (.aload_n 0, 1) := by decide +kernel
theorem dL_law_369 : decode cL_law 369 = .ok (.iload_n 3, 1) := by decide +kernel
theorem dL_law_370 : decode cL_law 370 = .ok (.iconst 1, 1) := by decide +kernel
theorem dL_law_371 : decode cL_law 371 = .ok (.iadd, 1) := by decide +kernel
theorem dL_law_372 : decode cL_law 372 = .ok (.iaload, 1) := by decide +kernel
theorem dL_law_373 : decode cL_law 373 = .ok (.invokevirtual 43, 3) := by decide +kernel
theorem dL_law_376 : decode cL_law 376 = .ok (.aload_n 2, 1) := by decide +kernel
theorem dL_law_377 : decode cL_law 377 = .ok (.aload_n 0, 1) := by decide +kernel
theorem dL_law_378 : decode cL_law 378 = .ok (.iload_n 3, 1) := by decide +kernel
theorem dL_law_379 : decode cL_law 379 = .ok (.iconst 1, 1) := by decide +kernel
theorem dL_law_380 : decode cL_law 380 = .ok (.iadd, 1) := by decide +kernel
theorem dL_law_381 : decode cL_law 381 = .ok (.iaload, 1) := by decide +kernel
theorem dL_law_382 : decode cL_law 382 = .ok (.invokevirtual 46, 3) := by decide +kernel
theorem dL_law_385 : decode cL_law 385 = .ok (.if_icmp .eq 587, 3) := by decide +kernel
theorem dL_law_388 : decode cL_law 388 = .ok (.iconst 0, 1) := by decide +kernel
theorem dL_law_389 : decode cL_law 389 = .ok (.ireturn, 1) := by decide +kernel
theorem dL_law_390 : decode cL_law 390 = .ok (.aload_n 1, 1) := by decide +kernel
theorem dL_law_391 : decode cL_law 391 = .ok (.aload_n 0, 1) := by decide +kernel
theorem dL_law_392 : decode cL_law 392 = .ok (.iload_n 3, 1) := by decide +kernel
theorem dL_law_393 : decode cL_law 393 = .ok (.iconst 1, 1) := by decide +kernel
theorem dL_law_394 : decode cL_law 394 = .ok (.iadd, 1) := by decide +kernel
theorem dL_law_395 : decode cL_law 395 = .ok (.iaload, 1) := by decide +kernel
theorem dL_law_396 : decode cL_law 396 = .ok (.invokevirtual 47, 3) := by decide +kernel
theorem dL_law_399 : decode cL_law 399 = .ok (.aload_n 2, 1) := by decide +kernel
theorem dL_law_400 : decode cL_law 400 = .ok (.aload_n 0, 1) := by decide +kernel
theorem dL_law_401 : decode cL_law 401 = .ok (.iload_n 3, 1) := by decide +kernel
theorem dL_law_402 : decode cL_law 402 = .ok (.iconst 1, 1) := by decide +kernel
theorem dL_law_403 : decode cL_law 403 = .ok (.iadd, 1) := by decide +kernel
theorem dL_law_404 : decode cL_law 404 = .ok (.iaload, 1) := by decide +kernel
theorem dL_law_405 : decode cL_law 405 = .ok (.invokevirtual 50, 3) := by decide +kernel
theorem dL_law_408 : decode cL_law 408 = .ok (.if_icmp .eq 564, 3) := by decide +kernel
theorem dL_law_411 : decode cL_law 411 = .ok (.iconst 0, 1) := by decide +kernel
theorem dL_law_412 : decode cL_law 412 = .ok (.ireturn, 1) := by decide +kernel
theorem dL_law_413 : decode cL_law 413 = .ok (.aload_n 1, 1) := by decide +kernel
theorem dL_law_414 : decode cL_law 414 = .ok (.aload_n 0, 1) := by decide +kernel
theorem dL_law_415 : decode cL_law 415 = .ok (.iload_n 3, 1) := by decide +kernel
theorem dL_law_416 : decode cL_law 416 = .ok (.iconst 1, 1) := by decide +kernel
theorem dL_law_417 : decode cL_law 417 = .ok (.iadd, 1) := by decide +kernel
theorem dL_law_418 : decode cL_law 418 = .ok (.iaload, 1) := by decide +kernel
theorem dL_law_419 : decode cL_law 419 = .ok (.aload_n 0, 1) := by decide +kernel
theorem dL_law_420 : decode cL_law 420 = .ok (.iload_n 3, 1) := by decide +kernel
theorem dL_law_421 : decode cL_law 421 = .ok (.iconst 2, 1) := by decide +kernel
theorem dL_law_422 : decode cL_law 422 = .ok (.iadd, 1) := by decide +kernel
theorem dL_law_423 : decode cL_law 423 = .ok (.iaload, 1) := by decide +kernel
theorem dL_law_424 : decode cL_law 424 = .ok (.invokevirtual 51, 3) := by decide +kernel
theorem dL_law_427 : decode cL_law 427 = .ok (.aload_n 2, 1) := by decide +kernel
theorem dL_law_428 : decode cL_law 428 = .ok (.aload_n 0, 1) := by decide +kernel
theorem dL_law_429 : decode cL_law 429 = .ok (.iload_n 3, 1) := by decide +kernel
theorem dL_law_430 : decode cL_law 430 = .ok (.iconst 1, 1) := by decide +kernel
theorem dL_law_431 : decode cL_law 431 = .ok (.iadd, 1) := by decide +kernel
theorem dL_law_432 : decode cL_law 432 = .ok (.iaload, 1) := by decide +kernel
theorem dL_law_433 : decode cL_law 433 = .ok (.aload_n 0, 1) := by decide +kernel
theorem dL_law_434 : decode cL_law 434 = .ok (.iload_n 3, 1) := by decide +kernel
theorem dL_law_435 : decode cL_law 435 = .ok (.iconst 2, 1) := by decide +kernel
theorem dL_law_436 : decode cL_law 436 = .ok (.iadd, 1) := by decide +kernel
theorem dL_law_437 : decode cL_law 437 = .ok (.iaload, 1) := by decide +kernel
theorem dL_law_438 : decode cL_law 438 = .ok (.invokevirtual 54, 3) := by decide +kernel
theorem dL_law_441 : decode cL_law 441 = .ok (.if_icmp .eq 531, 3) := by decide +kernel
theorem dL_law_444 : decode cL_law 444 = .ok (.iconst 0, 1) := by decide +kernel
theorem dL_law_445 : decode cL_law 445 = .ok (.ireturn, 1) := by decide +kernel
theorem dL_law_446 : decode cL_law 446 = .ok (.aload_n 1, 1) := by decide +kernel
theorem dL_law_447 : decode cL_law 447 = .ok (.aload_n 0, 1) := by decide +kernel
theorem dL_law_448 : decode cL_law 448 = .ok (.iload_n 3, 1) := by decide +kernel
theorem dL_law_449 : decode cL_law 449 = .ok (.iconst 1, 1) := by decide +kernel
theorem dL_law_450 : decode cL_law 450 = .ok (.iadd, 1) := by decide +kernel
theorem dL_law_451 : decode cL_law 451 = .ok (.iaload, 1) := by decide +kernel
theorem dL_law_452 : decode cL_law 452 = .ok (.invokevirtual 55, 3) := by decide +kernel
theorem dL_law_455 : decode cL_law 455 = .ok (.aload_n 2, 1) := by decide +kernel
theorem dL_law_456 : decode cL_law 456 = .ok (.aload_n 0, 1) := by decide +kernel
theorem dL_law_457 : decode cL_law 457 = .ok (.iload_n 3, 1) := by decide +kernel
theorem dL_law_458 : decode cL_law 458 = .ok (.iconst 1, 1) := by decide +kernel
theorem dL_law_459 : decode cL_law 459 = .ok (.iadd, 1) := by decide +kernel
theorem dL_law_460 : decode cL_law 460 = .ok (.iaload, 1) := by decide +kernel
theorem dL_law_461 : decode cL_law 461 = .ok (.invokevirtual 58, 3) := by decide +kernel
theorem dL_law_464 : decode cL_law 464 = .ok (.lcmp, 1) := by decide +kernel
theorem dL_law_465 : decode cL_law 465 = .ok (.ifCond .eq 507, 3) := by decide +kernel
theorem dL_law_468 : decode cL_law 468 = .ok (.iconst 0, 1) := by decide +kernel
theorem dL_law_469 : decode cL_law 469 = .ok (.ireturn, 1) := by decide +kernel
theorem dL_law_470 : decode cL_law 470 = .ok (.aload_n 1, 1) := by decide +kernel
theorem dL_law_471 : decode cL_law 471 = .ok (.aload_n 0, 1) := by decide +kernel
theorem dL_law_472 : decode cL_law 472 = .ok (.iload_n 3, 1) := by decide +kernel
theorem dL_law_473 : decode cL_law 473 = .ok (.iconst 1, 1) := by decide +kernel
theorem dL_law_474 : decode cL_law 474 = .ok (.iadd, 1) := by decide +kernel
theorem dL_law_475 : decode cL_law 475 = .ok (.iaload, 1) := by decide +kernel
theorem dL_law_476 : decode cL_law 476 = .ok (.aload_n 0, 1) := by decide +kernel
theorem dL_law_477 : decode cL_law 477 = .ok (.iload_n 3, 1) := by decide +kernel
theorem dL_law_478 : decode cL_law 478 = .ok (.iconst 2, 1) := by decide +kernel
theorem dL_law_479 : decode cL_law 479 = .ok (.iadd, 1) := by decide +kernel
theorem dL_law_480 : decode cL_law 480 = .ok (.iaload, 1) := by decide +kernel
theorem dL_law_481 : decode cL_law 481 = .ok (.invokevirtual 59, 3) := by decide +kernel
theorem dL_law_484 : decode cL_law 484 = .ok (.aload_n 2, 1) := by decide +kernel
theorem dL_law_485 : decode cL_law 485 = .ok (.aload_n 0, 1) := by decide +kernel
theorem dL_law_486 : decode cL_law 486 = .ok (.iload_n 3, 1) := by decide +kernel
theorem dL_law_487 : decode cL_law 487 = .ok (.iconst 1, 1) := by decide +kernel
theorem dL_law_488 : decode cL_law 488 = .ok (.iadd, 1) := by decide +kernel
theorem dL_law_489 : decode cL_law 489 = .ok (.iaload, 1) := by decide +kernel
theorem dL_law_490 : decode cL_law 490 = .ok (.aload_n 0, 1) := by decide +kernel
theorem dL_law_491 : decode cL_law 491 = .ok (.iload_n 3, 1) := by decide +kernel
theorem dL_law_492 : decode cL_law 492 = .ok (.iconst 2, 1) := by decide +kernel
theorem dL_law_493 : decode cL_law 493 = .ok (.iadd, 1) := by decide +kernel
theorem dL_law_494 : decode cL_law 494 = .ok (.iaload, 1) := by decide +kernel
theorem dL_law_495 : decode cL_law 495 = .ok (.invokevirtual 62, 3) := by decide +kernel
theorem dL_law_498 : decode cL_law 498 = .ok (.if_icmp .eq 474, 3) := by decide +kernel
theorem dL_law_501 : decode cL_law 501 = .ok (.iconst 0, 1) := by decide +kernel
theorem dL_law_502 : decode cL_law 502 = .ok (.ireturn, 1) := by decide +kernel
theorem dL_law_503 : decode cL_law 503 = .ok (.aload_n 1, 1) := by decide +kernel
theorem dL_law_504 : decode cL_law 504 = .ok (.aload_n 0, 1) := by decide +kernel
theorem dL_law_505 : decode cL_law 505 = .ok (.iload_n 3, 1) := by decide +kernel
theorem dL_law_506 : decode cL_law 506 = .ok (.iconst 1, 1) := by decide +kernel
theorem dL_law_507 : decode cL_law 507 = .ok (.iadd, 1) := by decide +kernel
theorem dL_law_508 : decode cL_law 508 = .ok (.iaload, 1) := by decide +kernel
theorem dL_law_509 : decode cL_law 509 = .ok (.aload_n 0, 1) := by decide +kernel
theorem dL_law_510 : decode cL_law 510 = .ok (.iload_n 3, 1) := by decide +kernel
theorem dL_law_511 : decode cL_law 511 = .ok (.iconst 2, 1) := by decide +kernel
theorem dL_law_512 : decode cL_law 512 = .ok (.iadd, 1) := by decide +kernel
theorem dL_law_513 : decode cL_law 513 = .ok (.iaload, 1) := by decide +kernel
theorem dL_law_514 : decode cL_law 514 = .ok (.invokevirtual 63, 3) := by decide +kernel
theorem dL_law_517 : decode cL_law 517 = .ok (.aload_n 2, 1) := by decide +kernel
theorem dL_law_518 : decode cL_law 518 = .ok (.aload_n 0, 1) := by decide +kernel
theorem dL_law_519 : decode cL_law 519 = .ok (.iload_n 3, 1) := by decide +kernel
theorem dL_law_520 : decode cL_law 520 = .ok (.iconst 1, 1) := by decide +kernel
theorem dL_law_521 : decode cL_law 521 = .ok (.iadd, 1) := by decide +kernel
theorem dL_law_522 : decode cL_law 522 = .ok (.iaload, 1) := by decide +kernel
theorem dL_law_523 : decode cL_law 523 = .ok (.aload_n 0, 1) := by decide +kernel
theorem dL_law_524 : decode cL_law 524 = .ok (.iload_n 3, 1) := by decide +kernel
theorem dL_law_525 : decode cL_law 525 = .ok (.iconst 2, 1) := by decide +kernel
theorem dL_law_526 : decode cL_law 526 = .ok (.iadd, 1) := by decide +kernel
theorem dL_law_527 : decode cL_law 527 = .ok (.iaload, 1) := by decide +kernel
theorem dL_law_528 : decode cL_law 528 = .ok (.invokevirtual 66, 3) := by decide +kernel
theorem dL_law_531 : decode cL_law 531 = .ok (.if_icmp .eq 441, 3) := by decide +kernel
theorem dL_law_534 : decode cL_law 534 = .ok (.iconst 0, 1) := by decide +kernel
theorem dL_law_535 : decode cL_law 535 = .ok (.ireturn, 1) := by decide +kernel
theorem dL_law_536 : decode cL_law 536 = .ok (.aload_n 1, 1) := by decide +kernel
theorem dL_law_537 : decode cL_law 537 = .ok (.aload_n 0, 1) := by decide +kernel
theorem dL_law_538 : decode cL_law 538 = .ok (.iload_n 3, 1) := by decide +kernel
theorem dL_law_539 : decode cL_law 539 = .ok (.iconst 1, 1) := by decide +kernel
theorem dL_law_540 : decode cL_law 540 = .ok (.iadd, 1) := by decide +kernel
theorem dL_law_541 : decode cL_law 541 = .ok (.iaload, 1) := by decide +kernel
theorem dL_law_542 : decode cL_law 542 = .ok (.aload_n 0, 1) := by decide +kernel
theorem dL_law_543 : decode cL_law 543 = .ok (.iload_n 3, 1) := by decide +kernel
theorem dL_law_544 : decode cL_law 544 = .ok (.iconst 2, 1) := by decide +kernel
theorem dL_law_545 : decode cL_law 545 = .ok (.iadd, 1) := by decide +kernel
theorem dL_law_546 : decode cL_law 546 = .ok (.iaload, 1) := by decide +kernel
theorem dL_law_547 : decode cL_law 547 = .ok (.invokevirtual 67, 3) := by decide +kernel
theorem dL_law_550 : decode cL_law 550 = .ok (.aload_n 2, 1) := by decide +kernel
theorem dL_law_551 : decode cL_law 551 = .ok (.aload_n 0, 1) := by decide +kernel
theorem dL_law_552 : decode cL_law 552 = .ok (.iload_n 3, 1) := by decide +kernel
theorem dL_law_553 : decode cL_law 553 = .ok (.iconst 1, 1) := by decide +kernel
theorem dL_law_554 : decode cL_law 554 = .ok (.iadd, 1) := by decide +kernel
theorem dL_law_555 : decode cL_law 555 = .ok (.iaload, 1) := by decide +kernel
theorem dL_law_556 : decode cL_law 556 = .ok (.aload_n 0, 1) := by decide +kernel
theorem dL_law_557 : decode cL_law 557 = .ok (.iload_n 3, 1) := by decide +kernel
theorem dL_law_558 : decode cL_law 558 = .ok (.iconst 2, 1) := by decide +kernel
theorem dL_law_559 : decode cL_law 559 = .ok (.iadd, 1) := by decide +kernel
theorem dL_law_560 : decode cL_law 560 = .ok (.iaload, 1) := by decide +kernel
theorem dL_law_561 : decode cL_law 561 = .ok (.invokevirtual 70, 3) := by decide +kernel
theorem dL_law_564 : decode cL_law 564 = .ok (.if_icmp .eq 408, 3) := by decide +kernel
theorem dL_law_567 : decode cL_law 567 = .ok (.iconst 0, 1) := by decide +kernel
theorem dL_law_568 : decode cL_law 568 = .ok (.ireturn, 1) := by decide +kernel
theorem dL_law_569 : decode cL_law 569 = .ok (.aload_n 1, 1) := by decide +kernel
theorem dL_law_570 : decode cL_law 570 = .ok (.aload_n 0, 1) := by decide +kernel
theorem dL_law_571 : decode cL_law 571 = .ok (.iload_n 3, 1) := by decide +kernel
theorem dL_law_572 : decode cL_law 572 = .ok (.iconst 1, 1) := by decide +kernel
theorem dL_law_573 : decode cL_law 573 = .ok (.iadd, 1) := by decide +kernel
theorem dL_law_574 : decode cL_law 574 = .ok (.iaload, 1) := by decide +kernel
theorem dL_law_575 : decode cL_law 575 = .ok (.aload_n 0, 1) := by decide +kernel
theorem dL_law_576 : decode cL_law 576 = .ok (.iload_n 3, 1) := by decide +kernel
theorem dL_law_577 : decode cL_law 577 = .ok (.iconst 2, 1) := by decide +kernel
theorem dL_law_578 : decode cL_law 578 = .ok (.iadd, 1) := by decide +kernel
theorem dL_law_579 : decode cL_law 579 = .ok (.iaload, 1) := by decide +kernel
theorem dL_law_580 : decode cL_law 580 = .ok (.invokevirtual 71, 3) := by decide +kernel
theorem dL_law_583 : decode cL_law 583 = .ok (.aload_n 2, 1) := by decide +kernel
theorem dL_law_584 : decode cL_law 584 = .ok (.aload_n 0, 1) := by decide +kernel
theorem dL_law_585 : decode cL_law 585 = .ok (.iload_n 3, 1) := by decide +kernel
theorem dL_law_586 : decode cL_law 586 = .ok (.iconst 1, 1) := by decide +kernel
theorem dL_law_587 : decode cL_law 587 = .ok (.iadd, 1) := by decide +kernel
theorem dL_law_588 : decode cL_law 588 = .ok (.iaload, 1) := by decide +kernel
theorem dL_law_589 : decode cL_law 589 = .ok (.aload_n 0, 1) := by decide +kernel
theorem dL_law_590 : decode cL_law 590 = .ok (.iload_n 3, 1) := by decide +kernel
theorem dL_law_591 : decode cL_law 591 = .ok (.iconst 2, 1) := by decide +kernel
theorem dL_law_592 : decode cL_law 592 = .ok (.iadd, 1) := by decide +kernel
theorem dL_law_593 : decode cL_law 593 = .ok (.iaload, 1) := by decide +kernel
theorem dL_law_594 : decode cL_law 594 = .ok (.invokevirtual 74, 3) := by decide +kernel
theorem dL_law_597 : decode cL_law 597 = .ok (.if_icmp .eq 375, 3) := by decide +kernel
theorem dL_law_600 : decode cL_law 600 = .ok (.iconst 0, 1) := by decide +kernel
theorem dL_law_601 : decode cL_law 601 = .ok (.ireturn, 1) := by decide +kernel
theorem dL_law_602 : decode cL_law 602 = .ok (.aload_n 1, 1) := by decide +kernel
theorem dL_law_603 : decode cL_law 603 = .ok (.aload_n 0, 1) := by decide +kernel
theorem dL_law_604 : decode cL_law 604 = .ok (.iload_n 3, 1) := by decide +kernel
theorem dL_law_605 : decode cL_law 605 = .ok (.iconst 1, 1) := by decide +kernel
theorem dL_law_606 : decode cL_law 606 = .ok (.iadd, 1) := by decide +kernel
theorem dL_law_607 : decode cL_law 607 = .ok (.iaload, 1) := by decide +kernel
theorem dL_law_608 : decode cL_law 608 = .ok (.aload_n 0, 1) := by decide +kernel
theorem dL_law_609 : decode cL_law 609 = .ok (.iload_n 3, 1) := by decide +kernel
theorem dL_law_610 : decode cL_law 610 = .ok (.iconst 2, 1) := by decide +kernel
theorem dL_law_611 : decode cL_law 611 = .ok (.iadd, 1) := by decide +kernel
theorem dL_law_612 : decode cL_law 612 = .ok (.iaload, 1) := by decide +kernel
theorem dL_law_613 : decode cL_law 613 = .ok (.invokevirtual 75, 3) := by decide +kernel
theorem dL_law_616 : decode cL_law 616 = .ok (.aload_n 2, 1) := by decide +kernel
theorem dL_law_617 : decode cL_law 617 = .ok (.aload_n 0, 1) := by decide +kernel
theorem dL_law_618 : decode cL_law 618 = .ok (.iload_n 3, 1) := by decide +kernel
theorem dL_law_619 : decode cL_law 619 = .ok (.iconst 1, 1) := by decide +kernel
theorem dL_law_620 : decode cL_law 620 = .ok (.iadd, 1) := by decide +kernel
theorem dL_law_621 : decode cL_law 621 = .ok (.iaload, 1) := by decide +kernel
theorem dL_law_622 : decode cL_law 622 = .ok (.aload_n 0, 1) := by decide +kernel
theorem dL_law_623 : decode cL_law 623 = .ok (.iload_n 3, 1) := by decide +kernel
theorem dL_law_624 : decode cL_law 624 = .ok (.iconst 2, 1) := by decide +kernel
theorem dL_law_625 : decode cL_law 625 = .ok (.iadd, 1) := by decide +kernel
theorem dL_law_626 : decode cL_law 626 = .ok (.iaload, 1) := by decide +kernel
theorem dL_law_627 : decode cL_law 627 = .ok (.invokevirtual 79, 3) := by decide +kernel
theorem dL_law_630 : decode cL_law 630 = .ok (.lcmp, 1) := by decide +kernel
theorem dL_law_631 : decode cL_law 631 = .ok (.ifCond .eq 341, 3) := by decide +kernel
theorem dL_law_634 : decode cL_law 634 = .ok (.iconst 0, 1) := by decide +kernel
theorem dL_law_635 : decode cL_law 635 = .ok (.ireturn, 1) := by decide +kernel
theorem dL_law_636 : decode cL_law 636 = .ok (.aload_n 1, 1) := by decide +kernel
theorem dL_law_637 : decode cL_law 637 = .ok (.aload_n 0, 1) := by decide +kernel
theorem dL_law_638 : decode cL_law 638 = .ok (.iload_n 3, 1) := by decide +kernel
theorem dL_law_639 : decode cL_law 639 = .ok (.iconst 1, 1) := by decide +kernel
theorem dL_law_640 : decode cL_law 640 = .ok (.iadd, 1) := by decide +kernel
theorem dL_law_641 : decode cL_law 641 = .ok (.iaload, 1) := by decide +kernel
theorem dL_law_642 : decode cL_law 642 = .ok (.aload_n 0, 1) := by decide +kernel
theorem dL_law_643 : decode cL_law 643 = .ok (.iload_n 3, 1) := by decide +kernel
theorem dL_law_644 : decode cL_law 644 = .ok (.iconst 2, 1) := by decide +kernel
theorem dL_law_645 : decode cL_law 645 = .ok (.iadd, 1) := by decide +kernel
theorem dL_law_646 : decode cL_law 646 = .ok (.iaload, 1) := by decide +kernel
theorem dL_law_647 : decode cL_law 647 = .ok (.invokevirtual 80, 3) := by decide +kernel
theorem dL_law_650 : decode cL_law 650 = .ok (.aload_n 2, 1) := by decide +kernel
theorem dL_law_651 : decode cL_law 651 = .ok (.aload_n 0, 1) := by decide +kernel
theorem dL_law_652 : decode cL_law 652 = .ok (.iload_n 3, 1) := by decide +kernel
theorem dL_law_653 : decode cL_law 653 = .ok (.iconst 1, 1) := by decide +kernel
theorem dL_law_654 : decode cL_law 654 = .ok (.iadd, 1) := by decide +kernel
theorem dL_law_655 : decode cL_law 655 = .ok (.iaload, 1) := by decide +kernel
theorem dL_law_656 : decode cL_law 656 = .ok (.aload_n 0, 1) := by decide +kernel
theorem dL_law_657 : decode cL_law 657 = .ok (.iload_n 3, 1) := by decide +kernel
theorem dL_law_658 : decode cL_law 658 = .ok (.iconst 2, 1) := by decide +kernel
theorem dL_law_659 : decode cL_law 659 = .ok (.iadd, 1) := by decide +kernel
theorem dL_law_660 : decode cL_law 660 = .ok (.iaload, 1) := by decide +kernel
theorem dL_law_661 : decode cL_law 661 = .ok (.invokevirtual 83, 3) := by decide +kernel
theorem dL_law_664 : decode cL_law 664 = .ok (.lcmp, 1) := by decide +kernel
theorem dL_law_665 : decode cL_law 665 = .ok (.ifCond .eq 307, 3) := by decide +kernel
theorem dL_law_668 : decode cL_law 668 = .ok (.iconst 0, 1) := by decide +kernel
theorem dL_law_669 : decode cL_law 669 = .ok (.ireturn, 1) := by decide +kernel
theorem dL_law_670 : decode cL_law 670 = .ok (.aload_n 1, 1) := by decide +kernel
theorem dL_law_671 : decode cL_law 671 = .ok (.aload_n 0, 1) := by decide +kernel
theorem dL_law_672 : decode cL_law 672 = .ok (.iload_n 3, 1) := by decide +kernel
theorem dL_law_673 : decode cL_law 673 = .ok (.iconst 1, 1) := by decide +kernel
theorem dL_law_674 : decode cL_law 674 = .ok (.iadd, 1) := by decide +kernel
theorem dL_law_675 : decode cL_law 675 = .ok (.iaload, 1) := by decide +kernel
theorem dL_law_676 : decode cL_law 676 = .ok (.aload_n 0, 1) := by decide +kernel
theorem dL_law_677 : decode cL_law 677 = .ok (.iload_n 3, 1) := by decide +kernel
theorem dL_law_678 : decode cL_law 678 = .ok (.iconst 2, 1) := by decide +kernel
theorem dL_law_679 : decode cL_law 679 = .ok (.iadd, 1) := by decide +kernel
theorem dL_law_680 : decode cL_law 680 = .ok (.iaload, 1) := by decide +kernel
theorem dL_law_681 : decode cL_law 681 = .ok (.invokevirtual 84, 3) := by decide +kernel
theorem dL_law_684 : decode cL_law 684 = .ok (.aload_n 2, 1) := by decide +kernel
theorem dL_law_685 : decode cL_law 685 = .ok (.aload_n 0, 1) := by decide +kernel
theorem dL_law_686 : decode cL_law 686 = .ok (.iload_n 3, 1) := by decide +kernel
theorem dL_law_687 : decode cL_law 687 = .ok (.iconst 1, 1) := by decide +kernel
theorem dL_law_688 : decode cL_law 688 = .ok (.iadd, 1) := by decide +kernel
theorem dL_law_689 : decode cL_law 689 = .ok (.iaload, 1) := by decide +kernel
theorem dL_law_690 : decode cL_law 690 = .ok (.aload_n 0, 1) := by decide +kernel
theorem dL_law_691 : decode cL_law 691 = .ok (.iload_n 3, 1) := by decide +kernel
theorem dL_law_692 : decode cL_law 692 = .ok (.iconst 2, 1) := by decide +kernel
theorem dL_law_693 : decode cL_law 693 = .ok (.iadd, 1) := by decide +kernel
theorem dL_law_694 : decode cL_law 694 = .ok (.iaload, 1) := by decide +kernel
theorem dL_law_695 : decode cL_law 695 = .ok (.invokevirtual 87, 3) := by decide +kernel
theorem dL_law_698 : decode cL_law 698 = .ok (.if_icmp .eq 274, 3) := by decide +kernel
theorem dL_law_701 : decode cL_law 701 = .ok (.iconst 0, 1) := by decide +kernel
theorem dL_law_702 : decode cL_law 702 = .ok (.ireturn, 1) := by decide +kernel
theorem dL_law_703 : decode cL_law 703 = .ok (.aload_n 1, 1) := by decide +kernel
theorem dL_law_704 : decode cL_law 704 = .ok (.invokevirtual 88, 3) := by decide +kernel
theorem dL_law_707 : decode cL_law 707 = .ok (.aload_n 2, 1) := by decide +kernel
theorem dL_law_708 : decode cL_law 708 = .ok (.invokevirtual 92, 3) := by decide +kernel
theorem dL_law_711 : decode cL_law 711 = .ok (.if_icmp .eq 261, 3) := by decide +kernel
theorem dL_law_714 : decode cL_law 714 = .ok (.iconst 0, 1) := by decide +kernel
theorem dL_law_715 : decode cL_law 715 = .ok (.ireturn, 1) := by decide +kernel
theorem dL_law_716 : decode cL_law 716 = .ok (.aload_n 1, 1) := by decide +kernel
theorem dL_law_717 : decode cL_law 717 = .ok (.invokevirtual 93, 3) := by decide +kernel
theorem dL_law_720 : decode cL_law 720 = .ok (.aload_n 2, 1) := by decide +kernel
theorem dL_law_721 : decode cL_law 721 = .ok (.invokevirtual 96, 3) := by decide +kernel
theorem dL_law_724 : decode cL_law 724 = .ok (.if_icmp .eq 248, 3) := by decide +kernel
theorem dL_law_727 : decode cL_law 727 = .ok (.iconst 0, 1) := by decide +kernel
theorem dL_law_728 : decode cL_law 728 = .ok (.ireturn, 1) := by decide +kernel
theorem dL_law_729 : decode cL_law 729 = .ok (.aload_n 1, 1) := by decide +kernel
theorem dL_law_730 : decode cL_law 730 = .ok (.aload_n 0, 1) := by decide +kernel
theorem dL_law_731 : decode cL_law 731 = .ok (.iload_n 3, 1) := by decide +kernel
theorem dL_law_732 : decode cL_law 732 = .ok (.iconst 1, 1) := by decide +kernel
theorem dL_law_733 : decode cL_law 733 = .ok (.iadd, 1) := by decide +kernel
theorem dL_law_734 : decode cL_law 734 = .ok (.iaload, 1) := by decide +kernel
theorem dL_law_735 : decode cL_law 735 = .ok (.aload_n 0, 1) := by decide +kernel
theorem dL_law_736 : decode cL_law 736 = .ok (.iload_n 3, 1) := by decide +kernel
theorem dL_law_737 : decode cL_law 737 = .ok (.iconst 2, 1) := by decide +kernel
theorem dL_law_738 : decode cL_law 738 = .ok (.iadd, 1) := by decide +kernel
theorem dL_law_739 : decode cL_law 739 = .ok (.iaload, 1) := by decide +kernel
theorem dL_law_740 : decode cL_law 740 = .ok (.invokevirtual 97, 3) := by decide +kernel
theorem dL_law_743 : decode cL_law 743 = .ok (.aload_n 2, 1) := by decide +kernel
theorem dL_law_744 : decode cL_law 744 = .ok (.aload_n 0, 1) := by decide +kernel
theorem dL_law_745 : decode cL_law 745 = .ok (.iload_n 3, 1) := by decide +kernel
theorem dL_law_746 : decode cL_law 746 = .ok (.iconst 1, 1) := by decide +kernel
theorem dL_law_747 : decode cL_law 747 = .ok (.iadd, 1) := by decide +kernel
theorem dL_law_748 : decode cL_law 748 = .ok (.iaload, 1) := by decide +kernel
theorem dL_law_749 : decode cL_law 749 = .ok (.aload_n 0, 1) := by decide +kernel
theorem dL_law_750 : decode cL_law 750 = .ok (.iload_n 3, 1) := by decide +kernel
theorem dL_law_751 : decode cL_law 751 = .ok (.iconst 2, 1) := by decide +kernel
theorem dL_law_752 : decode cL_law 752 = .ok (.iadd, 1) := by decide +kernel
theorem dL_law_753 : decode cL_law 753 = .ok (.iaload, 1) := by decide +kernel
theorem dL_law_754 : decode cL_law 754 = .ok (.invokevirtual 100, 3) := by decide +kernel
theorem dL_law_757 : decode cL_law 757 = .ok (.if_icmp .eq 215, 3) := by decide +kernel
theorem dL_law_760 : decode cL_law 760 = .ok (.iconst 0, 1) := by decide +kernel
theorem dL_law_761 : decode cL_law 761 = .ok (.ireturn, 1) := by decide +kernel
theorem dL_law_762 : decode cL_law 762 = .ok (.aload_n 1, 1) := by decide +kernel
theorem dL_law_763 : decode cL_law 763 = .ok (.invokevirtual 101, 3) := by decide +kernel
theorem dL_law_766 : decode cL_law 766 = .ok (.aload_n 2, 1) := by decide +kernel
theorem dL_law_767 : decode cL_law 767 = .ok (.invokevirtual 104, 3) := by decide +kernel
theorem dL_law_770 : decode cL_law 770 = .ok (.if_icmp .eq 202, 3) := by decide +kernel
theorem dL_law_773 : decode cL_law 773 = .ok (.iconst 0, 1) := by decide +kernel
theorem dL_law_774 : decode cL_law 774 = .ok (.ireturn, 1) := by decide +kernel
theorem dL_law_775 : decode cL_law 775 = .ok (.aload_n 1, 1) := by decide +kernel
theorem dL_law_776 : decode cL_law 776 = .ok (.aload_n 0, 1) := by decide +kernel
theorem dL_law_777 : decode cL_law 777 = .ok (.iload_n 3, 1) := by decide +kernel
theorem dL_law_778 : decode cL_law 778 = .ok (.iconst 1, 1) := by decide +kernel
theorem dL_law_779 : decode cL_law 779 = .ok (.iadd, 1) := by decide +kernel
theorem dL_law_780 : decode cL_law 780 = .ok (.iaload, 1) := by decide +kernel
theorem dL_law_781 : decode cL_law 781 = .ok (.invokevirtual 105, 3) := by decide +kernel
theorem dL_law_784 : decode cL_law 784 = .ok (.aload_n 2, 1) := by decide +kernel
theorem dL_law_785 : decode cL_law 785 = .ok (.aload_n 0, 1) := by decide +kernel
theorem dL_law_786 : decode cL_law 786 = .ok (.iload_n 3, 1) := by decide +kernel
theorem dL_law_787 : decode cL_law 787 = .ok (.iconst 1, 1) := by decide +kernel
theorem dL_law_788 : decode cL_law 788 = .ok (.iadd, 1) := by decide +kernel
theorem dL_law_789 : decode cL_law 789 = .ok (.iaload, 1) := by decide +kernel
theorem dL_law_790 : decode cL_law 790 = .ok (.invokevirtual 108, 3) := by decide +kernel
theorem dL_law_793 : decode cL_law 793 = .ok (.if_icmp .eq 179, 3) := by decide +kernel
theorem dL_law_796 : decode cL_law 796 = .ok (.iconst 0, 1) := by decide +kernel
theorem dL_law_797 : decode cL_law 797 = .ok (.ireturn, 1) := by decide +kernel
theorem dL_law_798 : decode cL_law 798 = .ok (.aload_n 1, 1) := by decide +kernel
theorem dL_law_799 : decode cL_law 799 = .ok (.invokevirtual 109, 3) := by decide +kernel
theorem dL_law_802 : decode cL_law 802 = .ok (.aload_n 2, 1) := by decide +kernel
theorem dL_law_803 : decode cL_law 803 = .ok (.invokevirtual 112, 3) := by decide +kernel
theorem dL_law_806 : decode cL_law 806 = .ok (.if_icmp .eq 166, 3) := by decide +kernel
theorem dL_law_809 : decode cL_law 809 = .ok (.iconst 0, 1) := by decide +kernel
theorem dL_law_810 : decode cL_law 810 = .ok (.ireturn, 1) := by decide +kernel
theorem dL_law_811 : decode cL_law 811 = .ok (.aload_n 1, 1) := by decide +kernel
theorem dL_law_812 : decode cL_law 812 = .ok (.aload_n 0, 1) := by decide +kernel
theorem dL_law_813 : decode cL_law 813 = .ok (.iload_n 3, 1) := by decide +kernel
theorem dL_law_814 : decode cL_law 814 = .ok (.iconst 1, 1) := by decide +kernel
theorem dL_law_815 : decode cL_law 815 = .ok (.iadd, 1) := by decide +kernel
theorem dL_law_816 : decode cL_law 816 = .ok (.iaload, 1) := by decide +kernel
theorem dL_law_817 : decode cL_law 817 = .ok (.invokevirtual 113, 3) := by decide +kernel
theorem dL_law_820 : decode cL_law 820 = .ok (.aload_n 2, 1) := by decide +kernel
theorem dL_law_821 : decode cL_law 821 = .ok (.aload_n 0, 1) := by decide +kernel
theorem dL_law_822 : decode cL_law 822 = .ok (.iload_n 3, 1) := by decide +kernel
theorem dL_law_823 : decode cL_law 823 = .ok (.iconst 1, 1) := by decide +kernel
theorem dL_law_824 : decode cL_law 824 = .ok (.iadd, 1) := by decide +kernel
theorem dL_law_825 : decode cL_law 825 = .ok (.iaload, 1) := by decide +kernel
theorem dL_law_826 : decode cL_law 826 = .ok (.invokevirtual 116, 3) := by decide +kernel
theorem dL_law_829 : decode cL_law 829 = .ok (.if_icmp .eq 143, 3) := by decide +kernel
theorem dL_law_832 : decode cL_law 832 = .ok (.iconst 0, 1) := by decide +kernel
theorem dL_law_833 : decode cL_law 833 = .ok (.ireturn, 1) := by decide +kernel
theorem dL_law_834 : decode cL_law 834 = .ok (.aload_n 1, 1) := by decide +kernel
theorem dL_law_835 : decode cL_law 835 = .ok (.invokevirtual 117, 3) := by decide +kernel
theorem dL_law_838 : decode cL_law 838 = .ok (.aload_n 2, 1) := by decide +kernel
theorem dL_law_839 : decode cL_law 839 = .ok (.invokevirtual 120, 3) := by decide +kernel
theorem dL_law_842 : decode cL_law 842 = .ok (.if_icmp .eq 130, 3) := by decide +kernel
theorem dL_law_845 : decode cL_law 845 = .ok (.iconst 0, 1) := by decide +kernel
theorem dL_law_846 : decode cL_law 846 = .ok (.ireturn, 1) := by decide +kernel
theorem dL_law_847 : decode cL_law 847 = .ok (.aload_n 1, 1) := by decide +kernel
theorem dL_law_848 : decode cL_law 848 = .ok (.aload_n 0, 1) := by decide +kernel
theorem dL_law_849 : decode cL_law 849 = .ok (.iload_n 3, 1) := by decide +kernel
theorem dL_law_850 : decode cL_law 850 = .ok (.iconst 1, 1) := by decide +kernel
theorem dL_law_851 : decode cL_law 851 = .ok (.iadd, 1) := by decide +kernel
theorem dL_law_852 : decode cL_law 852 = .ok (.iaload, 1) := by decide +kernel
theorem dL_law_853 : decode cL_law 853 = .ok (.invokevirtual 121, 3) := by decide +kernel
theorem dL_law_856 : decode cL_law 856 = .ok (.aload_n 2, 1) := by decide +kernel
theorem dL_law_857 : decode cL_law 857 = .ok (.aload_n 0, 1) := by decide +kernel
theorem dL_law_858 : decode cL_law 858 = .ok (.iload_n 3, 1) := by decide +kernel
theorem dL_law_859 : decode cL_law 859 = .ok (.iconst 1, 1) := by decide +kernel
theorem dL_law_860 : decode cL_law 860 = .ok (.iadd, 1) := by decide +kernel
theorem dL_law_861 : decode cL_law 861 = .ok (.iaload, 1) := by decide +kernel
theorem dL_law_862 : decode cL_law 862 = .ok (.invokevirtual 124, 3) := by decide +kernel
theorem dL_law_865 : decode cL_law 865 = .ok (.if_icmp .eq 107, 3) := by decide +kernel
theorem dL_law_868 : decode cL_law 868 = .ok (.iconst 0, 1) := by decide +kernel
theorem dL_law_869 : decode cL_law 869 = .ok (.ireturn, 1) := by decide +kernel
theorem dL_law_870 : decode cL_law 870 = .ok (.aload_n 1, 1) := by decide +kernel
theorem dL_law_871 : decode cL_law 871 = .ok (.aload_n 0, 1) := by decide +kernel
theorem dL_law_872 : decode cL_law 872 = .ok (.iload_n 3, 1) := by decide +kernel
theorem dL_law_873 : decode cL_law 873 = .ok (.iconst 1, 1) := by decide +kernel
theorem dL_law_874 : decode cL_law 874 = .ok (.iadd, 1) := by decide +kernel
theorem dL_law_875 : decode cL_law 875 = .ok (.iaload, 1) := by decide +kernel
theorem dL_law_876 : decode cL_law 876 = .ok (.aload_n 0, 1) := by decide +kernel
theorem dL_law_877 : decode cL_law 877 = .ok (.iload_n 3, 1) := by decide +kernel
theorem dL_law_878 : decode cL_law 878 = .ok (.iconst 2, 1) := by decide +kernel
theorem dL_law_879 : decode cL_law 879 = .ok (.iadd, 1) := by decide +kernel
theorem dL_law_880 : decode cL_law 880 = .ok (.iaload, 1) := by decide +kernel
theorem dL_law_881 : decode cL_law 881 = .ok (.aload_n 0, 1) := by decide +kernel
theorem dL_law_882 : decode cL_law 882 = .ok (.iload_n 3, 1) := by decide +kernel
theorem dL_law_883 : decode cL_law 883 = .ok (.iconst 3, 1) := by decide +kernel
theorem dL_law_884 : decode cL_law 884 = .ok (.iadd, 1) := by decide +kernel
theorem dL_law_885 : decode cL_law 885 = .ok (.iaload, 1) := by decide +kernel
theorem dL_law_886 : decode cL_law 886 = .ok (.aload_n 0, 1) := by decide +kernel
theorem dL_law_887 : decode cL_law 887 = .ok (.iload_n 3, 1) := by decide +kernel
theorem dL_law_888 : decode cL_law 888 = .ok (.iconst 4, 1) := by decide +kernel
theorem dL_law_889 : decode cL_law 889 = .ok (.iadd, 1) := by decide +kernel
theorem dL_law_890 : decode cL_law 890 = .ok (.iaload, 1) := by decide +kernel
theorem dL_law_891 : decode cL_law 891 = .ok (.invokevirtual 125, 3) := by decide +kernel
theorem dL_law_894 : decode cL_law 894 = .ok (.aload_n 2, 1) := by decide +kernel
theorem dL_law_895 : decode cL_law 895 = .ok (.aload_n 0, 1) := by decide +kernel
theorem dL_law_896 : decode cL_law 896 = .ok (.iload_n 3, 1) := by decide +kernel
theorem dL_law_897 : decode cL_law 897 = .ok (.iconst 1, 1) := by decide +kernel
theorem dL_law_898 : decode cL_law 898 = .ok (.iadd, 1) := by decide +kernel
theorem dL_law_899 : decode cL_law 899 = .ok (.iaload, 1) := by decide +kernel
theorem dL_law_900 : decode cL_law 900 = .ok (.aload_n 0, 1) := by decide +kernel
theorem dL_law_901 : decode cL_law 901 = .ok (.iload_n 3, 1) := by decide +kernel
theorem dL_law_902 : decode cL_law 902 = .ok (.iconst 2, 1) := by decide +kernel
theorem dL_law_903 : decode cL_law 903 = .ok (.iadd, 1) := by decide +kernel
theorem dL_law_904 : decode cL_law 904 = .ok (.iaload, 1) := by decide +kernel
theorem dL_law_905 : decode cL_law 905 = .ok (.aload_n 0, 1) := by decide +kernel
theorem dL_law_906 : decode cL_law 906 = .ok (.iload_n 3, 1) := by decide +kernel
theorem dL_law_907 : decode cL_law 907 = .ok (.iconst 3, 1) := by decide +kernel
theorem dL_law_908 : decode cL_law 908 = .ok (.iadd, 1) := by decide +kernel
theorem dL_law_909 : decode cL_law 909 = .ok (.iaload, 1) := by decide +kernel
theorem dL_law_910 : decode cL_law 910 = .ok (.aload_n 0, 1) := by decide +kernel
theorem dL_law_911 : decode cL_law 911 = .ok (.iload_n 3, 1) := by decide +kernel
theorem dL_law_912 : decode cL_law 912 = .ok (.iconst 4, 1) := by decide +kernel
theorem dL_law_913 : decode cL_law 913 = .ok (.iadd, 1) := by decide +kernel
theorem dL_law_914 : decode cL_law 914 = .ok (.iaload, 1) := by decide +kernel
theorem dL_law_915 : decode cL_law 915 = .ok (.invokevirtual 129, 3) := by decide +kernel
theorem dL_law_918 : decode cL_law 918 = .ok (.if_icmp .eq 54, 3) := by decide +kernel
theorem dL_law_921 : decode cL_law 921 = .ok (.iconst 0, 1) := by decide +kernel
theorem dL_law_922 : decode cL_law 922 = .ok (.ireturn, 1) := by decide +kernel
theorem dL_law_923 : decode cL_law 923 = .ok (.aload_n 1, 1) := by decide +kernel
theorem dL_law_924 : decode cL_law 924 = .ok (.invokevirtual 130, 3) := by decide +kernel
theorem dL_law_927 : decode cL_law 927 = .ok (.aload_n 2, 1) := by decide +kernel
theorem dL_law_928 : decode cL_law 928 = .ok (.invokevirtual 133, 3) := by decide +kernel
theorem dL_law_931 : decode cL_law 931 = .ok (.if_icmp .eq 41, 3) := by decide +kernel
theorem dL_law_934 : decode cL_law 934 = .ok (.iconst 0, 1) := by decide +kernel
theorem dL_law_935 : decode cL_law 935 = .ok (.ireturn, 1) := by decide +kernel
theorem dL_law_936 : decode cL_law 936 = .ok (.aload_n 1, 1) := by decide +kernel
theorem dL_law_937 : decode cL_law 937 = .ok (.invokevirtual 134, 3) := by decide +kernel
theorem dL_law_940 : decode cL_law 940 = .ok (.aload_n 2, 1) := by decide +kernel
theorem dL_law_941 : decode cL_law 941 = .ok (.invokevirtual 137, 3) := by decide +kernel
theorem dL_law_944 : decode cL_law 944 = .ok (.if_icmp .eq 28, 3) := by decide +kernel
theorem dL_law_947 : decode cL_law 947 = .ok (.iconst 0, 1) := by decide +kernel
theorem dL_law_948 : decode cL_law 948 = .ok (.ireturn, 1) := by decide +kernel
theorem dL_law_949 : decode cL_law 949 = .ok (.aload_n 1, 1) := by decide +kernel
theorem dL_law_950 : decode cL_law 950 = .ok (.aload_n 0, 1) := by decide +kernel
theorem dL_law_951 : decode cL_law 951 = .ok (.iload_n 3, 1) := by decide +kernel
theorem dL_law_952 : decode cL_law 952 = .ok (.iconst 1, 1) := by decide +kernel
theorem dL_law_953 : decode cL_law 953 = .ok (.iadd, 1) := by decide +kernel
theorem dL_law_954 : decode cL_law 954 = .ok (.iaload, 1) := by decide +kernel
theorem dL_law_955 : decode cL_law 955 = .ok (.invokevirtual 138, 3) := by decide +kernel
theorem dL_law_958 : decode cL_law 958 = .ok (.aload_n 2, 1) := by decide +kernel
theorem dL_law_959 : decode cL_law 959 = .ok (.aload_n 0, 1) := by decide +kernel
theorem dL_law_960 : decode cL_law 960 = .ok (.iload_n 3, 1) := by decide +kernel
theorem dL_law_961 : decode cL_law 961 = .ok (.iconst 1, 1) := by decide +kernel
theorem dL_law_962 : decode cL_law 962 = .ok (.iadd, 1) := by decide +kernel
theorem dL_law_963 : decode cL_law 963 = .ok (.iaload, 1) := by decide +kernel
theorem dL_law_964 : decode cL_law 964 = .ok (.invokevirtual 141, 3) := by decide +kernel
theorem dL_law_967 : decode cL_law 967 = .ok (.if_icmp .eq 5, 3) := by decide +kernel
theorem dL_law_970 : decode cL_law 970 = .ok (.iconst 0, 1) := by decide +kernel
theorem dL_law_971 : decode cL_law 971 = .ok (.ireturn, 1) := by decide +kernel
theorem dL_law_972 : decode cL_law 972 = .ok (.iinc 3 5, 3) := by decide +kernel
theorem dL_law_975 : decode cL_law 975 = .ok (.goto (-957), 3) := by decide +kernel
theorem dL_law_978 : decode cL_law 978 = .ok (.iconst 1, 1) := by decide +kernel
theorem dL_law_979 : decode cL_law 979 = .ok (.ireturn, 1) := by decide +kernel
end
section
/-! THE TYPED STORE. A place is the number of a cell in the order in which the law's run makes them, from 1 on; place 0 is the empty array that ArrayList's static holds. Of a place: its kind and length (T), its references (R), its ints and booleans (I), its longs (J). -/
/-- D; the classes of int[], long[], boolean[], Object[]; the address of place 0; the first address of the run's own cells -/
abbrev zG : Type := va_G × (ClassId × ClassId × ClassId × ClassId) × Nat × Nat
abbrev zH : Type := Nat × (Nat → Nat × Nat) × (Nat → Nat → Option Nat)
abbrev zI : Type := Nat → Nat → Int32
abbrev zJ : Type := Nat → Nat → Int64
def z_ad (G : zG) : Nat → Nat
  | 0 => G.2.2.1
  | k + 1 => G.2.2.2 + k
def z_cv (G : zG) : Value → Value
  | .ref k => .ref (z_ad G k)
  | v => v
def z_R (ci : Nat) : String := match ci with
  | 0 => RJx4a65c
  | 1 => RX0
  | 2 => RX1
  | 3 => RX2
  | 4 => RX3
  | _ => RX4
def z_T (ci : Nat) : u_T := match ci with
  | 0 => TJx4a65c
  | 1 => TX0
  | 2 => TX1
  | 3 => TX2
  | 4 => TX3
  | _ => TX4
def z_ty (ci : Nat) : Nat → FieldType := match ci with
  | 0 => tyJx4a65c
  | 1 => tyX0
  | 2 => tyX1
  | 3 => tyX2
  | 4 => tyX3
  | _ => tyX4
def z_N (ci : Nat) : Nat := match ci with
  | 0 => 3
  | 1 => 3
  | 2 => 9
  | 3 => 6
  | 4 => 10
  | _ => 25
theorem z_cl {ci : Nat} (h : ci < 6) : vwCl[ci]? = some (z_R ci, z_T ci, z_N ci) := by
  rcases (show ci = 0 ∨ ci = 1 ∨ ci = 2 ∨ ci = 3 ∨ ci = 4 ∨ ci = 5 by omega) with rfl | rfl | rfl | rfl | rfl | rfl <;> rfl
theorem z_cl6 {ci : Nat} {r : vw_C} (h : vwCl[ci]? = some r) : ci < 6 := by
  have := (List.getElem?_eq_some_iff.mp h).1
  exact this
theorem z_tyok {ci : Nat} (h : ci < 6) : ∀ k, k < z_N ci → parseFieldDescriptor (z_T ci k).2.2.1 = some (z_ty ci k) := by
  rcases (show ci = 0 ∨ ci = 1 ∨ ci = 2 ∨ ci = 3 ∨ ci = 4 ∨ ci = 5 by omega) with rfl | rfl | rfl | rfl | rfl | rfl
  · exact tyJx4a65c_ok
  · exact tyX0_ok
  · exact tyX1_ok
  · exact tyX2_ok
  · exact tyX3_ok
  · exact tyX4_ok
theorem z_nm {ci : Nat} (h : ci < 6) : ∀ a, a < z_N ci → ∀ b, b < z_N ci → a ≠ b → (z_T ci a).2.1 ≠ (z_T ci b).2.1 := by
  rcases (show ci = 0 ∨ ci = 1 ∨ ci = 2 ∨ ci = 3 ∨ ci = 4 ∨ ci = 5 by omega) with rfl | rfl | rfl | rfl | rfl | rfl
  · exact nmJx4a65c
  · exact nmX0
  · exact nmX1
  · exact nmX2
  · exact nmX3
  · exact nmX4
/-- the tables' words that a call keeps -/
def z_tbl : List Cond := lw_tbl.filter goodWord
theorem z_mem {w : Cond} (h : w ∈ lw_tbl) (hg : goodWord w = true) : w ∈ z_tbl := List.mem_filter.mpr ⟨h, hg⟩
theorem z_in0 : ∀ w ∈ u_ws RJx4a65c TJx4a65c 3, w ∈ z_tbl := by
  have h : ∀ w ∈ u_ws RJx4a65c TJx4a65c 3, w ∈ lw_tbl ∧ goodWord w = true := by decide +kernel
  exact fun w hw => z_mem (h w hw).1 (h w hw).2
theorem z_in1 : ∀ w ∈ u_ws RX0 TX0 3, w ∈ z_tbl := by
  have h : ∀ w ∈ u_ws RX0 TX0 3, w ∈ lw_tbl ∧ goodWord w = true := by decide +kernel
  exact fun w hw => z_mem (h w hw).1 (h w hw).2
theorem z_in2 : ∀ w ∈ u_ws RX1 TX1 9, w ∈ z_tbl := by
  have h : ∀ w ∈ u_ws RX1 TX1 9, w ∈ lw_tbl ∧ goodWord w = true := by decide +kernel
  exact fun w hw => z_mem (h w hw).1 (h w hw).2
theorem z_in3 : ∀ w ∈ u_ws RX2 TX2 6, w ∈ z_tbl := by
  have h : ∀ w ∈ u_ws RX2 TX2 6, w ∈ lw_tbl ∧ goodWord w = true := by decide +kernel
  exact fun w hw => z_mem (h w hw).1 (h w hw).2
theorem z_in4 : ∀ w ∈ u_ws RX3 TX3 10, w ∈ z_tbl := by
  have h : ∀ w ∈ u_ws RX3 TX3 10, w ∈ lw_tbl ∧ goodWord w = true := by decide +kernel
  exact fun w hw => z_mem (h w hw).1 (h w hw).2
theorem z_in5 : ∀ w ∈ u_ws RX4 TX4 25, w ∈ z_tbl := by
  have h : ∀ w ∈ u_ws RX4 TX4 25, w ∈ lw_tbl ∧ goodWord w = true := by decide +kernel
  exact fun w hw => z_mem (h w hw).1 (h w hw).2
theorem z_uin {ci : Nat} (h : ci < 6) : ∀ w ∈ u_ws (z_R ci) (z_T ci) (z_N ci), w ∈ z_tbl := by
  rcases (show ci = 0 ∨ ci = 1 ∨ ci = 2 ∨ ci = 3 ∨ ci = 4 ∨ ci = 5 by omega) with rfl | rfl | rfl | rfl | rfl | rfl
  · exact z_in0
  · exact z_in1
  · exact z_in2
  · exact z_in3
  · exact z_in4
  · exact z_in5
def z_fv (G : zG) (R : Nat → Nat → Option Nat) (I : zI) (J : zJ) (a j : Nat) (ty : FieldType) : Value := match ty with
  | .long => .long (J a j)
  | .object _ => va_rf ((R a j).map (z_ad G))
  | .array _ => va_rf ((R a j).map (z_ad G))
  | _ => .int (I a j)
def z_fs (G : zG) (R : Nat → Nat → Option Nat) (I : zI) (J : zJ) (a ci : Nat) : List Value := (List.range (z_N ci)).map (fun j => z_fv G R I J a j (z_ty ci j))
/-- what lies at a place. Kinds: below 6 an object of that class, 10 int[], 11 long[], 12 boolean[], 13 Object[] -/
def z_cell (G : zG) (h : zH) (I : zI) (J : zJ) (a : Nat) : va_E := match (h.2.1 a).1 with
  | 10 => .inl (G.2.1.1, (h.2.1 a).2, .inl (I a))
  | 11 => .inl (G.2.1.2.1, (h.2.1 a).2, .inr (.inl (J a)))
  | 12 => .inl (G.2.1.2.2.1, (h.2.1 a).2, .inl (I a))
  | 13 => .inl (G.2.1.2.2.2, (h.2.1 a).2, .inr (.inr (.inr (.inr (fun j => (h.2.2 a j).map (z_ad G))))))
  | ci => .inr (ci, z_fs G h.2.2 I J a ci)
def z_ws (G : zG) (h : zH) (I : zI) (J : zJ) : va_W := (List.range h.1).map (fun k => (G.2.2.2 + k, z_cell G h I J (k + 1)))
def z_A (G : zG) : Nat → Prop := fun q => G.2.2.2 ≤ q
def z_tys (G : zG) : List (ClassId × FieldType) := [(G.2.1.1, .int), (G.2.1.2.1, .long), (G.2.1.2.2.1, .boolean), (G.2.1.2.2.2, .object "java/lang/Object")]
/-- the heap holds the store -/
def z_P (G : zG) (h : zH) (I : zI) (J : zJ) (H : Heap) : Prop := va_P G.1 vwCl (z_ws G h I J) H ∧ H.size = G.2.2.2 + h.1 ∧ ∀ a : Nat, (a = 0 ∨ h.1 < a) → 98 < (h.2.1 a).1
/-- what the tables say that isn't among the kept words -/
def z_Nw (U : State) : Prop := va_Nw (.castable "OneCall$Listener" "java/lang/Object") U ∧ va_Nw (.methodLinkNest "OneCall$Knowledge" 29 ⟨"OneCall", "isIn", "(II)Z"⟩ "OneCall") U ∧ va_Nw (.methodLinkNest "OneCall$Needs" 66 ⟨"OneCall", "isIn", "(II)Z"⟩ "OneCall") U ∧ va_AO "java/lang/Object" U
def z_St (G : zG) (U : State) (H : Heap) : Prop := z_Nw U ∧ va_Z "java/util/ArrayList" "DEFAULTCAPACITY_EMPTY_ELEMENTDATA" "[Ljava/lang/Object;" (.ref G.2.2.1) (z_A G) U H ∧ va_T (.object "java/lang/Object") G.2.2.1 0 (fun _ => .null) (z_A G) U H
def z_Rep (G : zG) (h : zH) (I : zI) (J : zJ) (U : State) : Prop := z_P G h I J U.heap ∧ va_K G.1 vwCl (z_tys G) U ∧ z_St G U U.heap ∧ G.2.2.1 < G.2.2.2
theorem z_ws_get {G : zG} {h : zH} {I : zI} {J : zJ} {k : Nat} (hk : k < h.1) : (z_ws G h I J)[k]? = some (G.2.2.2 + k, z_cell G h I J (k + 1)) := by
  unfold z_ws
  rw [List.getElem?_map, List.getElem?_range hk]
  rfl
theorem z_ws_len {G : zG} {h : zH} {I : zI} {J : zJ} : (z_ws G h I J).length = h.1 := by simp [z_ws]
theorem z_ws_set {G : zG} {h h' : zH} {I I' : zI} {J J' : zJ} {k : Nat} (hk : k < h.1) (hn : h'.1 = h.1) (ho : ∀ a, a ≠ k + 1 → z_cell G h' I' J' a = z_cell G h I J a) : (z_ws G h I J).set k (G.2.2.2 + k, z_cell G h' I' J' (k + 1)) = z_ws G h' I' J' := by
  apply List.ext_getElem?
  intro j
  by_cases hj : j = k
  · subst hj
    rw [List.getElem?_set_self (by rw [z_ws_len]; exact hk), z_ws_get (by rw [hn]; exact hk)]
  · rw [List.getElem?_set_ne (Ne.symm hj)]
    by_cases hl : j < h.1
    · rw [z_ws_get hl, z_ws_get (by rw [hn]; exact hl), ho _ (by omega)]
    · rw [List.getElem?_eq_none (by rw [z_ws_len]; omega), List.getElem?_eq_none (by rw [z_ws_len, hn]; omega)]
theorem z_ws_push {G : zG} {h h' : zH} {I I' : zI} {J J' : zJ} (hn : h'.1 = h.1 + 1) (ho : ∀ a, a ≤ h.1 → z_cell G h' I' J' a = z_cell G h I J a) : z_ws G h I J ++ [(G.2.2.2 + h.1, z_cell G h' I' J' (h.1 + 1))] = z_ws G h' I' J' := by
  apply List.ext_getElem?
  intro j
  by_cases hl : j < h.1
  · rw [List.getElem?_append_left (by rw [z_ws_len]; exact hl), z_ws_get hl, z_ws_get (by omega), ho _ (by omega)]
  · rw [List.getElem?_append_right (by rw [z_ws_len]; omega), z_ws_len]
    by_cases hj : j = h.1
    · subst hj
      rw [Nat.sub_self, z_ws_get (by omega)]
      rfl
    · rw [List.getElem?_eq_none (by simp; omega), List.getElem?_eq_none (by rw [z_ws_len]; omega)]
theorem z_D (G : zG) (h : zH) (I : zI) (J : zJ) : va_D (z_A G) (z_ws G h I J) := by
  have key : ∀ (k : Nat) (q : Nat × va_E), (z_ws G h I J)[k]? = some q → q.1 = G.2.2.2 + k := by
    intro k q hq
    have hk : k < h.1 := by have := (List.getElem?_eq_some_iff.mp hq).1; rw [z_ws_len] at this; exact this
    rw [z_ws_get hk] at hq
    cases hq
    rfl
  refine ⟨fun i j x y hi hj hxy => ?_, fun k q hk => ?_⟩
  · have h1 := key i x hi
    have h2 := key j y hj
    omega
  · rw [key k q hk]
    exact Nat.le_add_right _ _
/-- a place with a kind is a cell of the world -/
theorem z_place {G : zG} {h : zH} {I : zI} {J : zJ} {H : Heap} {a : Nat} (hP : z_P G h I J H) (ht : (h.2.1 a).1 < 98) : ∃ k, a = k + 1 ∧ k < h.1 ∧ z_ad G a = G.2.2.2 + k ∧ (z_ws G h I J)[k]? = some (z_ad G a, z_cell G h I J a) := by
  cases a with
  | zero => exact absurd (hP.2.2 0 (Or.inl rfl)) (by omega)
  | succ k =>
    have hk : k < h.1 := by
      rcases Nat.lt_or_ge k h.1 with q | q
      · exact q
      · exact absurd (hP.2.2 (k + 1) (Or.inr (by omega))) (by omega)
    exact ⟨k, rfl, hk, rfl, z_ws_get hk⟩
theorem z_fs_get {G : zG} {R : Nat → Nat → Option Nat} {I : zI} {J : zJ} {a ci k : Nat} (hk : k < z_N ci) : (z_fs G R I J a ci)[k]? = some (z_fv G R I J a k (z_ty ci k)) := by
  unfold z_fs
  rw [List.getElem?_map, List.getElem?_range hk]
  rfl
theorem z_fs_len {G : zG} {R : Nat → Nat → Option Nat} {I : zI} {J : zJ} {a ci : Nat} : (z_fs G R I J a ci).length = z_N ci := by simp [z_fs]
theorem z_fs_set {G : zG} {R R' : Nat → Nat → Option Nat} {I I' : zI} {J J' : zJ} {a ci k : Nat} {v : Value} (hv : z_fv G R' I' J' a k (z_ty ci k) = v) (ho : ∀ j, j ≠ k → z_fv G R' I' J' a j (z_ty ci j) = z_fv G R I J a j (z_ty ci j)) : (z_fs G R I J a ci).set k v = z_fs G R' I' J' a ci := by
  apply List.ext_getElem?
  intro j
  by_cases hl : j < z_N ci
  · by_cases hj : j = k
    · subst hj
      rw [List.getElem?_set_self (by rw [z_fs_len]; exact hl), z_fs_get hl, hv]
    · rw [List.getElem?_set_ne (Ne.symm hj), z_fs_get hl, z_fs_get hl, ho j hj]
  · rw [List.getElem?_eq_none (by simp [z_fs_len]; omega), List.getElem?_eq_none (by rw [z_fs_len]; omega)]
theorem z_cell_o {G : zG} {h : zH} {I : zI} {J : zJ} {a ci : Nat} (ht : (h.2.1 a).1 = ci) (hc : ci < 6) : z_cell G h I J a = .inr (ci, z_fs G h.2.2 I J a ci) := by
  unfold z_cell
  rcases (show ci = 0 ∨ ci = 1 ∨ ci = 2 ∨ ci = 3 ∨ ci = 4 ∨ ci = 5 by omega) with rfl | rfl | rfl | rfl | rfl | rfl <;> (rw [ht]; try rfl)
theorem z_cell_i {G : zG} {h : zH} {I : zI} {J : zJ} {a n : Nat} (ht : h.2.1 a = (10, n)) : z_cell G h I J a = .inl (G.2.1.1, n, .inl (I a)) := by
  unfold z_cell
  rw [ht]
  rfl
theorem z_cell_l {G : zG} {h : zH} {I : zI} {J : zJ} {a n : Nat} (ht : h.2.1 a = (11, n)) : z_cell G h I J a = .inl (G.2.1.2.1, n, .inr (.inl (J a))) := by
  unfold z_cell
  rw [ht]
  rfl
theorem z_cell_z {G : zG} {h : zH} {I : zI} {J : zJ} {a n : Nat} (ht : h.2.1 a = (12, n)) : z_cell G h I J a = .inl (G.2.1.2.2.1, n, .inl (I a)) := by
  unfold z_cell
  rw [ht]
  rfl
theorem z_cell_q {G : zG} {h : zH} {I : zI} {J : zJ} {a n : Nat} (ht : h.2.1 a = (13, n)) : z_cell G h I J a = .inl (G.2.1.2.2.2, n, .inr (.inr (.inr (.inr (fun j => (h.2.2 a j).map (z_ad G)))))) := by
  unfold z_cell
  rw [ht]
  rfl
/-- a cell hangs on its own row of the store alone -/
theorem z_cell_eq {G : zG} {h h' : zH} {I I' : zI} {J J' : zJ} {a : Nat} (h1 : h'.2.1 a = h.2.1 a) (h2 : h'.2.2 a = h.2.2 a) (h3 : I' a = I a) (h4 : J' a = J a) : z_cell G h' I' J' a = z_cell G h I J a := by
  have e : ∀ ci, z_fs G h'.2.2 I' J' a ci = z_fs G h.2.2 I J a ci := by
    intro ci
    unfold z_fs z_fv
    rw [h2, h3, h4]
  unfold z_cell
  rw [h1, h2, h3, h4]
  simp only [e]
/-- one row of a store written anew, at one column -/
def z_u {α : Type} (f : Nat → Nat → α) (a k : Nat) (v : α) : Nat → Nat → α := fun b j => if b = a then (if j = k then v else f b j) else f b j
theorem z_u_row {α : Type} {f : Nat → Nat → α} {a k b : Nat} {v : α} (h : b ≠ a) : z_u f a k v b = f b := by
  funext j
  simp [z_u, h]
theorem z_u_same {α : Type} {f : Nat → Nat → α} {a k : Nat} {v : α} : z_u f a k v a k = v := by simp [z_u]
theorem z_u_col {α : Type} {f : Nat → Nat → α} {a k j : Nat} {v : α} (h : j ≠ k) : z_u f a k v a j = f a j := by simp [z_u, h]
theorem z_u_upd {f : zI} {a k : Nat} {v : Int32} : z_u f a k v a = upd (f a) k v := by
  funext j
  simp [z_u, upd]
theorem z_u_updL {f : zJ} {a k : Nat} {v : Int64} : z_u f a k v a = vp_updL (f a) k v := by
  funext j
  simp [z_u, vp_updL]
/-- a whole row written anew -/
def z_w {α : Type} (f : Nat → Nat → α) (a : Nat) (g : Nat → α) : Nat → Nat → α := fun b => if b = a then g else f b
theorem z_w_row {α : Type} {f : Nat → Nat → α} {a b : Nat} {g : Nat → α} (h : b ≠ a) : z_w f a g b = f b := by simp [z_w, h]
theorem z_w_same {α : Type} {f : Nat → Nat → α} {a : Nat} {g : Nat → α} : z_w f a g a = g := by simp [z_w]
end
section
/-! THE JUDGEMENTS. z_V: the machine at a program counter, with locals, operand stack and store, comes to the end that its context names; z_C: a method's contract. -/
abbrev zK : Type := (Program × Launch × Env × Room × State × MethodId × Array Value × List Frame × Method × Code) × (State → Prop) × zG × Nat × Nat
abbrev zL : Type := List (Nat × Value)
abbrev zQ : Type := Option Value → zH → zI → zJ → Prop
def z_lc (G : zG) (ls : zL) : zL := ls.map (fun q => (q.1, z_cv G q.2))
def z_V (K : zK) (pc : Nat) (ls : zL) (st : List Value) (h : zH) (I : zI) (J : zJ) (kc ks : Nat) : Prop := match K with
  | ((p, l, e, R, s, m, args, below, meth, c), Qf, G, mc, ms) => ∀ (H : Heap) (locs : List Loc) (la : Array Slot), z_P G h I J H → va_S (z_A G) s.heap H locs → lv_has la c.maxLocals (z_lc G ls) → kc ≤ mc → ks ≤ ms → W p l e R s m args below meth c H locs (mc - kc) (ms - ks) Qf (F0 m pc la (st.map (z_cv G)))
def z_E (y : MethodName) (cc : ByteArray) (nL : Nat) (ret : Option FieldType) (d : Nat) (K : zK) : Prop := match K with
  | ((p, _, _, R, s, m, args, _, meth, c), _, G, mc, ms) => p.tables.exec = Jvm.exec ∧ c.code = cc ∧ c.maxLocals = nL ∧ meth.sig.returnType = ret ∧ meth.locks = false ∧ meth.name = y.name ∧ s.vm.findClass y.cls = some m.cls ∧ (∀ w ∈ z_tbl, w.before args s = true) ∧ va_K G.1 vwCl (z_tys G) s ∧ z_St G s s.heap ∧ G.2.2.2 ≤ s.heap.size ∧ G.2.2.1 < G.2.2.2 ∧ R.cells = mc ∧ R.slots = ms ∧ d ≤ R.frames ∧ 64 * d ≤ R.locals
def z_room (d kc ks : Nat) : Room := { frames := d, cells := kc, slots := ks, locals := 64 * d }
def z_Qc (G : zG) (Q : zQ) : Array Value → State → Outcome → State → Prop := fun _ st oc t => (∃ (r : Option Value) (h : zH) (I : zI) (J : zJ), oc = .returned (r.map (z_cv G)) ∧ Q r h I J ∧ z_Rep G h I J t) ∧ va_F (z_A G) st t
def z_wd (y : MethodName) (cc : ByteArray) (nL : Nat) (ret : Option FieldType) : List Cond := Cond.code y cc nL ret :: z_tbl
def z_C (y : MethodName) (cc : ByteArray) (nL : Nat) (ret : Option FieldType) (d : Nat) (av : List Value) (h : zH) (I : zI) (J : zJ) (kc ks : Nat) (Q : zQ) : Prop :=
  ∀ (l : Launch) (G : zG), Met l y (z_wd y cc nL ret) (z_room d kc ks) (va_Pc (av.map (z_cv G)) (z_Rep G h I J)) (z_Qc G Q) kc ks (z_A G)
/-- the context's end is a method's: it answers, and Q holds of answer and store -/
def z_X (Q : zQ) (K : zK) : Prop := match K with
  | ((_, _, _, _, s, _, args, below, _, _), Qf, G, mc, ms) => Qf = MQ below (z_Qc G Q) args s mc ms (z_A G)
theorem z_cv_cat (G : zG) (v : Value) : (z_cv G v).category = v.category := by cases v <;> rfl
theorem z_sl (G : zG) : ∀ av : List Value, (lg_sl (av.map (z_cv G))).length = (lg_sl av).length
  | [] => rfl
  | v :: av => by
    have ih := z_sl G av
    cases v <;> simp_all [lg_sl, z_cv, Value.category]
theorem z_args (G : zG) : ∀ (av : List Value) (i : Nat), lv_args i (av.map (z_cv G)) = z_lc G (lv_args i av)
  | [], _ => rfl
  | v :: av, i => by
    show (i, z_cv G v) :: lv_args (if (z_cv G v).category = 2 then i + 2 else i + 1) (av.map (z_cv G)) = _
    rw [z_cv_cat, z_args G av]
    rfl
theorem z_Nw.warm {u U : State} (hW : u.WarmedH U.vm) (h : z_Nw u) : z_Nw U := ⟨h.1.warmC hW, h.2.1.warmM hW, h.2.2.1.warmM hW, h.2.2.2.moved hW.alike⟩
theorem z_Nw.same {u U : State} (hv : u.vm = U.vm) (h : z_Nw u) : z_Nw U := ⟨h.1.same rfl hv, h.2.1.same rfl hv, h.2.2.1.same rfl hv, h.2.2.2.moved (by rw [hv]; exact Vm.Alike.refl _)⟩
theorem z_St.warm {G : zG} {u U : State} {H : Heap} (hW : u.WarmedH U.vm) (h : z_St G u H) : z_St G U H := ⟨h.1.warm hW, h.2.1.moved hW.alike, h.2.2.moved hW.alike⟩
theorem z_St.same {G : zG} {u U : State} {H : Heap} (hv : u.vm = U.vm) (h : z_St G u H) : z_St G U H := ⟨h.1.same hv, h.2.1.moved (by rw [hv]; exact Vm.Alike.refl _), h.2.2.moved (by rw [hv]; exact Vm.Alike.refl _)⟩
theorem z_St.kept {G : zG} {U : State} {H H1 : Heap} (h : z_St G U H) (hq : ∀ a : Nat, a < H.size → ¬ z_A G a → H1[a]? = H[a]?) : z_St G U H1 := ⟨h.1, h.2.1.kept hq, h.2.2.kept hq⟩
theorem z_blind (av : List Value) (G : zG) (h : zH) (I : zI) (J : zJ) : FrameBlind (va_Pc av (z_Rep G h I J)) := by
  intro a U g mk q
  obtain ⟨q0, qP, qK, qS, q1⟩ := q
  exact ⟨q0, qP, va_K.moved (u := U) (U := U.calling g mk a) (Vm.Alike.refl U.vm) qK, z_St.same (u := U) (U := U.calling g mk a) rfl qS, q1⟩
theorem z_C.of {y : MethodName} {cc : ByteArray} {nL : Nat} {ret : Option FieldType} {d : Nat} {av : List Value} {h : zH} {I : zI} {J : zJ} {kc ks : Nat} {Q : zQ} (hy : plainName y.cls = true) (hn : (lg_sl av).length ≤ nL)
    (body : ∀ K : zK, z_E y cc nL ret d K → z_X Q K → z_V K 0 (lv_args 0 av) [] h I J kc ks) : z_C y cc nL ret d av h I J kc ks Q := by
  intro l G
  refine Met.ofW (cc := cc) (maxL := nL) (ret := ret) hy rfl ?_
  intro p e s m args below meth c s₁ B hml hv
  obtain ⟨rfl, hP, hK, hSt, ht0⟩ := hv
  have hts := atoms_spec (ws := z_wd y cc nL ret) B.pre
  have hE : z_E y cc nL ret d ((p, l, e, z_room d kc ks, s, m, (av.map (z_cv G)).toArray, below, meth, c), MQ below (z_Qc G Q) (av.map (z_cv G)).toArray s kc ks (z_A G), G, kc, ks) :=
    ⟨B.exec, B.bytes, hml, B.returns, B.notSynchronized, (name_of_methodNamed B.named B.method).1, findClass_of_methodNamed B.named, fun w hw => hts w (List.mem_cons_of_mem _ hw), hK, hSt, by rw [hP.2.1]; exact Nat.le_add_right _ _, ht0, rfl, rfl, Nat.le_refl _, Nat.le_refl _⟩
  have key := body ((p, l, e, z_room d kc ks, s, m, (av.map (z_cv G)).toArray, below, meth, c), MQ below (z_Qc G Q) (av.map (z_cv G)).toArray s kc ks (z_A G), G, kc, ks) hE rfl
  have hl := lv_entry (av.map (z_cv G)) (n := nL) (by rw [z_sl]; exact hn)
  rw [lg_entry_eq]
  rw [z_args] at hl
  have k2 := key s.heap [] _ hP va_S.rf (by rw [hml]; exact hl) (Nat.le_refl _) (Nat.le_refl _)
  rw [Nat.sub_self, Nat.sub_self] at k2
  exact k2
theorem z_C.weaken {y : MethodName} {cc : ByteArray} {nL : Nat} {ret : Option FieldType} {d : Nat} {av : List Value} {h : zH} {I : zI} {J : zJ} {kc ks : Nat} {Q Q2 : zQ} (hC : z_C y cc nL ret d av h I J kc ks Q) (hQ : ∀ r h I J, Q r h I J → Q2 r h I J) : z_C y cc nL ret d av h I J kc ks Q2 := by
  intro l G
  have hM := hC l G
  intro p e ha hc hk s m args below hf hfit hP hT
  obtain ⟨k, o, h1, h2, h3, ⟨⟨r, h', I', J', e1, e2, e3⟩, e4⟩, h5⟩ := hM p e ha hc hk s m args below hf hfit hP hT
  exact ⟨k, o, h1, h2, h3, ⟨⟨r, h', I', J', e1, hQ _ _ _ _ e2, e3⟩, e4⟩, h5⟩
def z_at : zL → Nat → Option Value
  | [], _ => none
  | (j, w) :: l, i => match Nat.beq j i with
    | true => some w
    | false => z_at l i
theorem z_at_mem : ∀ {ls : zL} {i : Nat} {v : Value}, z_at ls i = some v → (i, v) ∈ ls
  | (j, w) :: l, i, v, h => by
    unfold z_at at h
    cases hb : Nat.beq j i with
    | true =>
      rw [hb] at h
      have hj := Nat.eq_of_beq_eq_true hb
      cases h
      rw [hj]
      exact List.mem_cons_self
    | false =>
      rw [hb] at h
      exact List.mem_cons_of_mem _ (z_at_mem h)
theorem z_at_lc {G : zG} {la : Array Slot} {n : Nat} {ls : zL} {i : Nat} {v : Value} (hl : lv_has la n (z_lc G ls)) (h : z_at ls i = some v) : la[i]? = some (.val (z_cv G v)) :=
  hl.2.2 (i, z_cv G v) (List.mem_map.mpr ⟨(i, v), z_at_mem h, rfl⟩)
def z_ins (i : Nat) (v : Value) : zL → zL
  | [] => [(i, v)]
  | (j, w) :: l => match Nat.blt j i with
    | true => (j, w) :: z_ins i v l
    | false => (i, v) :: (j, w) :: l
theorem z_ins_mem {i : Nat} {v : Value} {q : Nat × Value} : ∀ {l : zL}, q ∈ z_ins i v l → q = (i, v) ∨ q ∈ l
  | [], h => Or.inl (List.mem_singleton.mp h)
  | (j, w) :: l, h => by
    unfold z_ins at h
    cases hb : Nat.blt j i with
    | true =>
      rw [hb] at h
      rcases List.mem_cons.mp h with h | h
      · exact Or.inr (by rw [h]; exact List.mem_cons_self)
      · rcases z_ins_mem h with h | h
        · exact Or.inl h
        · exact Or.inr (List.mem_cons_of_mem _ h)
    | false =>
      rw [hb] at h
      rcases List.mem_cons.mp h with h | h
      · exact Or.inl h
      · exact Or.inr h
/-- the locals, in the order of their numbers, with a value of one slot stored -/
def z_set (i : Nat) (v : Value) (ls : zL) : zL := z_ins i v (ls.filter (fun q => !(q.1 == i) && !(q.1 + 1 == i && q.2.category == 2)))
/-- the same with a long -/
def z_set2 (i : Nat) (v : Value) (ls : zL) : zL := z_ins i v (ls.filter (fun q => !(q.1 == i) && (!(q.1 == i + 1) && !(q.1 + 1 == i && q.2.category == 2))))
theorem z_lc_fil {G : zG} {p : Nat × Value → Bool} (hp : ∀ q, p (q.1, z_cv G q.2) = p q) : ∀ ls : zL, (z_lc G ls).filter p = z_lc G (ls.filter p)
  | [] => rfl
  | q :: ls => by
    show (List.filter p ((q.1, z_cv G q.2) :: z_lc G ls)) = _
    rw [List.filter_cons, List.filter_cons, z_lc_fil hp ls, hp q]
    cases p q <;> rfl
theorem z_lc_set {G : zG} {la : Array Slot} {n i : Nat} {v : Value} {ls : zL} {p : Nat × Value → Bool} (hp : ∀ q, p (q.1, z_cv G q.2) = p q) (h : lv_has la n ((i, z_cv G v) :: (z_lc G ls).filter p)) : lv_has la n (z_lc G (z_ins i v (ls.filter p))) := by
  refine ⟨h.1, h.2.1, fun q hq => h.2.2 q ?_⟩
  obtain ⟨q0, h0, rfl⟩ := List.mem_map.mp hq
  rcases z_ins_mem h0 with rfl | h1
  · exact List.mem_cons_self
  · rw [z_lc_fil hp]
    exact List.mem_cons_of_mem _ (List.mem_map.mpr ⟨q0, h1, rfl⟩)
end
section
/-! ROWS: one an instruction, over the judgement z_V -/
section ZROWS
variable {y : MethodName} {cc : ByteArray} {nL d : Nat} {ret : Option FieldType} {K : zK} {pc : Nat} {ls : zL} {st : List Value} {h : zH} {I : zI} {J : zJ} {kc ks : Nat}
theorem v_iconst (E : z_E y cc nL ret d K) {n : Int} {v : Int32} (hd : decode cc pc = .ok (.iconst n, 1)) (hv : Int32.ofInt n = v) (k : z_V K (pc + 1) ls (.int v :: st) h I J kc ks) : z_V K pc ls (st) h I J kc ks := by
  obtain ⟨⟨p, l, e, R, s, m, args, below, meth, c⟩, Qf, G, mc, ms⟩ := K
  obtain ⟨hx, hb, hml, hr, hlocks, hin, hown, hts, hK, hSt, hbase, ht0, hRc, hRs, hfr, hlo⟩ := E
  intro H locs la hP hS hl hkc hks
  exact lv_iconst hx hb hd hv (k H locs la hP hS hl hkc hks)
theorem v_bipush (E : z_E y cc nL ret d K) {n : Int} {v : Int32} (hd : decode cc pc = .ok (.bipush n, 2)) (hv : (Int8.ofInt n).toInt32 = v) (k : z_V K (pc + 2) ls (.int v :: st) h I J kc ks) : z_V K pc ls (st) h I J kc ks := by
  obtain ⟨⟨p, l, e, R, s, m, args, below, meth, c⟩, Qf, G, mc, ms⟩ := K
  obtain ⟨hx, hb, hml, hr, hlocks, hin, hown, hts, hK, hSt, hbase, ht0, hRc, hRs, hfr, hlo⟩ := E
  intro H locs la hP hS hl hkc hks
  exact lv_bipush hx hb hd hv (k H locs la hP hS hl hkc hks)
theorem v_sipush (E : z_E y cc nL ret d K) {n : Int} {v : Int32} (hd : decode cc pc = .ok (.sipush n, 3)) (hv : (Int16.ofInt n).toInt32 = v) (k : z_V K (pc + 3) ls (.int v :: st) h I J kc ks) : z_V K pc ls (st) h I J kc ks := by
  obtain ⟨⟨p, l, e, R, s, m, args, below, meth, c⟩, Qf, G, mc, ms⟩ := K
  obtain ⟨hx, hb, hml, hr, hlocks, hin, hown, hts, hK, hSt, hbase, ht0, hRc, hRs, hfr, hlo⟩ := E
  intro H locs la hP hS hl hkc hks
  exact lv_sipush hx hb hd hv (k H locs la hP hS hl hkc hks)
theorem v_lconst (E : z_E y cc nL ret d K) {n : Fin 2} {v : Int64} (hd : decode cc pc = .ok (.lconst n, 1)) (hv : Int64.ofNat (n : Nat) = v) (k : z_V K (pc + 1) ls (.long v :: st) h I J kc ks) : z_V K pc ls (st) h I J kc ks := by
  obtain ⟨⟨p, l, e, R, s, m, args, below, meth, c⟩, Qf, G, mc, ms⟩ := K
  obtain ⟨hx, hb, hml, hr, hlocks, hin, hown, hts, hK, hSt, hbase, ht0, hRc, hRs, hfr, hlo⟩ := E
  intro H locs la hP hS hl hkc hks
  exact lv_lconst hx hb hd hv (k H locs la hP hS hl hkc hks)
theorem v_null (E : z_E y cc nL ret d K) (hd : decode cc pc = .ok (.aconst_null, 1)) (k : z_V K (pc + 1) ls (.null :: st) h I J kc ks) : z_V K pc ls st h I J kc ks := by
  obtain ⟨⟨p, l, e, R, s, m, args, below, meth, c⟩, Qf, G, mc, ms⟩ := K
  obtain ⟨hx, hb, hml, hr, hlocks, hin, hown, hts, hK, hSt, hbase, ht0, hRc, hRs, hfr, hlo⟩ := E
  intro H locs la hP hS hl hkc hks
  exact lv_null hx hb hd (k H locs la hP hS hl hkc hks)
theorem v_ldc (E : z_E y cc nL ret d K) {index : Nat} {v : Int32} (hd : decode cc pc = .ok (.ldc index, 2)) (hc : Cond.constant y.cls index v ∈ z_tbl) (k : z_V K (pc + 2) ls (.int v :: st) h I J kc ks) : z_V K pc ls st h I J kc ks := by
  obtain ⟨⟨p, l, e, R, s, m, args, below, meth, c⟩, Qf, G, mc, ms⟩ := K
  obtain ⟨hx, hb, hml, hr, hlocks, hin, hown, hts, hK, hSt, hbase, ht0, hRc, hRs, hfr, hlo⟩ := E
  intro H locs la hP hS hl hkc hks
  exact lv_ldc hx hb hown (hts _ hc) hd (k H locs la hP hS hl hkc hks)
theorem v_ldc_w (E : z_E y cc nL ret d K) {index : Nat} {v : Int32} (hd : decode cc pc = .ok (.ldc_w index, 3)) (hc : Cond.constant y.cls index v ∈ z_tbl) (k : z_V K (pc + 3) ls (.int v :: st) h I J kc ks) : z_V K pc ls st h I J kc ks := by
  obtain ⟨⟨p, l, e, R, s, m, args, below, meth, c⟩, Qf, G, mc, ms⟩ := K
  obtain ⟨hx, hb, hml, hr, hlocks, hin, hown, hts, hK, hSt, hbase, ht0, hRc, hRs, hfr, hlo⟩ := E
  intro H locs la hP hS hl hkc hks
  exact lv_ldcw hx hb hown (hts _ hc) hd (k H locs la hP hS hl hkc hks)
theorem v_ldc2_w (E : z_E y cc nL ret d K) {index : Nat} {v : Int64} (hd : decode cc pc = .ok (.ldc2_w index, 3)) (hc : Cond.constantLong y.cls index v ∈ z_tbl) (k : z_V K (pc + 3) ls (.long v :: st) h I J kc ks) : z_V K pc ls st h I J kc ks := by
  obtain ⟨⟨p, l, e, R, s, m, args, below, meth, c⟩, Qf, G, mc, ms⟩ := K
  obtain ⟨hx, hb, hml, hr, hlocks, hin, hown, hts, hK, hSt, hbase, ht0, hRc, hRs, hfr, hlo⟩ := E
  intro H locs la hP hS hl hkc hks
  exact lv_ldc2 hx hb hown (hts _ hc) hd (k H locs la hP hS hl hkc hks)
theorem v_iload (E : z_E y cc nL ret d K) {i : Nat} {x : Int32} (hd : decode cc pc = .ok (.iload i, 2)) (hl : z_at ls i = some (.int x)) (k : z_V K (pc + 2) ls (.int x :: st) h I J kc ks) : z_V K pc ls st h I J kc ks := by
  obtain ⟨⟨p, l, e, R, s, m, args, below, meth, c⟩, Qf, G, mc, ms⟩ := K
  obtain ⟨hx, hb, hml, hr, hlocks, hin, hown, hts, hK, hSt, hbase, ht0, hRc, hRs, hfr, hlo⟩ := E
  intro H locs la hP hS hla hkc hks
  exact lv_iload hx hb hd (z_at_lc hla hl) (k H locs la hP hS hla hkc hks)
theorem v_iload_n (E : z_E y cc nL ret d K) {i : Fin 4} {x : Int32} (hd : decode cc pc = .ok (.iload_n i, 1)) (hl : z_at ls i = some (.int x)) (k : z_V K (pc + 1) ls (.int x :: st) h I J kc ks) : z_V K pc ls st h I J kc ks := by
  obtain ⟨⟨p, l, e, R, s, m, args, below, meth, c⟩, Qf, G, mc, ms⟩ := K
  obtain ⟨hx, hb, hml, hr, hlocks, hin, hown, hts, hK, hSt, hbase, ht0, hRc, hRs, hfr, hlo⟩ := E
  intro H locs la hP hS hla hkc hks
  exact lv_iload_n hx hb hd rfl (z_at_lc hla hl) (k H locs la hP hS hla hkc hks)
theorem v_lload (E : z_E y cc nL ret d K) {i : Nat} {x : Int64} (hd : decode cc pc = .ok (.lload i, 2)) (hl : z_at ls i = some (.long x)) (k : z_V K (pc + 2) ls (.long x :: st) h I J kc ks) : z_V K pc ls st h I J kc ks := by
  obtain ⟨⟨p, l, e, R, s, m, args, below, meth, c⟩, Qf, G, mc, ms⟩ := K
  obtain ⟨hx, hb, hml, hr, hlocks, hin, hown, hts, hK, hSt, hbase, ht0, hRc, hRs, hfr, hlo⟩ := E
  intro H locs la hP hS hla hkc hks
  exact lv_lload hx hb hd (z_at_lc hla hl) (k H locs la hP hS hla hkc hks)
theorem v_lload_n (E : z_E y cc nL ret d K) {i : Fin 4} {x : Int64} (hd : decode cc pc = .ok (.lload_n i, 1)) (hl : z_at ls i = some (.long x)) (k : z_V K (pc + 1) ls (.long x :: st) h I J kc ks) : z_V K pc ls st h I J kc ks := by
  obtain ⟨⟨p, l, e, R, s, m, args, below, meth, c⟩, Qf, G, mc, ms⟩ := K
  obtain ⟨hx, hb, hml, hr, hlocks, hin, hown, hts, hK, hSt, hbase, ht0, hRc, hRs, hfr, hlo⟩ := E
  intro H locs la hP hS hla hkc hks
  exact lv_lload_n hx hb hd rfl (z_at_lc hla hl) (k H locs la hP hS hla hkc hks)
theorem v_aload (E : z_E y cc nL ret d K) {i : Nat} {x : Nat} (hd : decode cc pc = .ok (.aload i, 2)) (hl : z_at ls i = some (.ref x)) (k : z_V K (pc + 2) ls (.ref x :: st) h I J kc ks) : z_V K pc ls st h I J kc ks := by
  obtain ⟨⟨p, l, e, R, s, m, args, below, meth, c⟩, Qf, G, mc, ms⟩ := K
  obtain ⟨hx, hb, hml, hr, hlocks, hin, hown, hts, hK, hSt, hbase, ht0, hRc, hRs, hfr, hlo⟩ := E
  intro H locs la hP hS hla hkc hks
  exact lv_aload hx hb hd (z_at_lc hla hl) (k H locs la hP hS hla hkc hks)
theorem v_aload_n (E : z_E y cc nL ret d K) {i : Fin 4} {x : Nat} (hd : decode cc pc = .ok (.aload_n i, 1)) (hl : z_at ls i = some (.ref x)) (k : z_V K (pc + 1) ls (.ref x :: st) h I J kc ks) : z_V K pc ls st h I J kc ks := by
  obtain ⟨⟨p, l, e, R, s, m, args, below, meth, c⟩, Qf, G, mc, ms⟩ := K
  obtain ⟨hx, hb, hml, hr, hlocks, hin, hown, hts, hK, hSt, hbase, ht0, hRc, hRs, hfr, hlo⟩ := E
  intro H locs la hP hS hla hkc hks
  exact lv_aload_n hx hb hd rfl (z_at_lc hla hl) (k H locs la hP hS hla hkc hks)
theorem v_aload_nN (E : z_E y cc nL ret d K) {i : Fin 4} (hd : decode cc pc = .ok (.aload_n i, 1)) (hl : z_at ls i = some .null) (k : z_V K (pc + 1) ls (.null :: st) h I J kc ks) : z_V K pc ls st h I J kc ks := by
  obtain ⟨⟨p, l, e, R, s, m, args, below, meth, c⟩, Qf, G, mc, ms⟩ := K
  obtain ⟨hx, hb, hml, hr, hlocks, hin, hown, hts, hK, hSt, hbase, ht0, hRc, hRs, hfr, hlo⟩ := E
  intro H locs la hP hS hla hkc hks
  exact lv_aload_nN hx hb hd rfl (z_at_lc hla hl) (k H locs la hP hS hla hkc hks)
theorem v_istore (E : z_E y cc nL ret d K) {i : Nat} {x : Int32} (hd : decode cc pc = .ok (.istore i, 2)) (hn : i < nL) (k : z_V K (pc + 2) (z_set i (.int x) ls) st h I J kc ks) : z_V K pc ls (.int x :: st) h I J kc ks := by
  obtain ⟨⟨p, l, e, R, s, m, args, below, meth, c⟩, Qf, G, mc, ms⟩ := K
  obtain ⟨hx, hb, hml, hr, hlocks, hin, hown, hts, hK, hSt, hbase, ht0, hRc, hRs, hfr, hlo⟩ := E
  intro H locs la hP hS hla hkc hks
  subst hml
  exact lv_istore hx hb hd hla hn rfl (fun la2 hl2 => k H locs la2 hP hS (z_lc_set (v := .int x) (fun q => by rw [z_cv_cat]) hl2) hkc hks)
theorem v_istore_n (E : z_E y cc nL ret d K) {i : Fin 4} {x : Int32} (hd : decode cc pc = .ok (.istore_n i, 1)) (hn : (i : Nat) < nL) (k : z_V K (pc + 1) (z_set i (.int x) ls) st h I J kc ks) : z_V K pc ls (.int x :: st) h I J kc ks := by
  obtain ⟨⟨p, l, e, R, s, m, args, below, meth, c⟩, Qf, G, mc, ms⟩ := K
  obtain ⟨hx, hb, hml, hr, hlocks, hin, hown, hts, hK, hSt, hbase, ht0, hRc, hRs, hfr, hlo⟩ := E
  intro H locs la hP hS hla hkc hks
  subst hml
  exact lv_istore_n hx hb hd rfl hla hn rfl (fun la2 hl2 => k H locs la2 hP hS (z_lc_set (v := .int x) (fun q => by rw [z_cv_cat]) hl2) hkc hks)
theorem v_astore (E : z_E y cc nL ret d K) {i : Nat} {x : Nat} (hd : decode cc pc = .ok (.astore i, 2)) (hn : i < nL) (k : z_V K (pc + 2) (z_set i (.ref x) ls) st h I J kc ks) : z_V K pc ls (.ref x :: st) h I J kc ks := by
  obtain ⟨⟨p, l, e, R, s, m, args, below, meth, c⟩, Qf, G, mc, ms⟩ := K
  obtain ⟨hx, hb, hml, hr, hlocks, hin, hown, hts, hK, hSt, hbase, ht0, hRc, hRs, hfr, hlo⟩ := E
  intro H locs la hP hS hla hkc hks
  subst hml
  exact lv_astore hx hb hd hla hn rfl (fun la2 hl2 => k H locs la2 hP hS (z_lc_set (v := .ref x) (fun q => by rw [z_cv_cat]) hl2) hkc hks)
theorem v_astore_n (E : z_E y cc nL ret d K) {i : Fin 4} {x : Nat} (hd : decode cc pc = .ok (.astore_n i, 1)) (hn : (i : Nat) < nL) (k : z_V K (pc + 1) (z_set i (.ref x) ls) st h I J kc ks) : z_V K pc ls (.ref x :: st) h I J kc ks := by
  obtain ⟨⟨p, l, e, R, s, m, args, below, meth, c⟩, Qf, G, mc, ms⟩ := K
  obtain ⟨hx, hb, hml, hr, hlocks, hin, hown, hts, hK, hSt, hbase, ht0, hRc, hRs, hfr, hlo⟩ := E
  intro H locs la hP hS hla hkc hks
  subst hml
  exact lv_astore_n hx hb hd rfl hla hn rfl (fun la2 hl2 => k H locs la2 hP hS (z_lc_set (v := .ref x) (fun q => by rw [z_cv_cat]) hl2) hkc hks)
theorem v_lstore (E : z_E y cc nL ret d K) {i : Nat} {x : Int64} (hd : decode cc pc = .ok (.lstore i, 2)) (hn : i + 1 < nL) (k : z_V K (pc + 2) (z_set2 i (.long x) ls) st h I J kc ks) : z_V K pc ls (.long x :: st) h I J kc ks := by
  obtain ⟨⟨p, l, e, R, s, m, args, below, meth, c⟩, Qf, G, mc, ms⟩ := K
  obtain ⟨hx, hb, hml, hr, hlocks, hin, hown, hts, hK, hSt, hbase, ht0, hRc, hRs, hfr, hlo⟩ := E
  intro H locs la hP hS hla hkc hks
  subst hml
  exact lv_lstore hx hb hd hla hn rfl (fun la2 hl2 => k H locs la2 hP hS (z_lc_set (v := .long x) (fun q => by rw [z_cv_cat]) hl2) hkc hks)
theorem v_lstore_n (E : z_E y cc nL ret d K) {i : Fin 4} {x : Int64} (hd : decode cc pc = .ok (.lstore_n i, 1)) (hn : (i : Nat) + 1 < nL) (k : z_V K (pc + 1) (z_set2 i (.long x) ls) st h I J kc ks) : z_V K pc ls (.long x :: st) h I J kc ks := by
  obtain ⟨⟨p, l, e, R, s, m, args, below, meth, c⟩, Qf, G, mc, ms⟩ := K
  obtain ⟨hx, hb, hml, hr, hlocks, hin, hown, hts, hK, hSt, hbase, ht0, hRc, hRs, hfr, hlo⟩ := E
  intro H locs la hP hS hla hkc hks
  subst hml
  exact lv_lstore_n hx hb hd rfl hla hn rfl (fun la2 hl2 => k H locs la2 hP hS (z_lc_set (v := .long x) (fun q => by rw [z_cv_cat]) hl2) hkc hks)
theorem v_iinc (E : z_E y cc nL ret d K) {i : Nat} {n : Int} {x v : Int32} (hd : decode cc pc = .ok (.iinc i n, 3)) (hg : z_at ls i = some (.int x)) (hv : x + Int32.ofInt n = v) (hn : i < nL) (k : z_V K (pc + 3) (z_set i (.int v) ls) st h I J kc ks) : z_V K pc ls st h I J kc ks := by
  obtain ⟨⟨p, l, e, R, s, m, args, below, meth, c⟩, Qf, G, mc, ms⟩ := K
  obtain ⟨hx, hb, hml, hr, hlocks, hin, hown, hts, hK, hSt, hbase, ht0, hRc, hRs, hfr, hlo⟩ := E
  intro H locs la hP hS hla hkc hks
  subst hml
  obtain ⟨j, hj⟩ := List.getElem?_of_mem (List.mem_map.mpr ⟨(i, .int x), z_at_mem hg, rfl⟩ : ((i, z_cv G (.int x)) ∈ z_lc G ls))
  exact lv_iinc (k := j) (x := x) (v := v) hx hb hd hla hj hv hn rfl (fun la2 hl2 => k H locs la2 hP hS (z_lc_set (v := .int v) (fun q => by rw [z_cv_cat]) hl2) hkc hks)
theorem v_iadd (E : z_E y cc nL ret d K) {x z : Int32} (hd : decode cc pc = .ok (.iadd, 1))  (k : z_V K (pc + 1) ls (.int (x + z) :: st) h I J kc ks) : z_V K pc ls (.int z :: .int x :: st) h I J kc ks := by
  obtain ⟨⟨p, l, e, R, s, m, args, below, meth, c⟩, Qf, G, mc, ms⟩ := K
  obtain ⟨hx, hb, hml, hr, hlocks, hin, hown, hts, hK, hSt, hbase, ht0, hRc, hRs, hfr, hlo⟩ := E
  intro H locs la hP hS hl hkc hks
  exact lv_iadd hx hb hd  (k H locs la hP hS hl hkc hks)
theorem v_isub (E : z_E y cc nL ret d K) {x z : Int32} (hd : decode cc pc = .ok (.isub, 1))  (k : z_V K (pc + 1) ls (.int (x - z) :: st) h I J kc ks) : z_V K pc ls (.int z :: .int x :: st) h I J kc ks := by
  obtain ⟨⟨p, l, e, R, s, m, args, below, meth, c⟩, Qf, G, mc, ms⟩ := K
  obtain ⟨hx, hb, hml, hr, hlocks, hin, hown, hts, hK, hSt, hbase, ht0, hRc, hRs, hfr, hlo⟩ := E
  intro H locs la hP hS hl hkc hks
  exact lv_isub hx hb hd  (k H locs la hP hS hl hkc hks)
theorem v_imul (E : z_E y cc nL ret d K) {x z : Int32} (hd : decode cc pc = .ok (.imul, 1))  (k : z_V K (pc + 1) ls (.int (x * z) :: st) h I J kc ks) : z_V K pc ls (.int z :: .int x :: st) h I J kc ks := by
  obtain ⟨⟨p, l, e, R, s, m, args, below, meth, c⟩, Qf, G, mc, ms⟩ := K
  obtain ⟨hx, hb, hml, hr, hlocks, hin, hown, hts, hK, hSt, hbase, ht0, hRc, hRs, hfr, hlo⟩ := E
  intro H locs la hP hS hl hkc hks
  exact lv_imul hx hb hd  (k H locs la hP hS hl hkc hks)
theorem v_iand (E : z_E y cc nL ret d K) {x z : Int32} (hd : decode cc pc = .ok (.iand, 1))  (k : z_V K (pc + 1) ls (.int (x &&& z) :: st) h I J kc ks) : z_V K pc ls (.int z :: .int x :: st) h I J kc ks := by
  obtain ⟨⟨p, l, e, R, s, m, args, below, meth, c⟩, Qf, G, mc, ms⟩ := K
  obtain ⟨hx, hb, hml, hr, hlocks, hin, hown, hts, hK, hSt, hbase, ht0, hRc, hRs, hfr, hlo⟩ := E
  intro H locs la hP hS hl hkc hks
  exact lv_iand hx hb hd  (k H locs la hP hS hl hkc hks)
theorem v_ior (E : z_E y cc nL ret d K) {x z : Int32} (hd : decode cc pc = .ok (.ior, 1))  (k : z_V K (pc + 1) ls (.int (x ||| z) :: st) h I J kc ks) : z_V K pc ls (.int z :: .int x :: st) h I J kc ks := by
  obtain ⟨⟨p, l, e, R, s, m, args, below, meth, c⟩, Qf, G, mc, ms⟩ := K
  obtain ⟨hx, hb, hml, hr, hlocks, hin, hown, hts, hK, hSt, hbase, ht0, hRc, hRs, hfr, hlo⟩ := E
  intro H locs la hP hS hl hkc hks
  exact lv_ior hx hb hd  (k H locs la hP hS hl hkc hks)
theorem v_ixor (E : z_E y cc nL ret d K) {x z : Int32} (hd : decode cc pc = .ok (.ixor, 1))  (k : z_V K (pc + 1) ls (.int (x ^^^ z) :: st) h I J kc ks) : z_V K pc ls (.int z :: .int x :: st) h I J kc ks := by
  obtain ⟨⟨p, l, e, R, s, m, args, below, meth, c⟩, Qf, G, mc, ms⟩ := K
  obtain ⟨hx, hb, hml, hr, hlocks, hin, hown, hts, hK, hSt, hbase, ht0, hRc, hRs, hfr, hlo⟩ := E
  intro H locs la hP hS hl hkc hks
  exact lv_ixor hx hb hd  (k H locs la hP hS hl hkc hks)
theorem v_ishl (E : z_E y cc nL ret d K) {x z : Int32} (hd : decode cc pc = .ok (.ishl, 1))  (k : z_V K (pc + 1) ls (.int (x <<< (z &&& 31)) :: st) h I J kc ks) : z_V K pc ls (.int z :: .int x :: st) h I J kc ks := by
  obtain ⟨⟨p, l, e, R, s, m, args, below, meth, c⟩, Qf, G, mc, ms⟩ := K
  obtain ⟨hx, hb, hml, hr, hlocks, hin, hown, hts, hK, hSt, hbase, ht0, hRc, hRs, hfr, hlo⟩ := E
  intro H locs la hP hS hl hkc hks
  exact lv_ishl hx hb hd  (k H locs la hP hS hl hkc hks)
theorem v_ishr (E : z_E y cc nL ret d K) {x z : Int32} (hd : decode cc pc = .ok (.ishr, 1))  (k : z_V K (pc + 1) ls (.int (x >>> (z &&& 31)) :: st) h I J kc ks) : z_V K pc ls (.int z :: .int x :: st) h I J kc ks := by
  obtain ⟨⟨p, l, e, R, s, m, args, below, meth, c⟩, Qf, G, mc, ms⟩ := K
  obtain ⟨hx, hb, hml, hr, hlocks, hin, hown, hts, hK, hSt, hbase, ht0, hRc, hRs, hfr, hlo⟩ := E
  intro H locs la hP hS hl hkc hks
  exact lv_ishr hx hb hd  (k H locs la hP hS hl hkc hks)
theorem v_iushr (E : z_E y cc nL ret d K) {x z : Int32} (hd : decode cc pc = .ok (.iushr, 1)) (k : z_V K (pc + 1) ls (.int ((x.toUInt32 >>> (z.toUInt32 &&& Int32.toUInt32 31)).toInt32) :: st) h I J kc ks) : z_V K pc ls (.int z :: .int x :: st) h I J kc ks := by
  obtain ⟨⟨p, l, e, R, s, m, args, below, meth, c⟩, Qf, G, mc, ms⟩ := K
  obtain ⟨hx, hb, hml, hr, hlocks, hin, hown, hts, hK, hSt, hbase, ht0, hRc, hRs, hfr, hlo⟩ := E
  intro H locs la hP hS hl hkc hks
  exact lv_iushr hx hb hd rfl (k H locs la hP hS hl hkc hks)
theorem v_ineg (E : z_E y cc nL ret d K) {x : Int32} (hd : decode cc pc = .ok (.ineg, 1))  (k : z_V K (pc + 1) ls (.int (-x) :: st) h I J kc ks) : z_V K pc ls (.int x :: st) h I J kc ks := by
  obtain ⟨⟨p, l, e, R, s, m, args, below, meth, c⟩, Qf, G, mc, ms⟩ := K
  obtain ⟨hx, hb, hml, hr, hlocks, hin, hown, hts, hK, hSt, hbase, ht0, hRc, hRs, hfr, hlo⟩ := E
  intro H locs la hP hS hl hkc hks
  exact lv_ineg hx hb hd  (k H locs la hP hS hl hkc hks)
theorem v_ladd (E : z_E y cc nL ret d K) {x z : Int64} (hd : decode cc pc = .ok (.ladd, 1))  (k : z_V K (pc + 1) ls (.long (x + z) :: st) h I J kc ks) : z_V K pc ls (.long z :: .long x :: st) h I J kc ks := by
  obtain ⟨⟨p, l, e, R, s, m, args, below, meth, c⟩, Qf, G, mc, ms⟩ := K
  obtain ⟨hx, hb, hml, hr, hlocks, hin, hown, hts, hK, hSt, hbase, ht0, hRc, hRs, hfr, hlo⟩ := E
  intro H locs la hP hS hl hkc hks
  exact lv_ladd hx hb hd  (k H locs la hP hS hl hkc hks)
theorem v_land (E : z_E y cc nL ret d K) {x z : Int64} (hd : decode cc pc = .ok (.land, 1))  (k : z_V K (pc + 1) ls (.long (x &&& z) :: st) h I J kc ks) : z_V K pc ls (.long z :: .long x :: st) h I J kc ks := by
  obtain ⟨⟨p, l, e, R, s, m, args, below, meth, c⟩, Qf, G, mc, ms⟩ := K
  obtain ⟨hx, hb, hml, hr, hlocks, hin, hown, hts, hK, hSt, hbase, ht0, hRc, hRs, hfr, hlo⟩ := E
  intro H locs la hP hS hl hkc hks
  exact lv_land hx hb hd  (k H locs la hP hS hl hkc hks)
theorem v_lor (E : z_E y cc nL ret d K) {x z : Int64} (hd : decode cc pc = .ok (.lor, 1))  (k : z_V K (pc + 1) ls (.long (x ||| z) :: st) h I J kc ks) : z_V K pc ls (.long z :: .long x :: st) h I J kc ks := by
  obtain ⟨⟨p, l, e, R, s, m, args, below, meth, c⟩, Qf, G, mc, ms⟩ := K
  obtain ⟨hx, hb, hml, hr, hlocks, hin, hown, hts, hK, hSt, hbase, ht0, hRc, hRs, hfr, hlo⟩ := E
  intro H locs la hP hS hl hkc hks
  exact lv_lor hx hb hd  (k H locs la hP hS hl hkc hks)
theorem v_lxor (E : z_E y cc nL ret d K) {x z : Int64} (hd : decode cc pc = .ok (.lxor, 1))  (k : z_V K (pc + 1) ls (.long (x ^^^ z) :: st) h I J kc ks) : z_V K pc ls (.long z :: .long x :: st) h I J kc ks := by
  obtain ⟨⟨p, l, e, R, s, m, args, below, meth, c⟩, Qf, G, mc, ms⟩ := K
  obtain ⟨hx, hb, hml, hr, hlocks, hin, hown, hts, hK, hSt, hbase, ht0, hRc, hRs, hfr, hlo⟩ := E
  intro H locs la hP hS hl hkc hks
  exact lv_lxor hx hb hd  (k H locs la hP hS hl hkc hks)
theorem v_lshl (E : z_E y cc nL ret d K) {x : Int64} {z : Int32} (hd : decode cc pc = .ok (.lshl, 1))  (k : z_V K (pc + 1) ls (.long (x <<< (z.toInt64 &&& 63)) :: st) h I J kc ks) : z_V K pc ls (.int z :: .long x :: st) h I J kc ks := by
  obtain ⟨⟨p, l, e, R, s, m, args, below, meth, c⟩, Qf, G, mc, ms⟩ := K
  obtain ⟨hx, hb, hml, hr, hlocks, hin, hown, hts, hK, hSt, hbase, ht0, hRc, hRs, hfr, hlo⟩ := E
  intro H locs la hP hS hl hkc hks
  exact lv_lshl hx hb hd rfl (k H locs la hP hS hl hkc hks)
theorem v_lshr (E : z_E y cc nL ret d K) {x : Int64} {z : Int32} (hd : decode cc pc = .ok (.lshr, 1))  (k : z_V K (pc + 1) ls (.long (x >>> (z.toInt64 &&& 63)) :: st) h I J kc ks) : z_V K pc ls (.int z :: .long x :: st) h I J kc ks := by
  obtain ⟨⟨p, l, e, R, s, m, args, below, meth, c⟩, Qf, G, mc, ms⟩ := K
  obtain ⟨hx, hb, hml, hr, hlocks, hin, hown, hts, hK, hSt, hbase, ht0, hRc, hRs, hfr, hlo⟩ := E
  intro H locs la hP hS hl hkc hks
  exact lv_lshr hx hb hd rfl (k H locs la hP hS hl hkc hks)
theorem v_i2l (E : z_E y cc nL ret d K) {x : Int32} (hd : decode cc pc = .ok (.i2l, 1))  (k : z_V K (pc + 1) ls (.long x.toInt64 :: st) h I J kc ks) : z_V K pc ls (.int x :: st) h I J kc ks := by
  obtain ⟨⟨p, l, e, R, s, m, args, below, meth, c⟩, Qf, G, mc, ms⟩ := K
  obtain ⟨hx, hb, hml, hr, hlocks, hin, hown, hts, hK, hSt, hbase, ht0, hRc, hRs, hfr, hlo⟩ := E
  intro H locs la hP hS hl hkc hks
  exact lv_i2l hx hb hd rfl (k H locs la hP hS hl hkc hks)
theorem v_l2i (E : z_E y cc nL ret d K) {x : Int64} (hd : decode cc pc = .ok (.l2i, 1))  (k : z_V K (pc + 1) ls (.int x.toInt32 :: st) h I J kc ks) : z_V K pc ls (.long x :: st) h I J kc ks := by
  obtain ⟨⟨p, l, e, R, s, m, args, below, meth, c⟩, Qf, G, mc, ms⟩ := K
  obtain ⟨hx, hb, hml, hr, hlocks, hin, hown, hts, hK, hSt, hbase, ht0, hRc, hRs, hfr, hlo⟩ := E
  intro H locs la hP hS hl hkc hks
  exact lv_l2i hx hb hd rfl (k H locs la hP hS hl hkc hks)
theorem v_lcmp (E : z_E y cc nL ret d K) {x z : Int64} (hd : decode cc pc = .ok (.lcmp, 1))  (k : z_V K (pc + 1) ls (.int (lg_cmp x z) :: st) h I J kc ks) : z_V K pc ls (.long z :: .long x :: st) h I J kc ks := by
  obtain ⟨⟨p, l, e, R, s, m, args, below, meth, c⟩, Qf, G, mc, ms⟩ := K
  obtain ⟨hx, hb, hml, hr, hlocks, hin, hown, hts, hK, hSt, hbase, ht0, hRc, hRs, hfr, hlo⟩ := E
  intro H locs la hP hS hl hkc hks
  exact W.lcmp hx hb hd  (k H locs la hP hS hl hkc hks)
theorem v_dup (E : z_E y cc nL ret d K) {v0 : Value} (hd : decode cc pc = .ok (.dup, 1)) (hc0 : v0.category = 1) (k : z_V K (pc + 1) ls (v0 :: v0 :: st) h I J kc ks) : z_V K pc ls (v0 :: st) h I J kc ks := by
  obtain ⟨⟨p, l, e, R, s, m, args, below, meth, c⟩, Qf, G, mc, ms⟩ := K
  obtain ⟨hx, hb, hml, hr, hlocks, hin, hown, hts, hK, hSt, hbase, ht0, hRc, hRs, hfr, hlo⟩ := E
  intro H locs la hP hS hl hkc hks
  exact lv_dup hx hb hd (by rw [z_cv_cat]; exact hc0) (k H locs la hP hS hl hkc hks)
theorem v_pop (E : z_E y cc nL ret d K) {v0 : Value} (hd : decode cc pc = .ok (.pop, 1)) (hc0 : v0.category = 1) (k : z_V K (pc + 1) ls st h I J kc ks) : z_V K pc ls (v0 :: st) h I J kc ks := by
  obtain ⟨⟨p, l, e, R, s, m, args, below, meth, c⟩, Qf, G, mc, ms⟩ := K
  obtain ⟨hx, hb, hml, hr, hlocks, hin, hown, hts, hK, hSt, hbase, ht0, hRc, hRs, hfr, hlo⟩ := E
  intro H locs la hP hS hl hkc hks
  exact lv_pop hx hb hd (by rw [z_cv_cat]; exact hc0) (k H locs la hP hS hl hkc hks)
theorem v_dup_x1 (E : z_E y cc nL ret d K) {v0 v1 : Value} (hd : decode cc pc = .ok (.dup_x1, 1)) (hc0 : v0.category = 1) (hc1 : v1.category = 1) (k : z_V K (pc + 1) ls (v0 :: v1 :: v0 :: st) h I J kc ks) : z_V K pc ls (v0 :: v1 :: st) h I J kc ks := by
  obtain ⟨⟨p, l, e, R, s, m, args, below, meth, c⟩, Qf, G, mc, ms⟩ := K
  obtain ⟨hx, hb, hml, hr, hlocks, hin, hown, hts, hK, hSt, hbase, ht0, hRc, hRs, hfr, hlo⟩ := E
  intro H locs la hP hS hl hkc hks
  exact lv_dup_x1 hx hb hd (by rw [z_cv_cat]; exact hc0) (by rw [z_cv_cat]; exact hc1) (k H locs la hP hS hl hkc hks)
theorem v_dup2 (E : z_E y cc nL ret d K) {v0 v1 : Value} (hd : decode cc pc = .ok (.dup2, 1)) (hc0 : v0.category = 1) (hc1 : v1.category = 1) (k : z_V K (pc + 1) ls (v0 :: v1 :: v0 :: v1 :: st) h I J kc ks) : z_V K pc ls (v0 :: v1 :: st) h I J kc ks := by
  obtain ⟨⟨p, l, e, R, s, m, args, below, meth, c⟩, Qf, G, mc, ms⟩ := K
  obtain ⟨hx, hb, hml, hr, hlocks, hin, hown, hts, hK, hSt, hbase, ht0, hRc, hRs, hfr, hlo⟩ := E
  intro H locs la hP hS hl hkc hks
  exact lv_dup2_11 hx hb hd (by rw [z_cv_cat]; exact hc0) (by rw [z_cv_cat]; exact hc1) (k H locs la hP hS hl hkc hks)
theorem v_icmp_eq (E : z_E y cc nL ret d K) {x z : Int32} {off : Int} {tgt : Nat} (hd : decode cc pc = .ok (.if_icmp .eq off, 3)) (ht : (pc : Int) + off = (tgt : Int)) (kt : x = z → z_V K tgt ls st h I J kc ks) (kf : ¬ x = z → z_V K (pc + 3) ls st h I J kc ks) : z_V K pc ls (.int z :: .int x :: st) h I J kc ks := by
  obtain ⟨⟨p, l, e, R, s, m, args, below, meth, c⟩, Qf, G, mc, ms⟩ := K
  obtain ⟨hx, hb, hml, hr, hlocks, hin, hown, hts, hK, hSt, hbase, ht0, hRc, hRs, hfr, hlo⟩ := E
  intro H locs la hP hS hl hkc hks
  exact lv_icmp_eq hx hb hd ht (fun q => kt q H locs la hP hS hl hkc hks) (fun q => kf q H locs la hP hS hl hkc hks)
theorem v_if_eq (E : z_E y cc nL ret d K) {x : Int32} {off : Int} {tgt : Nat} (hd : decode cc pc = .ok (.ifCond .eq off, 3)) (ht : (pc : Int) + off = (tgt : Int)) (kt : x = 0 → z_V K tgt ls st h I J kc ks) (kf : ¬ x = 0 → z_V K (pc + 3) ls st h I J kc ks) : z_V K pc ls (.int x :: st) h I J kc ks := by
  obtain ⟨⟨p, l, e, R, s, m, args, below, meth, c⟩, Qf, G, mc, ms⟩ := K
  obtain ⟨hx, hb, hml, hr, hlocks, hin, hown, hts, hK, hSt, hbase, ht0, hRc, hRs, hfr, hlo⟩ := E
  intro H locs la hP hS hl hkc hks
  exact lv_if_eq hx hb hd ht (fun q => kt q H locs la hP hS hl hkc hks) (fun q => kf q H locs la hP hS hl hkc hks)
theorem v_icmp_ne (E : z_E y cc nL ret d K) {x z : Int32} {off : Int} {tgt : Nat} (hd : decode cc pc = .ok (.if_icmp .ne off, 3)) (ht : (pc : Int) + off = (tgt : Int)) (kt : ¬ x = z → z_V K tgt ls st h I J kc ks) (kf : x = z → z_V K (pc + 3) ls st h I J kc ks) : z_V K pc ls (.int z :: .int x :: st) h I J kc ks := by
  obtain ⟨⟨p, l, e, R, s, m, args, below, meth, c⟩, Qf, G, mc, ms⟩ := K
  obtain ⟨hx, hb, hml, hr, hlocks, hin, hown, hts, hK, hSt, hbase, ht0, hRc, hRs, hfr, hlo⟩ := E
  intro H locs la hP hS hl hkc hks
  exact lv_icmp_ne hx hb hd ht (fun q => kt q H locs la hP hS hl hkc hks) (fun q => kf q H locs la hP hS hl hkc hks)
theorem v_if_ne (E : z_E y cc nL ret d K) {x : Int32} {off : Int} {tgt : Nat} (hd : decode cc pc = .ok (.ifCond .ne off, 3)) (ht : (pc : Int) + off = (tgt : Int)) (kt : ¬ x = 0 → z_V K tgt ls st h I J kc ks) (kf : x = 0 → z_V K (pc + 3) ls st h I J kc ks) : z_V K pc ls (.int x :: st) h I J kc ks := by
  obtain ⟨⟨p, l, e, R, s, m, args, below, meth, c⟩, Qf, G, mc, ms⟩ := K
  obtain ⟨hx, hb, hml, hr, hlocks, hin, hown, hts, hK, hSt, hbase, ht0, hRc, hRs, hfr, hlo⟩ := E
  intro H locs la hP hS hl hkc hks
  exact lv_if_ne hx hb hd ht (fun q => kt q H locs la hP hS hl hkc hks) (fun q => kf q H locs la hP hS hl hkc hks)
theorem v_icmp_lt (E : z_E y cc nL ret d K) {x z : Int32} {off : Int} {tgt : Nat} (hd : decode cc pc = .ok (.if_icmp .lt off, 3)) (ht : (pc : Int) + off = (tgt : Int)) (kt : x < z → z_V K tgt ls st h I J kc ks) (kf : ¬ x < z → z_V K (pc + 3) ls st h I J kc ks) : z_V K pc ls (.int z :: .int x :: st) h I J kc ks := by
  obtain ⟨⟨p, l, e, R, s, m, args, below, meth, c⟩, Qf, G, mc, ms⟩ := K
  obtain ⟨hx, hb, hml, hr, hlocks, hin, hown, hts, hK, hSt, hbase, ht0, hRc, hRs, hfr, hlo⟩ := E
  intro H locs la hP hS hl hkc hks
  exact lv_icmp_lt hx hb hd ht (fun q => kt q H locs la hP hS hl hkc hks) (fun q => kf q H locs la hP hS hl hkc hks)
theorem v_if_lt (E : z_E y cc nL ret d K) {x : Int32} {off : Int} {tgt : Nat} (hd : decode cc pc = .ok (.ifCond .lt off, 3)) (ht : (pc : Int) + off = (tgt : Int)) (kt : x < 0 → z_V K tgt ls st h I J kc ks) (kf : ¬ x < 0 → z_V K (pc + 3) ls st h I J kc ks) : z_V K pc ls (.int x :: st) h I J kc ks := by
  obtain ⟨⟨p, l, e, R, s, m, args, below, meth, c⟩, Qf, G, mc, ms⟩ := K
  obtain ⟨hx, hb, hml, hr, hlocks, hin, hown, hts, hK, hSt, hbase, ht0, hRc, hRs, hfr, hlo⟩ := E
  intro H locs la hP hS hl hkc hks
  exact lv_if_lt hx hb hd ht (fun q => kt q H locs la hP hS hl hkc hks) (fun q => kf q H locs la hP hS hl hkc hks)
theorem v_icmp_ge (E : z_E y cc nL ret d K) {x z : Int32} {off : Int} {tgt : Nat} (hd : decode cc pc = .ok (.if_icmp .ge off, 3)) (ht : (pc : Int) + off = (tgt : Int)) (kt : z ≤ x → z_V K tgt ls st h I J kc ks) (kf : ¬ z ≤ x → z_V K (pc + 3) ls st h I J kc ks) : z_V K pc ls (.int z :: .int x :: st) h I J kc ks := by
  obtain ⟨⟨p, l, e, R, s, m, args, below, meth, c⟩, Qf, G, mc, ms⟩ := K
  obtain ⟨hx, hb, hml, hr, hlocks, hin, hown, hts, hK, hSt, hbase, ht0, hRc, hRs, hfr, hlo⟩ := E
  intro H locs la hP hS hl hkc hks
  exact lv_icmp_ge hx hb hd ht (fun q => kt q H locs la hP hS hl hkc hks) (fun q => kf q H locs la hP hS hl hkc hks)
theorem v_if_ge (E : z_E y cc nL ret d K) {x : Int32} {off : Int} {tgt : Nat} (hd : decode cc pc = .ok (.ifCond .ge off, 3)) (ht : (pc : Int) + off = (tgt : Int)) (kt : 0 ≤ x → z_V K tgt ls st h I J kc ks) (kf : ¬ 0 ≤ x → z_V K (pc + 3) ls st h I J kc ks) : z_V K pc ls (.int x :: st) h I J kc ks := by
  obtain ⟨⟨p, l, e, R, s, m, args, below, meth, c⟩, Qf, G, mc, ms⟩ := K
  obtain ⟨hx, hb, hml, hr, hlocks, hin, hown, hts, hK, hSt, hbase, ht0, hRc, hRs, hfr, hlo⟩ := E
  intro H locs la hP hS hl hkc hks
  exact lv_if_ge hx hb hd ht (fun q => kt q H locs la hP hS hl hkc hks) (fun q => kf q H locs la hP hS hl hkc hks)
theorem v_icmp_gt (E : z_E y cc nL ret d K) {x z : Int32} {off : Int} {tgt : Nat} (hd : decode cc pc = .ok (.if_icmp .gt off, 3)) (ht : (pc : Int) + off = (tgt : Int)) (kt : z < x → z_V K tgt ls st h I J kc ks) (kf : ¬ z < x → z_V K (pc + 3) ls st h I J kc ks) : z_V K pc ls (.int z :: .int x :: st) h I J kc ks := by
  obtain ⟨⟨p, l, e, R, s, m, args, below, meth, c⟩, Qf, G, mc, ms⟩ := K
  obtain ⟨hx, hb, hml, hr, hlocks, hin, hown, hts, hK, hSt, hbase, ht0, hRc, hRs, hfr, hlo⟩ := E
  intro H locs la hP hS hl hkc hks
  exact lv_icmp_gt hx hb hd ht (fun q => kt q H locs la hP hS hl hkc hks) (fun q => kf q H locs la hP hS hl hkc hks)
theorem v_if_gt (E : z_E y cc nL ret d K) {x : Int32} {off : Int} {tgt : Nat} (hd : decode cc pc = .ok (.ifCond .gt off, 3)) (ht : (pc : Int) + off = (tgt : Int)) (kt : 0 < x → z_V K tgt ls st h I J kc ks) (kf : ¬ 0 < x → z_V K (pc + 3) ls st h I J kc ks) : z_V K pc ls (.int x :: st) h I J kc ks := by
  obtain ⟨⟨p, l, e, R, s, m, args, below, meth, c⟩, Qf, G, mc, ms⟩ := K
  obtain ⟨hx, hb, hml, hr, hlocks, hin, hown, hts, hK, hSt, hbase, ht0, hRc, hRs, hfr, hlo⟩ := E
  intro H locs la hP hS hl hkc hks
  exact lv_if_gt hx hb hd ht (fun q => kt q H locs la hP hS hl hkc hks) (fun q => kf q H locs la hP hS hl hkc hks)
theorem v_icmp_le (E : z_E y cc nL ret d K) {x z : Int32} {off : Int} {tgt : Nat} (hd : decode cc pc = .ok (.if_icmp .le off, 3)) (ht : (pc : Int) + off = (tgt : Int)) (kt : x ≤ z → z_V K tgt ls st h I J kc ks) (kf : ¬ x ≤ z → z_V K (pc + 3) ls st h I J kc ks) : z_V K pc ls (.int z :: .int x :: st) h I J kc ks := by
  obtain ⟨⟨p, l, e, R, s, m, args, below, meth, c⟩, Qf, G, mc, ms⟩ := K
  obtain ⟨hx, hb, hml, hr, hlocks, hin, hown, hts, hK, hSt, hbase, ht0, hRc, hRs, hfr, hlo⟩ := E
  intro H locs la hP hS hl hkc hks
  exact lv_icmp_le hx hb hd ht (fun q => kt q H locs la hP hS hl hkc hks) (fun q => kf q H locs la hP hS hl hkc hks)
theorem v_if_le (E : z_E y cc nL ret d K) {x : Int32} {off : Int} {tgt : Nat} (hd : decode cc pc = .ok (.ifCond .le off, 3)) (ht : (pc : Int) + off = (tgt : Int)) (kt : x ≤ 0 → z_V K tgt ls st h I J kc ks) (kf : ¬ x ≤ 0 → z_V K (pc + 3) ls st h I J kc ks) : z_V K pc ls (.int x :: st) h I J kc ks := by
  obtain ⟨⟨p, l, e, R, s, m, args, below, meth, c⟩, Qf, G, mc, ms⟩ := K
  obtain ⟨hx, hb, hml, hr, hlocks, hin, hown, hts, hK, hSt, hbase, ht0, hRc, hRs, hfr, hlo⟩ := E
  intro H locs la hP hS hl hkc hks
  exact lv_if_le hx hb hd ht (fun q => kt q H locs la hP hS hl hkc hks) (fun q => kf q H locs la hP hS hl hkc hks)
theorem v_goto (E : z_E y cc nL ret d K) {off : Int} {tgt : Nat} (hd : decode cc pc = .ok (.goto off, 3)) (ht : (pc : Int) + off = (tgt : Int)) (k : z_V K tgt ls st h I J kc ks) : z_V K pc ls st h I J kc ks := by
  obtain ⟨⟨p, l, e, R, s, m, args, below, meth, c⟩, Qf, G, mc, ms⟩ := K
  obtain ⟨hx, hb, hml, hr, hlocks, hin, hown, hts, hK, hSt, hbase, ht0, hRc, hRs, hfr, hlo⟩ := E
  intro H locs la hP hS hl hkc hks
  exact lv_goto hx hb hd ht (k H locs la hP hS hl hkc hks)
theorem v_tableOut (E : z_E y cc nL ret d K) {dflt lo hi : Int} {offs : Array Int} {len : Nat} {x : Int32} {tgt : Nat} (hd : decode cc pc = .ok (.tableswitch dflt lo hi offs, len)) (hx9 : x.toInt < lo ∨ hi < x.toInt) (ht : (pc : Int) + dflt = (tgt : Int)) (k : z_V K tgt ls st h I J kc ks) : z_V K pc ls (.int x :: st) h I J kc ks := by
  obtain ⟨⟨p, l, e, R, s, m, args, below, meth, c⟩, Qf, G, mc, ms⟩ := K
  obtain ⟨hx, hb, hml, hr, hlocks, hin, hown, hts, hK, hSt, hbase, ht0, hRc, hRs, hfr, hlo⟩ := E
  intro H locs la hP hS hl hkc hks
  exact lv_tableOut hx hb hd hx9 ht (k H locs la hP hS hl hkc hks)
theorem v_tableIn (E : z_E y cc nL ret d K) {dflt lo hi : Int} {offs : Array Int} {len : Nat} {x : Int32} {off : Int} {tgt : Nat} (hd : decode cc pc = .ok (.tableswitch dflt lo hi offs, len)) (h1 : ¬ x.toInt < lo) (h2 : ¬ hi < x.toInt) (ho : offs[(x.toInt - lo).toNat]? = some off) (ht : (pc : Int) + off = (tgt : Int)) (k : z_V K tgt ls st h I J kc ks) : z_V K pc ls (.int x :: st) h I J kc ks := by
  obtain ⟨⟨p, l, e, R, s, m, args, below, meth, c⟩, Qf, G, mc, ms⟩ := K
  obtain ⟨hx, hb, hml, hr, hlocks, hin, hown, hts, hK, hSt, hbase, ht0, hRc, hRs, hfr, hlo⟩ := E
  intro H locs la hP hS hl hkc hks
  exact lv_tableIn hx hb hd h1 h2 ho ht (k H locs la hP hS hl hkc hks)
theorem v_lookup (E : z_E y cc nL ret d K) {dflt : Int} {ps : Array (Int × Int)} {len : Nat} {x : Int32} {off : Int} {tgt : Nat} (hd : decode cc pc = .ok (.lookupswitch dflt ps, len)) (hp : (ps.toList.zip (ps.toList.drop 1)).all (fun (a, next) => a.1 < next.1) = true) (ho : Op.lookupswitch.offset ps.toList dflt x.toInt = off) (ht : (pc : Int) + off = (tgt : Int)) (k : z_V K tgt ls st h I J kc ks) : z_V K pc ls (.int x :: st) h I J kc ks := by
  obtain ⟨⟨p, l, e, R, s, m, args, below, meth, c⟩, Qf, G, mc, ms⟩ := K
  obtain ⟨hx, hb, hml, hr, hlocks, hin, hown, hts, hK, hSt, hbase, ht0, hRc, hRs, hfr, hlo⟩ := E
  intro H locs la hP hS hl hkc hks
  exact lv_lookup hx hb hd hp ho ht (k H locs la hP hS hl hkc hks)
/-- the locals by other words: fewer, in another order -/
theorem v_ls {ls2 : zL} (hq : ∀ q ∈ ls2, z_at ls q.1 = some q.2) (k : z_V K pc ls2 st h I J kc ks) : z_V K pc ls st h I J kc ks := by
  obtain ⟨⟨p, l, e, R, s, m, args, below, meth, c⟩, Qf, G, mc, ms⟩ := K
  intro H locs la hP hS hl hkc hks
  refine k H locs la hP hS ⟨hl.1, hl.2.1, fun q h9 => ?_⟩ hkc hks
  obtain ⟨q0, h0, rfl⟩ := List.mem_map.mp h9
  exact z_at_lc hl (hq q0 h0)
end ZROWS
end
section
/-! ROWS of the store: fields, arrays, making, returning -/
def z_kd (ty : FieldType) : Nat := match ty with
  | .long => 1
  | .object _ => 2
  | .array _ => 2
  | _ => 0
theorem z_fv_0 {G : zG} {R : Nat → Nat → Option Nat} {I : zI} {J : zJ} {a j : Nat} {ty : FieldType} (h : z_kd ty = 0) : z_fv G R I J a j ty = .int (I a j) := by
  cases ty <;> first | rfl | (simp [z_kd] at h)
theorem z_fv_1 {G : zG} {R : Nat → Nat → Option Nat} {I : zI} {J : zJ} {a j : Nat} {ty : FieldType} (h : z_kd ty = 1) : z_fv G R I J a j ty = .long (J a j) := by
  cases ty <;> first | rfl | (simp [z_kd] at h)
theorem z_fv_2 {G : zG} {R : Nat → Nat → Option Nat} {I : zI} {J : zJ} {a j : Nat} {ty : FieldType} (h : z_kd ty = 2) : z_fv G R I J a j ty = va_rf ((R a j).map (z_ad G)) := by
  cases ty <;> first | rfl | (simp [z_kd] at h)
/-- a field's link: the class that reads, the pool's entry, the class that has it, its number there -/
def z_Fl (own : String) (idx ci k : Nat) : Prop := ci < 6 ∧ k < z_N ci ∧ ∃ ref, Cond.fieldLink own idx ref (z_T ci k).2.1 (z_T ci k).2.2.1 ∈ z_tbl ∧ (ref = (z_T ci k).1 ∨ Cond.sameField ref (z_T ci k).1 (z_T ci k).2.1 (z_T ci k).2.2.1 ∈ z_tbl)
theorem z_same {own : String} {idx ci k : Nat} {s : State} {args : Array Value} (hts : ∀ w ∈ z_tbl, w.before args s = true) (hf : z_Fl own idx ci k) : ∃ ref, (Cond.fieldLink own idx ref (z_T ci k).2.1 (z_T ci k).2.2.1).before args s = true ∧ ∀ x, s.fieldFound? (z_T ci k).1 (z_T ci k).2.1 (z_T ci k).2.2.1 = some x → s.fieldFound? ref (z_T ci k).2.1 (z_T ci k).2.2.1 = some x := by
  obtain ⟨-, -, ref, h1, h2⟩ := hf
  refine ⟨ref, hts _ h1, fun x hx => ?_⟩
  rcases h2 with rfl | h2
  · exact hx
  · exact u_same (hts _ h2) x hx
/-- the store after a write at one place -/
theorem z_P.put {G : zG} {h h' : zH} {I I' : zI} {J J' : zJ} {H H1 : Heap} {k : Nat} {e : va_E} (hP : z_P G h I J H) (hk : k < h.1) (hn : h'.1 = h.1) (ht : ∀ a, (h'.2.1 a).1 = (h.2.1 a).1) (ho : ∀ a, a ≠ k + 1 → z_cell G h' I' J' a = z_cell G h I J a) (he : e = z_cell G h' I' J' (k + 1)) (h1 : va_P G.1 vwCl ((z_ws G h I J).set k (G.2.2.2 + k, e)) H1) (hz : H1.size = H.size) : z_P G h' I' J' H1 := by
  subst he
  rw [z_ws_set hk hn ho] at h1
  exact ⟨h1, by rw [hz, hn]; exact hP.2.1, fun a ha => by rw [ht]; exact hP.2.2 a (by rw [← hn]; exact ha)⟩
section ZMEM
variable {y : MethodName} {cc : ByteArray} {nL d : Nat} {ret : Option FieldType} {K : zK} {pc : Nat} {ls : zL} {st : List Value} {h : zH} {I : zI} {J : zJ} {kc ks : Nat}
theorem z_getv (E : z_E y cc nL ret d K) {idx ci k a : Nat} {v : Value} (hf : z_Fl y.cls idx ci k) (hT : (h.2.1 a).1 = ci) (hv : ∀ G : zG, z_fv G h.2.2 I J a k (z_ty ci k) = z_cv G v) (hd : decode cc pc = .ok (.getfield idx, 3)) (kk : z_V K (pc + 3) ls (v :: st) h I J kc ks) : z_V K pc ls (.ref a :: st) h I J kc ks := by
  obtain ⟨⟨p, l, e, R, s, m, args, below, meth, c⟩, Qf, G, mc, ms⟩ := K
  obtain ⟨hx, hb, hml, hr, hlocks, hin, hown, hts, hK, hSt, hbase, ht0, hRc, hRs, hfr, hlo⟩ := E
  intro H locs la hP hS hl hkc hks
  obtain ⟨ref, hlink, hsame⟩ := z_same hts hf
  have hci := hf.1
  obtain ⟨k0, rfl, hk0, had, hget⟩ := z_place (a := a) hP (by rw [hT]; omega)
  rw [z_cell_o hT hci] at hget
  exact va_get (D := G.1) (cl := vwCl) (ci := ci) (C := z_R ci) (T := z_T ci) (N := z_N ci) hx hb hts (z_uin hci) hown hK hP.1 k0 hget (z_cl hci) k hf.2.1 hlink hsame (z_fs_get hf.2.1) hd (by rw [hv G]; exact kk H locs la hP hS hl hkc hks)
theorem v_getI (E : z_E y cc nL ret d K) {idx ci k a : Nat} (hf : z_Fl y.cls idx ci k) (hd : decode cc pc = .ok (.getfield idx, 3)) (hT : (h.2.1 a).1 = ci) (hk : z_kd (z_ty ci k) = 0) (kk : z_V K (pc + 3) ls (.int (I a k) :: st) h I J kc ks) : z_V K pc ls (.ref a :: st) h I J kc ks :=
  z_getv E hf hT (fun G => z_fv_0 hk) hd kk
theorem v_getJ (E : z_E y cc nL ret d K) {idx ci k a : Nat} (hf : z_Fl y.cls idx ci k) (hd : decode cc pc = .ok (.getfield idx, 3)) (hT : (h.2.1 a).1 = ci) (hk : z_kd (z_ty ci k) = 1) (kk : z_V K (pc + 3) ls (.long (J a k) :: st) h I J kc ks) : z_V K pc ls (.ref a :: st) h I J kc ks :=
  z_getv E hf hT (fun G => z_fv_1 hk) hd kk
theorem v_getR (E : z_E y cc nL ret d K) {idx ci k a b : Nat} (hf : z_Fl y.cls idx ci k) (hd : decode cc pc = .ok (.getfield idx, 3)) (hT : (h.2.1 a).1 = ci) (hk : z_kd (z_ty ci k) = 2) (hR : h.2.2 a k = some b) (kk : z_V K (pc + 3) ls (.ref b :: st) h I J kc ks) : z_V K pc ls (.ref a :: st) h I J kc ks :=
  z_getv E hf hT (fun G => by rw [z_fv_2 hk, hR]; rfl) hd kk
theorem z_putv (E : z_E y cc nL ret d K) {idx ci k a : Nat} {v : Value} {h' : zH} {I' : zI} {J' : zJ} (hf : z_Fl y.cls idx ci k) (hT : (h.2.1 a).1 = ci) (hn : h'.1 = h.1) (ht : h'.2.1 = h.2.1) (hrow : ∀ b, b ≠ a → h'.2.2 b = h.2.2 b ∧ I' b = I b ∧ J' b = J b) (hcol : ∀ (G : zG) (j : Nat), j ≠ k → z_fv G h'.2.2 I' J' a j (z_ty ci j) = z_fv G h.2.2 I J a j (z_ty ci j)) (hv : ∀ G : zG, z_fv G h'.2.2 I' J' a k (z_ty ci k) = z_cv G v) (hnar : ∀ G : zG, narrow (z_ty ci k) (z_cv G v) = z_cv G v) (hfit : ∀ G : zG, fits (z_ty ci k) (z_cv G v) = true) (hfin : (z_T ci k).2.2.2 = false ∨ ((z_T ci k).2.2.2 = true ∧ y.name = "<init>" ∧ (z_T ci k).1 = y.cls)) (hd : decode cc pc = .ok (.putfield idx, 3)) (kk : z_V K (pc + 3) ls st h' I' J' kc ks) : z_V K pc ls (v :: .ref a :: st) h I J kc ks := by
  obtain ⟨⟨p, l, e, R, s, m, args, below, meth, c⟩, Qf, G, mc, ms⟩ := K
  obtain ⟨hx, hb, hml, hr, hlocks, hin, hown, hts, hK, hSt, hbase, ht0, hRc, hRs, hfr, hlo⟩ := E
  intro H locs la hP hS hl hkc hks
  obtain ⟨ref, hlink, hsame⟩ := z_same hts hf
  have hci := hf.1
  obtain ⟨k0, rfl, hk0, had, hget⟩ := z_place (a := a) hP (by rw [hT]; omega)
  rw [z_cell_o hT hci] at hget
  have hset : (z_fs G h.2.2 I J (k0 + 1) ci).set k (z_cv G v) = z_fs G h'.2.2 I' J' (k0 + 1) ci := z_fs_set (hv G) (hcol G)
  have hkl : k < (z_fs G h.2.2 I J (k0 + 1) ci).length := by rw [z_fs_len]; exact hf.2.1
  have hT' : (h'.2.1 (k0 + 1)).1 = ci := by rw [ht]; exact hT
  have fin : ∀ (H1 : Heap) (locs1 : List Loc), va_P G.1 vwCl ((z_ws G h I J).set k0 (z_ad G (k0 + 1), .inr (ci, (z_fs G h.2.2 I J (k0 + 1) ci).set k (z_cv G v)))) H1 → va_S (z_A G) s.heap H1 locs1 → H1.size = H.size → W p l e R s m args below meth c H1 locs1 (mc - kc) (ms - ks) Qf (F0 m (pc + 3) la (st.map (z_cv G))) := by
    intro H1 locs1 hP1 hS1 hz
    refine kk H1 locs1 la (hP.put hk0 hn (fun a => by rw [ht]) (fun b hb => z_cell_eq (by rw [ht]) (hrow b hb).1 (hrow b hb).2.1 (hrow b hb).2.2) ?_ hP1 hz) hS1 hl hkc hks
    rw [hset, z_cell_o hT' hci]
  rcases hfin with hfin | ⟨hfin, hini, hdecl⟩
  · have hap := va_apart (own := y.cls) hts (z_uin hci) (z_ty ci) (z_tyok hci) (z_nm hci) hK (z_cl hci)
    obtain ⟨r, h1, cell, q1, q2, q3, q4⟩ := hP.1 k0 _ hget
    have hr : r = (z_R ci, z_T ci, z_N ci) := Option.some.inj (h1.symm.trans (z_cl hci))
    subst hr
    obtain ⟨hSs, hfc, kC, hkC, hkind⟩ := hK.1 ci _ (z_cl hci)
    obtain ⟨cf, kf, fi, f, hi, hsl⟩ := hSs k hf.2.1
    have hlay := hts _ (z_uin hci _ (u_in_lay hf.2.1))
    unfold u_lay at hlay
    rw [if_neg (by rw [hfin]; decide)] at hlay
    have hst := (u_facts hfc hkC (u_lays hts (z_uin hci) hf.2.1) hi).1
    have h6 := u_store hfc hkC hkind hlay hi (z_tyok hci k hf.2.1) (hnar G) (hfit G)
    refine W.putK hx hb (f := f) ⟨hown, hlink, ⟨_, _, _, hsame _ hi⟩, hst⟩ (by rw [q2]; exact h6) q1 q3 (by rw [hsl]; exact k2_hasslot (q4 k hf.2.1)) rfl rfl hd fun H' e1 e2 e3 => ?_
    rw [hsl] at e1 ⊢
    exact fin H' _ (hP.1.set (z_D G h I J) hget ⟨_, z_cl hci, t_OB.to (V := updV (vp_V _) k (z_cv G v)) ⟨_, e1, q2, q3, t_set q4 hap hf.2.1 (z_cv G v)⟩ (fun j _ => vp_updV_set hkl (z_cv G v) j)⟩ e3) (hS.put e2 e3 ((z_D G h I J).2 k0 _ hget)) e2
  · have hap := va_apart (own := y.cls) hts (z_uin hci) (z_ty ci) (z_tyok hci) (z_nm hci) hK (z_cl hci)
    obtain ⟨r, h1, cell, q1, q2, q3, q4⟩ := hP.1 k0 _ hget
    have hr : r = (z_R ci, z_T ci, z_N ci) := Option.some.inj (h1.symm.trans (z_cl hci))
    subst hr
    obtain ⟨hSs, hfc, kC, hkC, hkind⟩ := hK.1 ci _ (z_cl hci)
    obtain ⟨cf, kf, fi, f, hi, hsl⟩ := hSs k hf.2.1
    have hlay := hts _ (z_uin hci _ (u_in_lay hf.2.1))
    unfold u_lay at hlay
    rw [if_pos hfin] at hlay
    have hst := (u_facts hfc hkC (u_lays hts (z_uin hci) hf.2.1) hi).1
    have hcf : m.cls = cf := by
      obtain ⟨_, _, c', _, _, _, -, -, hf', -, -, -, hown2, -⟩ := Cond.laysFinal_spec hlay
      have e1 : c' = cf := by have := hi.symm.trans hf'; simp at this; exact this.1.symm
      rw [hdecl] at hown2
      rw [← e1]; exact Option.some.inj (hown.symm.trans hown2)
    have h6 := u_fits hfc hkC hkind (Or.inr hlay) hi (z_tyok hci k hf.2.1) (hnar G) (hfit G)
    refine W.putFinK hx hb hown hlink (hsame _ hi) hst hcf (hin.trans hini) (by rw [q2]; exact h6) q1 q3 (by rw [hsl]; exact k2_hasslot (q4 k hf.2.1)) rfl rfl hd fun H' e1 e2 e3 => ?_
    rw [hsl] at e1 ⊢
    exact fin H' _ (hP.1.set (z_D G h I J) hget ⟨_, z_cl hci, t_OB.to (V := updV (vp_V _) k (z_cv G v)) ⟨_, e1, q2, q3, t_set q4 hap hf.2.1 (z_cv G v)⟩ (fun j _ => vp_updV_set hkl (z_cv G v) j)⟩ e3) (hS.put e2 e3 ((z_D G h I J).2 k0 _ hget)) e2
theorem z_fv_I {G : zG} {R : Nat → Nat → Option Nat} {I : zI} {J : zJ} {a j k : Nat} {v : Int32} {ty : FieldType} (hj : j ≠ k) : z_fv G R (z_u I a k v) J a j ty = z_fv G R I J a j ty := by
  unfold z_fv
  rw [z_u_col hj]
theorem z_fv_J {G : zG} {R : Nat → Nat → Option Nat} {I : zI} {J : zJ} {a j k : Nat} {v : Int64} {ty : FieldType} (hj : j ≠ k) : z_fv G R I (z_u J a k v) a j ty = z_fv G R I J a j ty := by
  unfold z_fv
  rw [z_u_col hj]
theorem z_fv_R {G : zG} {R : Nat → Nat → Option Nat} {I : zI} {J : zJ} {a j k : Nat} {v : Option Nat} {ty : FieldType} (hj : j ≠ k) : z_fv G (z_u R a k v) I J a j ty = z_fv G R I J a j ty := by
  unfold z_fv
  rw [z_u_col hj]
/-- an int or a boolean into a field -/
theorem v_putI (E : z_E y cc nL ret d K) {idx ci k a : Nat} {v : Int32} (hf : z_Fl y.cls idx ci k) (hd : decode cc pc = .ok (.putfield idx, 3)) (hT : (h.2.1 a).1 = ci) (hk : z_kd (z_ty ci k) = 0) (hnar : narrow (z_ty ci k) (.int v) = .int v) (hfit : fits (z_ty ci k) (.int v) = true) (hfin : (z_T ci k).2.2.2 = false ∨ ((z_T ci k).2.2.2 = true ∧ y.name = "<init>" ∧ (z_T ci k).1 = y.cls)) (kk : z_V K (pc + 3) ls st h (z_u I a k v) J kc ks) : z_V K pc ls (.int v :: .ref a :: st) h I J kc ks :=
  z_putv E hf hT rfl rfl (fun b hb => ⟨rfl, z_u_row hb, rfl⟩) (fun G j hj => z_fv_I hj) (fun G => by rw [z_fv_0 hk, z_u_same]; rfl) (fun _ => hnar) (fun _ => hfit) hfin hd kk
theorem v_putJ (E : z_E y cc nL ret d K) {idx ci k a : Nat} {v : Int64} (hf : z_Fl y.cls idx ci k) (hd : decode cc pc = .ok (.putfield idx, 3)) (hT : (h.2.1 a).1 = ci) (hk : z_kd (z_ty ci k) = 1) (hnar : narrow (z_ty ci k) (.long v) = .long v) (hfit : fits (z_ty ci k) (.long v) = true) (hfin : (z_T ci k).2.2.2 = false ∨ ((z_T ci k).2.2.2 = true ∧ y.name = "<init>" ∧ (z_T ci k).1 = y.cls)) (kk : z_V K (pc + 3) ls st h I (z_u J a k v) kc ks) : z_V K pc ls (.long v :: .ref a :: st) h I J kc ks :=
  z_putv E hf hT rfl rfl (fun b hb => ⟨rfl, rfl, z_u_row hb⟩) (fun G j hj => z_fv_J hj) (fun G => by rw [z_fv_1 hk, z_u_same]; rfl) (fun _ => hnar) (fun _ => hfit) hfin hd kk
theorem v_putR (E : z_E y cc nL ret d K) {idx ci k a b : Nat} (hf : z_Fl y.cls idx ci k) (hd : decode cc pc = .ok (.putfield idx, 3)) (hT : (h.2.1 a).1 = ci) (hk : z_kd (z_ty ci k) = 2) (hnar : ∀ q, narrow (z_ty ci k) (.ref q) = .ref q) (hfit : ∀ q, fits (z_ty ci k) (.ref q) = true) (hfin : (z_T ci k).2.2.2 = false ∨ ((z_T ci k).2.2.2 = true ∧ y.name = "<init>" ∧ (z_T ci k).1 = y.cls)) (kk : z_V K (pc + 3) ls st (h.1, h.2.1, z_u h.2.2 a k (some b)) I J kc ks) : z_V K pc ls (.ref b :: .ref a :: st) h I J kc ks :=
  z_putv (h' := (h.1, h.2.1, z_u h.2.2 a k (some b))) E hf hT rfl rfl (fun b hb => ⟨z_u_row hb, rfl, rfl⟩) (fun G j hj => z_fv_R hj) (fun G => by rw [z_fv_2 hk]; show va_rf ((z_u h.2.2 a k (some b) a k).map (z_ad G)) = _; rw [z_u_same]; rfl) (fun _ => hnar _) (fun _ => hfit _) hfin hd kk
/-- an index as a number -/
theorem z_ix {i : Int32} {j n : Nat} (hi : i = nI j) (hj : j < n) (hn : n < 2 ^ 31) : vp_in i n ∧ i.toNatClampNeg = j := by
  subst hi
  exact ⟨vp_in_nI hj hn, nI_clamp (by omega)⟩
theorem v_iaload (E : z_E y cc nL ret d K) {a n j : Nat} {i : Int32} (hd : decode cc pc = .ok (.iaload, 1)) (hT : h.2.1 a = (10, n)) (hi : i = nI j) (hj : j < n) (hn : n < 2 ^ 31) (k : z_V K (pc + 1) ls (.int (I a j) :: st) h I J kc ks) : z_V K pc ls (.int i :: .ref a :: st) h I J kc ks := by
  obtain ⟨⟨p, l, e, R, s, m, args, below, meth, c⟩, Qf, G, mc, ms⟩ := K
  obtain ⟨hx, hb, hml, hr, hlocks, hin, hown, hts, hK, hSt, hbase, ht0, hRc, hRs, hfr, hlo⟩ := E
  intro H locs la hP hS hl hkc hks
  obtain ⟨k0, rfl, hk0, had, hget⟩ := z_place (a := a) hP (by rw [hT]; exact Nat.le_of_ble_eq_true rfl)
  rw [z_cell_i hT] at hget
  obtain ⟨h1, h2⟩ := z_ix hi hj hn
  exact va_iald hx hb hK hP.1 k0 0 hget rfl h1 hd (by rw [h2]; exact k H locs la hP hS hl hkc hks)
theorem v_baload (E : z_E y cc nL ret d K) {a n j : Nat} {i : Int32} (hd : decode cc pc = .ok (.baload, 1)) (hT : h.2.1 a = (12, n)) (hi : i = nI j) (hj : j < n) (hn : n < 2 ^ 31) (k : z_V K (pc + 1) ls (.int (I a j) :: st) h I J kc ks) : z_V K pc ls (.int i :: .ref a :: st) h I J kc ks := by
  obtain ⟨⟨p, l, e, R, s, m, args, below, meth, c⟩, Qf, G, mc, ms⟩ := K
  obtain ⟨hx, hb, hml, hr, hlocks, hin, hown, hts, hK, hSt, hbase, ht0, hRc, hRs, hfr, hlo⟩ := E
  intro H locs la hP hS hl hkc hks
  obtain ⟨k0, rfl, hk0, had, hget⟩ := z_place (a := a) hP (by rw [hT]; exact Nat.le_of_ble_eq_true rfl)
  rw [z_cell_z hT] at hget
  obtain ⟨h1, h2⟩ := z_ix hi hj hn
  exact va_zald hx hb hK hP.1 k0 2 hget rfl h1 hd (by rw [h2]; exact k H locs la hP hS hl hkc hks)
theorem v_laload (E : z_E y cc nL ret d K) {a n j : Nat} {i : Int32} (hd : decode cc pc = .ok (.laload, 1)) (hT : h.2.1 a = (11, n)) (hi : i = nI j) (hj : j < n) (hn : n < 2 ^ 31) (k : z_V K (pc + 1) ls (.long (J a j) :: st) h I J kc ks) : z_V K pc ls (.int i :: .ref a :: st) h I J kc ks := by
  obtain ⟨⟨p, l, e, R, s, m, args, below, meth, c⟩, Qf, G, mc, ms⟩ := K
  obtain ⟨hx, hb, hml, hr, hlocks, hin, hown, hts, hK, hSt, hbase, ht0, hRc, hRs, hfr, hlo⟩ := E
  intro H locs la hP hS hl hkc hks
  obtain ⟨k0, rfl, hk0, had, hget⟩ := z_place (a := a) hP (by rw [hT]; exact Nat.le_of_ble_eq_true rfl)
  rw [z_cell_l hT] at hget
  obtain ⟨h1, h2⟩ := z_ix hi hj hn
  exact va_lald hx hb hK hP.1 k0 1 hget rfl h1 hd (by rw [h2]; exact k H locs la hP hS hl hkc hks)
theorem v_aaload (E : z_E y cc nL ret d K) {a n j b : Nat} {i : Int32} (hd : decode cc pc = .ok (.aaload, 1)) (hT : h.2.1 a = (13, n)) (hi : i = nI j) (hj : j < n) (hn : n < 2 ^ 31) (hR : h.2.2 a j = some b) (k : z_V K (pc + 1) ls (.ref b :: st) h I J kc ks) : z_V K pc ls (.int i :: .ref a :: st) h I J kc ks := by
  obtain ⟨⟨p, l, e, R, s, m, args, below, meth, c⟩, Qf, G, mc, ms⟩ := K
  obtain ⟨hx, hb, hml, hr, hlocks, hin, hown, hts, hK, hSt, hbase, ht0, hRc, hRs, hfr, hlo⟩ := E
  intro H locs la hP hS hl hkc hks
  obtain ⟨k0, rfl, hk0, had, hget⟩ := z_place (a := a) hP (by rw [hT]; exact Nat.le_of_ble_eq_true rfl)
  rw [z_cell_q hT] at hget
  obtain ⟨h1, h2⟩ := z_ix hi hj hn
  exact va_aldq hx hb hK hP.1 k0 3 hget rfl h1 hd (by rw [h2, hR]; exact k H locs la hP hS hl hkc hks)
theorem z_S.size {G : zG} {h h' : zH} {I I' : zI} {J J' : zJ} {H H1 : Heap} (hP : z_P G h I J H) (h1 : H1.size = H.size) : H1.size = G.2.2.2 + h.1 := h1.trans hP.2.1
theorem v_iastore (E : z_E y cc nL ret d K) {a n j : Nat} {i x : Int32} (hd : decode cc pc = .ok (.iastore, 1)) (hT : h.2.1 a = (10, n)) (hi : i = nI j) (hj : j < n) (hn : n < 2 ^ 31) (k : z_V K (pc + 1) ls st h (z_u I a j x) J kc ks) : z_V K pc ls (.int x :: .int i :: .ref a :: st) h I J kc ks := by
  obtain ⟨⟨p, l, e, R, s, m, args, below, meth, c⟩, Qf, G, mc, ms⟩ := K
  obtain ⟨hx, hb, hml, hr, hlocks, hin, hown, hts, hK, hSt, hbase, ht0, hRc, hRs, hfr, hlo⟩ := E
  intro H locs la hP hS hl hkc hks
  obtain ⟨k0, rfl, hk0, had, hget⟩ := z_place (a := a) hP (by rw [hT]; exact Nat.le_of_ble_eq_true rfl)
  rw [z_cell_i hT] at hget
  obtain ⟨h1, h2⟩ := z_ix hi hj hn
  have ha := hP.1 k0 _ hget
  refine W.iast hx hb ha ((hK.2 0 _ rfl).1 n (fun j => .int (I (k0 + 1) j))) (fun q => by cases q) (by show ¬ (i < 0 ∨ (arrV _ _ _).slots.size ≤ _); rw [arrV_size]; exact h1) rfl rfl hd fun H1 e z oq => ?_
  have hA : va_at G.1 vwCl (z_ad G (k0 + 1), .inl (G.2.1.1, n, .inl (upd (I (k0 + 1)) j x))) H1 := by
    show H1[z_ad G (k0 + 1)]? = some (vp_cell _ _)
    rw [e]
    rw [vp_cell_i, vp_cell_i, arrV_store, h2]
    congr 2
    funext q
    by_cases hq : q = j
    · subst hq
      simp [updV, upd]
    · simp [updV, upd, hq]
  refine k H1 _ la (hP.put hk0 rfl (fun _ => rfl) (fun b hb => z_cell_eq rfl rfl (z_u_row hb) rfl) ?_ (hP.1.set (z_D G h I J) hget hA oq) z) (hS.put z oq ((z_D G h I J).2 k0 _ hget)) hl hkc hks
  rw [z_cell_i hT, z_u_upd]
theorem v_bastore (E : z_E y cc nL ret d K) {a n j : Nat} {i x : Int32} (hd : decode cc pc = .ok (.bastore, 1)) (hT : h.2.1 a = (12, n)) (hi : i = nI j) (hj : j < n) (hn : n < 2 ^ 31) (hx9 : x = 0 ∨ x = 1) (k : z_V K (pc + 1) ls st h (z_u I a j x) J kc ks) : z_V K pc ls (.int x :: .int i :: .ref a :: st) h I J kc ks := by
  obtain ⟨⟨p, l, e, R, s, m, args, below, meth, c⟩, Qf, G, mc, ms⟩ := K
  obtain ⟨hx, hb, hml, hr, hlocks, hin, hown, hts, hK, hSt, hbase, ht0, hRc, hRs, hfr, hlo⟩ := E
  intro H locs la hP hS hl hkc hks
  obtain ⟨k0, rfl, hk0, had, hget⟩ := z_place (a := a) hP (by rw [hT]; exact Nat.le_of_ble_eq_true rfl)
  rw [z_cell_z hT] at hget
  obtain ⟨h1, h2⟩ := z_ix hi hj hn
  have hnx : vp_nar .boolean x = x := by rcases hx9 with rfl | rfl <;> decide +kernel
  have ha := hP.1 k0 _ hget
  refine W.zast hx hb ha ((hK.2 2 _ rfl).1 n (fun j => .int (I (k0 + 1) j))) (fun q => by cases q) (by show ¬ (i < 0 ∨ (arrV _ _ _).slots.size ≤ _); rw [arrV_size]; exact h1) rfl rfl hd fun H1 e z oq => ?_
  have hA : va_at G.1 vwCl (z_ad G (k0 + 1), .inl (G.2.1.2.2.1, n, .inl (upd (I (k0 + 1)) j x))) H1 := by
    show H1[z_ad G (k0 + 1)]? = some (vp_cell _ _)
    rw [e]
    rw [vp_cell_i, vp_cell_i, arrV_store, h2]
    congr 2
    funext q
    by_cases hq : q = j
    · subst hq
      have : narrow .boolean (.int x) = .int (vp_nar .boolean x) := rfl
      simp [updV, upd, this, hnx]
    · simp [updV, upd, hq]
  refine k H1 _ la (hP.put hk0 rfl (fun _ => rfl) (fun b hb => z_cell_eq rfl rfl (z_u_row hb) rfl) ?_ (hP.1.set (z_D G h I J) hget hA oq) z) (hS.put z oq ((z_D G h I J).2 k0 _ hget)) hl hkc hks
  rw [z_cell_z hT, z_u_upd]
theorem v_lastore (E : z_E y cc nL ret d K) {a n j : Nat} {i : Int32} {x : Int64} (hd : decode cc pc = .ok (.lastore, 1)) (hT : h.2.1 a = (11, n)) (hi : i = nI j) (hj : j < n) (hn : n < 2 ^ 31) (k : z_V K (pc + 1) ls st h I (z_u J a j x) kc ks) : z_V K pc ls (.long x :: .int i :: .ref a :: st) h I J kc ks := by
  obtain ⟨⟨p, l, e, R, s, m, args, below, meth, c⟩, Qf, G, mc, ms⟩ := K
  obtain ⟨hx, hb, hml, hr, hlocks, hin, hown, hts, hK, hSt, hbase, ht0, hRc, hRs, hfr, hlo⟩ := E
  intro H locs la hP hS hl hkc hks
  obtain ⟨k0, rfl, hk0, had, hget⟩ := z_place (a := a) hP (by rw [hT]; exact Nat.le_of_ble_eq_true rfl)
  rw [z_cell_l hT] at hget
  obtain ⟨h1, h2⟩ := z_ix hi hj hn
  have ha := hP.1 k0 _ hget
  refine W.last hx hb ha ((hK.2 1 _ rfl).1 n (fun j => .long (J (k0 + 1) j))) (fun q => by cases q) (by show ¬ (i < 0 ∨ (arrV _ _ _).slots.size ≤ _); rw [arrV_size]; exact h1) rfl rfl hd fun H1 e z oq => ?_
  have hA : va_at G.1 vwCl (z_ad G (k0 + 1), .inl (G.2.1.2.1, n, .inr (.inl (vp_updL (J (k0 + 1)) j x)))) H1 := by
    show H1[z_ad G (k0 + 1)]? = some (vp_cell _ _)
    rw [e]
    rw [vp_cell_l, vp_cell_l, arrV_store, h2]
    congr 2
    funext q
    by_cases hq : q = j
    · subst hq
      simp [updV, vp_updL]
    · simp [updV, vp_updL, hq]
  refine k H1 _ la (hP.put hk0 rfl (fun _ => rfl) (fun b hb => z_cell_eq rfl rfl rfl (z_u_row hb)) ?_ (hP.1.set (z_D G h I J) hget hA oq) z) (hS.put z oq ((z_D G h I J).2 k0 _ hget)) hl hkc hks
  rw [z_cell_l hT, z_u_updL]
theorem v_arraylength (E : z_E y cc nL ret d K) {a n t : Nat} {v : Int32} (hd : decode cc pc = .ok (.arraylength, 1)) (hT : h.2.1 a = (t, n)) (h10 : 10 ≤ t) (h14 : t < 14) (hv : nI n = v) (k : z_V K (pc + 1) ls (.int v :: st) h I J kc ks) : z_V K pc ls (.ref a :: st) h I J kc ks := by
  obtain ⟨⟨p, l, e, R, s, m, args, below, meth, c⟩, Qf, G, mc, ms⟩ := K
  obtain ⟨hx, hb, hml, hr, hlocks, hin, hown, hts, hK, hSt, hbase, ht0, hRc, hRs, hfr, hlo⟩ := E
  intro H locs la hP hS hl hkc hks
  obtain ⟨k0, rfl, hk0, had, hget⟩ := z_place (a := a) hP (by rw [hT]; show t < 98; omega)
  rcases (show t = 10 ∨ t = 11 ∨ t = 12 ∨ t = 13 by omega) with rfl | rfl | rfl | rfl
  · rw [z_cell_i hT] at hget
    exact va_alen hx hb hK hP.1 k0 0 hget rfl hv hd (k H locs la hP hS hl hkc hks)
  · rw [z_cell_l hT] at hget
    exact va_alen hx hb hK hP.1 k0 1 hget rfl hv hd (k H locs la hP hS hl hkc hks)
  · rw [z_cell_z hT] at hget
    exact va_alen hx hb hK hP.1 k0 2 hget rfl hv hd (k H locs la hP hS hl hkc hks)
  · rw [z_cell_q hT] at hget
    exact va_alen hx hb hK hP.1 k0 3 hget rfl hv hd (k H locs la hP hS hl hkc hks)
/-- the length of the static empty array -/
theorem v_arraylength0 (E : z_E y cc nL ret d K) (hd : decode cc pc = .ok (.arraylength, 1)) (k : z_V K (pc + 1) ls (.int 0 :: st) h I J kc ks) : z_V K pc ls (.ref 0 :: st) h I J kc ks := by
  obtain ⟨⟨p, l, e, R, s, m, args, below, meth, c⟩, Qf, G, mc, ms⟩ := K
  obtain ⟨hx, hb, hml, hr, hlocks, hin, hown, hts, hK, hSt, hbase, ht0, hRc, hRs, hfr, hlo⟩ := E
  intro H locs la hP hS hl hkc hks
  exact va_tlen hx hb hSt.2.2 hS rfl hd (k H locs la hP hS hl hkc hks)
theorem v_getstatic0 (E : z_E y cc nL ret d K) {idx : Nat} (hd : decode cc pc = .ok (.getstatic idx, 3)) (hf : Cond.fieldLink y.cls idx "java/util/ArrayList" "DEFAULTCAPACITY_EMPTY_ELEMENTDATA" "[Ljava/lang/Object;" ∈ z_tbl) (k : z_V K (pc + 3) ls (.ref 0 :: st) h I J kc ks) : z_V K pc ls st h I J kc ks := by
  obtain ⟨⟨p, l, e, R, s, m, args, below, meth, c⟩, Qf, G, mc, ms⟩ := K
  obtain ⟨hx, hb, hml, hr, hlocks, hin, hown, hts, hK, hSt, hbase, ht0, hRc, hRs, hfr, hlo⟩ := E
  intro H locs la hP hS hl hkc hks
  exact va_gets hx hb hSt.2.1 hS hown (hts _ hf) (fun _ h9 => h9) hd (k H locs la hP hS hl hkc hks)
theorem z_ad_inj {G : zG} (h0 : G.2.2.1 < G.2.2.2) {a b : Nat} (h : z_ad G a = z_ad G b) : a = b := by
  cases a with
  | zero =>
    cases b with
    | zero => rfl
    | succ b => exact absurd h (by show ¬ G.2.2.1 = G.2.2.2 + b; omega)
  | succ a =>
    cases b with
    | zero => exact absurd h (by show ¬ G.2.2.2 + a = G.2.2.1; omega)
    | succ b => have h9 : G.2.2.2 + a = G.2.2.2 + b := h; omega
theorem v_acmp_eq (E : z_E y cc nL ret d K) {a b : Nat} {off : Int} {tgt : Nat} (hd : decode cc pc = .ok (.if_acmp .eq off, 3)) (ht : (pc : Int) + off = (tgt : Int)) (kt : a = b → z_V K tgt ls st h I J kc ks) (kf : ¬ a = b → z_V K (pc + 3) ls st h I J kc ks) : z_V K pc ls (.ref b :: .ref a :: st) h I J kc ks := by
  obtain ⟨⟨p, l, e, R, s, m, args, below, meth, c⟩, Qf, G, mc, ms⟩ := K
  obtain ⟨hx, hb, hml, hr, hlocks, hin, hown, hts, hK, hSt, hbase, ht0, hRc, hRs, hfr, hlo⟩ := E
  intro H locs la hP hS hl hkc hks
  exact lv_acmp_eq (rx := some (z_ad G a)) (ry := some (z_ad G b)) hx hb hd ht (fun q => kt (z_ad_inj ht0 (Option.some.inj q)) H locs la hP hS hl hkc hks) (fun q => kf (fun h9 => q (by rw [h9])) H locs la hP hS hl hkc hks)
theorem v_checkcast (E : z_E y cc nL ret d K) {idx a ci : Nat} (hd : decode cc pc = .ok (.checkcast idx, 3)) (hc : Cond.classLink y.cls idx (z_R ci) ∈ z_tbl) (hci : ci < 6) (hT : (h.2.1 a).1 = ci) (k : z_V K (pc + 3) ls (.ref a :: st) h I J kc ks) : z_V K pc ls (.ref a :: st) h I J kc ks := by
  obtain ⟨⟨p, l, e, R, s, m, args, below, meth, c⟩, Qf, G, mc, ms⟩ := K
  obtain ⟨hx, hb, hml, hr, hlocks, hin, hown, hts, hK, hSt, hbase, ht0, hRc, hRs, hfr, hlo⟩ := E
  intro H locs la hP hS hl hkc hks
  obtain ⟨k0, rfl, hk0, had, hget⟩ := z_place (a := a) hP (by rw [hT]; omega)
  rw [z_cell_o hT hci] at hget
  exact va_castS hx hb hown (hts _ hc) (hK.1 ci _ (z_cl hci)).2 (va_recv hK hP.1 (z_cl hci) hget) hd (k H locs la hP hS hl hkc hks)
end ZMEM
end
section
/-! ROWS: making, copying, calling, returning -/
def z_new (h : zH) (t len : Nat) : zH := (h.1 + 1, fun a => if a = h.1 + 1 then (t, len) else h.2.1 a, fun a => if a = h.1 + 1 then (fun _ => none) else h.2.2 a)
def z_zI (h : zH) (I : zI) : zI := z_w I (h.1 + 1) (fun _ => 0)
def z_zJ (h : zH) (J : zJ) : zJ := z_w J (h.1 + 1) (fun _ => 0)
theorem z_new_cell {G : zG} {h : zH} {I : zI} {J : zJ} {t len a : Nat} (ha : a ≤ h.1) : z_cell G (z_new h t len) (z_zI h I) (z_zJ h J) a = z_cell G h I J a := by
  have hne : a ≠ h.1 + 1 := by omega
  exact z_cell_eq (if_neg hne) (if_neg hne) (z_w_row hne) (z_w_row hne)
theorem z_P.new {G : zG} {h : zH} {I : zI} {J : zJ} {H H1 : Heap} {t len : Nat} {e : va_E} (ht : t < 98) (hP : z_P G h I J H) (he : z_cell G (z_new h t len) (z_zI h I) (z_zJ h J) (h.1 + 1) = e) (h1 : va_at G.1 vwCl (G.2.2.2 + h.1, e) H1) (hz : H1.size = G.2.2.2 + h.1 + 1) (ho : ∀ q, q < G.2.2.2 + h.1 → H1[q]? = H[q]?) : z_P G (z_new h t len) (z_zI h I) (z_zJ h J) H1 := by
  have hk : ∀ (k : Nat) (x : Nat × va_E), (z_ws G h I J)[k]? = some x → H1[x.1]? = H[x.1]? := fun k x hx => ho x.1 (by rw [← hP.2.1]; exact (hP.1 k x hx).lt)
  have h2 : va_P G.1 vwCl (z_ws G h I J ++ [(G.2.2.2 + h.1, e)]) H1 := by
    refine (hP.1.kept hk).app (fun k x hx => ?_)
    have hz : k < 1 := (List.getElem?_eq_some_iff.mp hx).1
    rw [show k = 0 by omega] at hx
    cases hx
    exact h1
  rw [← he] at h2
  rw [z_ws_push (h' := z_new h t len) rfl (fun a ha => z_new_cell ha)] at h2
  refine ⟨h2, by rw [hz]; rfl, fun a ha => ?_⟩
  have hne : a ≠ h.1 + 1 := by
    rcases ha with ha | ha
    · omega
    · have : h.1 + 1 < a := ha
      omega
  show 98 < ((if a = h.1 + 1 then (t, len) else h.2.1 a) : Nat × Nat).1
  rw [if_neg hne]
  refine hP.2.2 a ?_
  rcases ha with ha | ha
  · exact Or.inl ha
  · have : h.1 + 1 < a := ha
    exact Or.inr (by omega)
theorem z_put_S {A : Nat → Prop} {H0 H H1 : Heap} {locs : List Loc} {n : Nat} (hS : va_S A H0 H locs) (hn : H.size = n) (hz : H1.size = n + 1) (ho : ∀ q, q < n → H1[q]? = H[q]?) : va_S A H0 H1 locs :=
  ⟨Nat.le_trans hS.1 (by omega), fun x h1 h2 => (ho x (by rw [← hn]; exact Nat.lt_of_lt_of_le h1 hS.1)).trans (hS.2.1 x h1 h2), hS.2.2⟩
section ZNEW
variable {y : MethodName} {cc : ByteArray} {nL d : Nat} {ret : Option FieldType} {K : zK} {pc : Nat} {ls : zL} {st : List Value} {h : zH} {I : zI} {J : zJ} {kc ks : Nat}
theorem v_newI (E : z_E y cc nL ret d K) {n : Int32} {N : Nat} (hd : decode cc pc = .ok (.newarray .int, 2)) (hN : n = nI N) (hb9 : N ≤ 100000) (k : z_V K (pc + 2) ls (.ref (h.1 + 1) :: st) (z_new h 10 N) (z_zI h I) (z_zJ h J) kc ks) : z_V K pc ls (.int n :: st) h I J (kc + 1) (ks + N) := by
  obtain ⟨⟨p, l, e, R, s, m, args, below, meth, c⟩, Qf, G, mc, ms⟩ := K
  obtain ⟨hx, hb, hml, hr, hlocks, hin, hown, hts, hK, hSt, hbase, ht0, hRc, hRs, hfr, hlo⟩ := E
  intro H locs la hP hS hl hkc hks
  subst hN
  have hby : N * componentBytes (newarray.typeOf .int) ≤ 536870912 := Nat.le_trans (Nat.mul_le_mul_left N (show componentBytes (newarray.typeOf .int) ≤ 8 by decide)) (by omega)
  have har : (Cond.arrayClass (newarray.typeOf .int)).before args s = true := hts (.arrayClass .int) (z_mem (by decide +kernel) rfl)
  have h9 : s.vm.findClass ("[" ++ (FieldType.int).toString) = some G.2.1.1 := (hK.2 0 (G.2.1.1, .int) rfl).2
  refine va_newaK (atype := .int) (N := N) (h := G.2.2.2 + h.1) hx hb har rfl hd rfl (nI_pos (by omega)) (nI_clamp (by omega)) hby (by rw [hRc]; omega) (by rw [hRs]; omega) hP.2.1 fun H1 cA e1 z1 o1 hAr hNm => ?_
  have hc : cA = G.2.1.1 := Option.some.inj (hNm.symm.trans h9)
  subst hc
  have hc1 : mc - (kc + 1) + 1 = mc - kc := by omega
  have hs1 : ms - (ks + N) + N = ms - ks := by omega
  rw [hc1, hs1]
  refine k H1 locs la (hP.new (by omega) (z_cell_i (n := N) (by simp [z_new])) ?_ z1 o1) (z_put_S hS hP.2.1 z1 o1) hl (by omega) (by omega)
  show H1[_]? = some (vp_cell _ _)
  rw [vp_cell_i, e1]
  congr 2
  funext j
  simp [z_zI, z_w]
  rfl
theorem v_newJ (E : z_E y cc nL ret d K) {n : Int32} {N : Nat} (hd : decode cc pc = .ok (.newarray .long, 2)) (hN : n = nI N) (hb9 : N ≤ 100000) (k : z_V K (pc + 2) ls (.ref (h.1 + 1) :: st) (z_new h 11 N) (z_zI h I) (z_zJ h J) kc ks) : z_V K pc ls (.int n :: st) h I J (kc + 1) (ks + N) := by
  obtain ⟨⟨p, l, e, R, s, m, args, below, meth, c⟩, Qf, G, mc, ms⟩ := K
  obtain ⟨hx, hb, hml, hr, hlocks, hin, hown, hts, hK, hSt, hbase, ht0, hRc, hRs, hfr, hlo⟩ := E
  intro H locs la hP hS hl hkc hks
  subst hN
  have hby : N * componentBytes (newarray.typeOf .long) ≤ 536870912 := Nat.le_trans (Nat.mul_le_mul_left N (show componentBytes (newarray.typeOf .long) ≤ 8 by decide)) (by omega)
  have har : (Cond.arrayClass (newarray.typeOf .long)).before args s = true := hts (.arrayClass .long) (z_mem (by decide +kernel) rfl)
  have h9 : s.vm.findClass ("[" ++ (FieldType.long).toString) = some G.2.1.2.1 := (hK.2 1 (G.2.1.2.1, .long) rfl).2
  refine va_newaK (atype := .long) (N := N) (h := G.2.2.2 + h.1) hx hb har rfl hd rfl (nI_pos (by omega)) (nI_clamp (by omega)) hby (by rw [hRc]; omega) (by rw [hRs]; omega) hP.2.1 fun H1 cA e1 z1 o1 hAr hNm => ?_
  have hc : cA = G.2.1.2.1 := Option.some.inj (hNm.symm.trans h9)
  subst hc
  have hc1 : mc - (kc + 1) + 1 = mc - kc := by omega
  have hs1 : ms - (ks + N) + N = ms - ks := by omega
  rw [hc1, hs1]
  refine k H1 locs la (hP.new (by omega) (z_cell_l (n := N) (by simp [z_new])) ?_ z1 o1) (z_put_S hS hP.2.1 z1 o1) hl (by omega) (by omega)
  show H1[_]? = some (vp_cell _ _)
  rw [vp_cell_l, e1]
  congr 2
  funext j
  simp [z_zJ, z_w]
  rfl
theorem v_newZ (E : z_E y cc nL ret d K) {n : Int32} {N : Nat} (hd : decode cc pc = .ok (.newarray .boolean, 2)) (hN : n = nI N) (hb9 : N ≤ 100000) (k : z_V K (pc + 2) ls (.ref (h.1 + 1) :: st) (z_new h 12 N) (z_zI h I) (z_zJ h J) kc ks) : z_V K pc ls (.int n :: st) h I J (kc + 1) (ks + N) := by
  obtain ⟨⟨p, l, e, R, s, m, args, below, meth, c⟩, Qf, G, mc, ms⟩ := K
  obtain ⟨hx, hb, hml, hr, hlocks, hin, hown, hts, hK, hSt, hbase, ht0, hRc, hRs, hfr, hlo⟩ := E
  intro H locs la hP hS hl hkc hks
  subst hN
  have hby : N * componentBytes (newarray.typeOf .boolean) ≤ 536870912 := Nat.le_trans (Nat.mul_le_mul_left N (show componentBytes (newarray.typeOf .boolean) ≤ 8 by decide)) (by omega)
  have har : (Cond.arrayClass (newarray.typeOf .boolean)).before args s = true := hts (.arrayClass .boolean) (z_mem (by decide +kernel) rfl)
  have h9 : s.vm.findClass ("[" ++ (FieldType.boolean).toString) = some G.2.1.2.2.1 := (hK.2 2 (G.2.1.2.2.1, .boolean) rfl).2
  refine va_newaK (atype := .boolean) (N := N) (h := G.2.2.2 + h.1) hx hb har rfl hd rfl (nI_pos (by omega)) (nI_clamp (by omega)) hby (by rw [hRc]; omega) (by rw [hRs]; omega) hP.2.1 fun H1 cA e1 z1 o1 hAr hNm => ?_
  have hc : cA = G.2.1.2.2.1 := Option.some.inj (hNm.symm.trans h9)
  subst hc
  have hc1 : mc - (kc + 1) + 1 = mc - kc := by omega
  have hs1 : ms - (ks + N) + N = ms - ks := by omega
  rw [hc1, hs1]
  refine k H1 locs la (hP.new (by omega) (z_cell_z (n := N) (by simp [z_new])) ?_ z1 o1) (z_put_S hS hP.2.1 z1 o1) hl (by omega) (by omega)
  show H1[_]? = some (vp_cell _ _)
  rw [vp_cell_i, e1]
  congr 2
  funext j
  simp [z_zI, z_w]
  rfl
theorem v_newQ (E : z_E y cc nL ret d K) {n : Int32} {N idx : Nat} (hd : decode cc pc = .ok (.anewarray idx, 3)) (hc : Cond.classLink y.cls idx "java/lang/Object" ∈ z_tbl) (hN : n = nI N) (hb9 : N ≤ 100000) (k : z_V K (pc + 3) ls (.ref (h.1 + 1) :: st) (z_new h 13 N) (z_zI h I) (z_zJ h J) kc ks) : z_V K pc ls (.int n :: st) h I J (kc + 1) (ks + N) := by
  obtain ⟨⟨p, l, e, R, s, m, args, below, meth, c⟩, Qf, G, mc, ms⟩ := K
  obtain ⟨hx, hb, hml, hr, hlocks, hin, hown, hts, hK, hSt, hbase, ht0, hRc, hRs, hfr, hlo⟩ := E
  intro H locs la hP hS hl hkc hks
  have hN9 : n.toNatClampNeg = N := by rw [hN]; exact nI_clamp (by omega)
  refine W.anew hx hb hown (hts _ hc) hSt.1.2.2.2.use rfl hd rfl (by rw [hN]; exact nI_pos (by omega)) (by rw [hN9]; omega) (by rw [hRc]; omega) (by rw [hRs, hN9]; omega) fun cA kA comp f1 f2 f3 f4 => ?_
  rw [hN9]
  generalize hH1 : H.push ({ cls := cA, slots := Array.replicate N .null, vm := .none } : Cell) = H1
  have z1 : H1.size = G.2.2.2 + h.1 + 1 := by rw [← hH1, Array.size_push, hP.2.1]
  have e1 : H1[G.2.2.2 + h.1]? = some (arrV cA N (fun _ => .null)) := by rw [← hH1, ← hP.2.1, Array.getElem?_push_size, ← arrV_new]
  have o1 : ∀ q : Nat, q < G.2.2.2 + h.1 → H1[q]? = H[q]? := fun q hq => by rw [← hH1, Array.getElem?_push, if_neg (by rw [hP.2.1]; omega)]
  obtain ⟨kA2, comp2, -, -, -, hnm2⟩ := (hK.2 3 _ rfl).2
  have hc : cA = G.2.1.2.2.2 := Option.some.inj (f1.symm.trans hnm2)
  subst hc
  have hc1 : mc - (kc + 1) + 1 = mc - kc := by omega
  have hs1 : ms - (ks + N) + N = ms - ks := by omega
  rw [hc1, hs1, hP.2.1]
  refine k H1 locs la (hP.new (by omega) (z_cell_q (n := N) (by simp [z_new])) ?_ z1 o1) (z_put_S hS hP.2.1 z1 o1) hl (by omega) (by omega)
  show H1[_]? = some (vp_cell _ _)
  rw [vp_cell_q, e1]
  congr 2
  funext j
  simp [z_new]
  rfl
theorem z_def {ty : FieldType} {G : zG} {h : zH} {I : zI} {J : zJ} {j t len : Nat} (hk : ty = .int ∨ ty = .long ∨ ty = .boolean ∨ z_kd ty = 2) : defaultValue ty = z_fv G (z_new h t len).2.2 (z_zI h I) (z_zJ h J) (h.1 + 1) j ty := by
  rcases hk with rfl | rfl | rfl | hk
  · simp [z_fv, z_zI, z_w]
    rfl
  · simp [z_fv, z_zJ, z_w]
    rfl
  · simp [z_fv, z_zI, z_w]
    rfl
  · rw [z_fv_2 hk]
    have : (z_new h t len).2.2 (h.1 + 1) j = none := by simp [z_new]
    rw [this]
    cases ty <;> first | rfl | (simp [z_kd] at hk)
theorem v_new (E : z_E y cc nL ret d K) {idx ci : Nat} (hd : decode cc pc = .ok (.new idx, 3)) (hci : ci < 6) (hc : Cond.classLink y.cls idx (z_R ci) ∈ z_tbl) (hi : Cond.instantiable (z_R ci) (z_N ci) ∈ z_tbl) (hini : Cond.initialized (z_R ci) ∈ z_tbl) (hty : ∀ j, j < z_N ci → (z_ty ci j = .int ∨ z_ty ci j = .long ∨ z_ty ci j = .boolean ∨ z_kd (z_ty ci j) = 2)) (k : z_V K (pc + 3) ls (.ref (h.1 + 1) :: st) (z_new h ci 0) (z_zI h I) (z_zJ h J) kc ks) : z_V K pc ls st h I J (kc + 1) (ks + z_N ci) := by
  obtain ⟨⟨p, l, e, R, s, m, args, below, meth, c⟩, Qf, G, mc, ms⟩ := K
  obtain ⟨hx, hb, hml, hr, hlocks, hin, hown, hts, hK, hSt, hbase, ht0, hRc, hRs, hfr, hlo⟩ := E
  intro H locs la hP hS hl hkc hks
  have hKn := hK.1 ci _ (z_cl hci)
  refine W.newcK (h := G.2.2.2 + h.1) hx hb hown (hts _ hc) (hts _ hi) (hts _ hini) rfl hd (by rw [hRc]; omega) (by rw [hRs]; omega) hKn.2.1 hP.2.1 fun H1 kC hkC e1 z1 o1 => ?_
  have hc1 : mc - (kc + 1) + 1 = mc - kc := by omega
  have hs1 : ms - (ks + z_N ci) + z_N ci = ms - ks := by omega
  rw [hc1, hs1]
  refine k H1 locs la (hP.new (by omega) (z_cell_o (ci := ci) (by simp [z_new]) hci) ?_ z1 o1) (z_put_S hS hP.2.1 z1 o1) hl (by omega) (by omega)
  refine ⟨_, z_cl hci, (u_born (z_ty ci) hts (z_uin hci) hKn hkC e1 (z_tyok hci)).to fun j hj => ?_⟩
  show defaultValue (z_ty ci j) = vp_V _ j
  unfold vp_V
  rw [List.getD_eq_getElem?_getD, z_fs_get hj]
  exact z_def (hty j hj)
theorem v_aastore (E : z_E y cc nL ret d K) {a n j b : Nat} {i : Int32} (hd : decode cc pc = .ok (.aastore, 1)) (hT : h.2.1 a = (13, n)) (hTb : (h.2.1 b).1 = 2) (hi : i = nI j) (hj : j < n) (hn : n < 2 ^ 31) (k : z_V K (pc + 1) ls st (h.1, h.2.1, z_u h.2.2 a j (some b)) I J kc ks) : z_V K pc ls (.ref b :: .int i :: .ref a :: st) h I J kc ks := by
  obtain ⟨⟨p, l, e, R, s, m, args, below, meth, c⟩, Qf, G, mc, ms⟩ := K
  obtain ⟨hx, hb, hml, hr, hlocks, hin, hown, hts, hK, hSt, hbase, ht0, hRc, hRs, hfr, hlo⟩ := E
  intro H locs la hP hS hl hkc hks
  have hci : 2 < 6 := by decide
  obtain ⟨kb, rfl, hkb, hadb, hgetb⟩ := z_place (a := b) hP (by rw [hTb]; omega)
  rw [z_cell_o hTb hci] at hgetb
  obtain ⟨k0, rfl, hk0, had, hget⟩ := z_place (a := a) hP (by rw [hT]; exact Nat.le_of_ble_eq_true rfl)
  rw [z_cell_q hT] at hget
  obtain ⟨h1, h2⟩ := z_ix hi hj hn
  have hlt : i.toNatClampNeg < n := by rw [h2]; exact hj
  have h0 : ¬ i < 0 := fun q => h1 (Or.inl q)
  obtain ⟨r', hr', cellV, g1, g2, g3, -⟩ := hP.1 kb _ hgetb
  have hcls := (hK.1 2 _ (z_cl hci)).2
  obtain ⟨kA, comp, k1, k2, k3, -⟩ := (hK.2 3 _ rfl).2
  obtain ⟨kE, hkE, -⟩ := Vm.findClass_spec k3
  obtain ⟨c0, t1, f1, f2, f3⟩ := Cond.castable_spec (va_Nw.use (A := args) rfl hSt.1.1)
  cases hcls.1.symm.trans f1
  cases k3.symm.trans f2
  obtain ⟨kC, hkC, -⟩ := hcls.2
  refine W.aast hx hb (hP.1 k0 _ hget) (fun q h => by cases h) (fun h => by cases h) k1 k2 rfl hkE ⟨h0, by show _ < (arrV _ _ _).slots.size; rw [arrV_size]; exact hlt⟩ g1 (fun q h => by rw [g3] at h; cases h) (by rw [g2]; exact hkC) (by rw [g2]; exact f3) rfl rfl hd fun H1 e z oq => ?_
  have hA : va_at G.1 vwCl (z_ad G (k0 + 1), .inl (G.2.1.2.2.2, n, .inr (.inr (.inr (.inr (fun q => (z_u h.2.2 (k0 + 1) j (some (kb + 1)) (k0 + 1) q).map (z_ad G))))))) H1 := by
    show H1[z_ad G (k0 + 1)]? = some (vp_cell _ _)
    rw [e]
    rw [vp_cell_q, vp_cell_q, arrV_store, h2]
    congr 2
    funext q
    by_cases hq : q = j
    · subst hq
      simp [updV, z_u, va_rf]
    · simp [updV, z_u, hq]
  refine k H1 _ la (hP.put (h' := (h.1, h.2.1, z_u h.2.2 (k0 + 1) j (some (kb + 1)))) hk0 rfl (fun _ => rfl) (fun b hb => z_cell_eq rfl (z_u_row hb) rfl rfl) ?_ (hP.1.set (z_D G h I J) hget hA oq) z) (hS.put z oq ((z_D G h I J).2 k0 _ hget)) hl hkc hks
  rw [z_cell_q (h := (h.1, h.2.1, z_u h.2.2 (k0 + 1) j (some (kb + 1)))) hT]
/-- Object's constructor -/
theorem v_objInit (E : z_E y cc nL ret (d + 1) K) {idx a : Nat} (hd : decode cc pc = .ok (.invokespecial idx, 3)) (hlk : Cond.methodLink y.cls idx objectInit ∈ z_tbl) (hst : (st.map fun v => v.category).sum ≤ 8) (k : z_V K (pc + 3) ls st h I J kc ks) : z_V K pc ls (.ref a :: st) h I J kc ks := by
  obtain ⟨⟨p, l, e, R, s, m, args, below, meth, c⟩, Qf, G, mc, ms⟩ := K
  obtain ⟨hx, hb, hml, hr, hlocks, hin, hown, hts, hK, hSt, hbase, ht0, hRc, hRs, hfr, hlo⟩ := E
  intro H locs la hP hS hl hkc hks
  have hcat : ((st.map (z_cv G)).map fun v => v.category) = st.map fun v => v.category := by
    rw [List.map_map]
    congr 1
    funext v
    exact z_cv_cat G v
  refine W.objInit hx hb hown (hts _ hlk) (hts (.instanceMethod objectInit) (z_mem (by decide +kernel) rfl)) (hts (.code objectInit ⟨#[0xb1]⟩ 1 none) (z_mem (by decide +kernel) rfl)) rfl hl.1 rfl hd (by omega) ?_ (k H locs la hP hS hl hkc hks)
  show 2 * 0 + _ + 12 ≤ R.locals
  rw [hcat]
  omega
end ZNEW
end
section
/-! ROWS: calls by contract, returns, the copying of a whole row -/
theorem z_good : ∀ w ∈ z_tbl, goodWord w = true := fun _ h => (List.mem_filter.mp h).2
theorem z_gin {ws : List Cond} (h : ∀ w ∈ ws, w ∈ z_tbl) : GoodIn z_tbl ws := fun w hw => ⟨h w hw, good_of_word (z_good w (h w hw))⟩
def z_plain (y : MethodName) (np : Nat) : Prop := y.cls ≠ "java/lang/invoke/MethodHandle" ∧ y.cls ≠ "java/lang/invoke/VarHandle" ∧ (parseMethodDescriptor y.desc).map (fun d => d.parameters.length) = some np
/-- what the tables say of a method that is called on an object of class ci -/
def z_YV (y : MethodName) (cc : ByteArray) (nL : Nat) (ret : Option FieldType) (np ci : Nat) : Prop := Cond.code y cc nL ret ∈ z_tbl ∧ Cond.instanceMethod y ∈ z_tbl ∧ Cond.selects y.cls y y ∈ z_tbl ∧ Cond.initialized y.cls ∈ z_tbl ∧ z_plain y np ∧ nL ≤ 45 ∧ ci < 6 ∧ z_R ci = y.cls
def z_YS (y : MethodName) (cc : ByteArray) (nL : Nat) (ret : Option FieldType) (np : Nat) : Prop := Cond.code y cc nL ret ∈ z_tbl ∧ Cond.static y ∈ z_tbl ∧ Cond.initialized y.cls ∈ z_tbl ∧ z_plain y np ∧ nL ≤ 45
def z_YI (y : MethodName) (cc : ByteArray) (nL : Nat) (np : Nat) : Prop := Cond.code y cc nL none ∈ z_tbl ∧ Cond.instanceMethod y ∈ z_tbl ∧ Cond.initialized y.cls ∈ z_tbl ∧ y.name = "<init>" ∧ z_plain y np ∧ nL ≤ 45
theorem z_wd_in {y : MethodName} {cc : ByteArray} {nL : Nat} {ret : Option FieldType} (h : Cond.code y cc nL ret ∈ z_tbl) : ∀ w ∈ z_wd y cc nL ret, w ∈ z_tbl := fun w hw => by
  rcases List.mem_cons.mp hw with rfl | hw
  · exact h
  · exact hw
section ZCALL
variable {p : Program} {l : Launch} {e : Env} {R : Room} {s : State} {m : MethodId} {args : Array Value} {below : List Frame} {meth : Method} {c : Code} {H : Heap} {locs : List Loc} {cells slots : Nat} {Qf : State → Prop}
theorem z_call {G : zG} {Q : zQ} {a : Array Value} {pc c1 s1 : Nat} {la : Array Slot} {st0 rest : List Value} (hr : va_Run p l e R s m args below meth c H locs cells slots c1 s1 (F0 m pc la st0) rest (z_Qc G Q a) (z_A G)) (hS : va_S (z_A G) s.heap H locs)
    (kk : ∀ (r : Option Value) (h : zH) (I : zI) (J : zJ) (H1 : Heap) (locs1 : List Loc), Q r h I J → z_P G h I J H1 → va_S (z_A G) s.heap H1 locs1 → W p l e R s m args below meth c H1 locs1 (cells + c1) (slots + s1) Qf (F0 m (pc + 3) la ((r.map (z_cv G)).toList ++ rest))) : W p l e R s m args below meth c H locs cells slots Qf (F0 m pc la st0) := by
  intro T hT X
  obtain ⟨v, st₀, t, T', L, h0, X', hL, e1, e2, ⟨⟨r, h, I, J, hv, hq, hRep⟩, hz, hk⟩, st⟩ := hr T hT X
  cases hv
  rw [h0] at hz hk
  obtain ⟨t2, a1, b1⟩ := kk r h I J T'.heap (locs ++ L) hq (by rw [e1]; exact hRep.1)
    ⟨Nat.le_trans hS.1 (by rw [e1]; exact hz), fun q h1 h2 => by rw [e1, hk q (Nat.lt_of_lt_of_le h1 hS.1) h2]; exact hS.2.1 q h1 h2, fun q hq => by
      rcases List.mem_append.mp hq with h | h
      · exact hS.2.2 q h
      · exact hL q h⟩ T' rfl X'
  exact ⟨t2, st t2 a1, b1⟩
end ZCALL
theorem z_catsum (G : zG) (st : List Value) : ((st.map (z_cv G)).map fun v => v.category).sum = (st.map fun v => v.category).sum := by
  rw [List.map_map]
  congr 2
  funext v
  exact z_cv_cat G v
theorem z_rep_at {G : zG} {h : zH} {I : zI} {J : zJ} {s : State} {H : Heap} {locs : List Loc} (hP : z_P G h I J H) (hS : va_S (z_A G) s.heap H locs) (hK : va_K G.1 vwCl (z_tys G) s) (hSt : z_St G s s.heap) (ht0 : G.2.2.1 < G.2.2.2) {U : State} (hU : U.heap = H) (hW : s.WarmedH U.vm) : z_Rep G h I J U :=
  ⟨by rw [hU]; exact hP, va_K.moved hW.alike hK, by rw [hU]; exact (hSt.kept (fun a h1 h2 => hS.2.1 a h1 h2)).warm hW, ht0⟩
section ZINV
variable {y : MethodName} {cc : ByteArray} {nL d : Nat} {ret : Option FieldType} {K : zK} {pc : Nat} {ls : zL} {st : List Value} {h : zH} {I : zI} {J : zJ} {kc ks : Nat}
theorem v_callV (E : z_E y cc nL ret (d + 1) K) {idx np ci a c1 s1 : Nat} {y2 : MethodName} {cc2 : ByteArray} {nL2 : Nat} {ret2 : Option FieldType} {As stk : List Value} {Q2 : zQ} (hd : decode cc pc = .ok (.invokevirtual idx, 3)) (hlk : Cond.methodLink y.cls idx y2 ∈ z_tbl) (hY : z_YV y2 cc2 nL2 ret2 np ci) (hM : z_C y2 cc2 nL2 ret2 d (.ref a :: As) h I J c1 s1 Q2) (hT : (h.2.1 a).1 = ci) (hn : As.length = np) (hst : stk = As.reverse ++ .ref a :: st) (hw : (st.map fun v => v.category).sum ≤ 8)
    (k : ∀ (r : Option Value) (h' : zH) (I' : zI) (J' : zJ), Q2 r h' I' J' → z_V K (pc + 3) ls (r.toList ++ st) h' I' J' kc ks) : z_V K pc ls stk h I J (kc + c1) (ks + s1) := by
  obtain ⟨⟨p, l, e, R, s, m, args, below, meth, c⟩, Qf, G, mc, ms⟩ := K
  obtain ⟨hx, hb, hml, hr, hlocks, hin, hown, hts, hK, hSt, hbase, ht0, hRc, hRs, hfr, hlo⟩ := E
  intro H locs la hP hS hl hkc hks
  obtain ⟨y1, y3, y4, y5, y6, y7, hci, hcn⟩ := hY
  obtain ⟨k0, rfl, hk0, had, hget⟩ := z_place (a := a) hP (by rw [hT]; omega)
  rw [z_cell_o hT hci] at hget
  have hrec : ∃ cell : Cell, H[z_ad G (k0 + 1)]? = some cell ∧ cell.vm.isStatics = false ∧ s.vm.findClass y2.cls = some cell.cls := by
    rw [← hcn]
    exact va_recv hK hP.1 (z_cl hci) hget
  have hG : GoodIn z_tbl (wsV y.cls idx y2.cls y2 (z_wd y2 cc2 nL2 ret2)) := z_gin (fun w hw => by
    rcases List.mem_append.mp hw with h | h
    · simp only [List.mem_cons, List.not_mem_nil, or_false] at h
      rcases h with rfl | rfl | rfl | rfl
      · exact hlk
      · exact y3
      · exact y4
      · exact y5
    · exact z_wd_in y1 w h)
  refine z_call (Q := Q2) (va_runV (nL := c.maxLocals) (As := As.map (z_cv G)) (rest := st.map (z_cv G)) (Ts := z_tbl) (C := y2.cls) (n := np) (bytes := cc2) (maxL := nL2) (ret := ret2) ⟨hx, hb, rfl, hown, hts⟩ (hM l G) (cwV np hts hG rfl rfl rfl ⟨rfl, y6⟩ ⟨by show d + 1 ≤ _; exact hfr, by show 8 + (nL2 + 11) + 64 * d ≤ _; omega⟩) ⟨z_blind _ G h I J, hrec, fun U hU hW => ⟨rfl, z_rep_at hP hS hK hSt ht0 hU hW⟩⟩ rfl (by rw [List.length_map]; exact hn) hl.1 (by rw [hst]; simp [z_cv]) (by show 2 * 0 + _ ≤ 8; rw [z_catsum]; omega) hd ⟨by rw [hRc]; omega, by rw [hRs]; omega⟩) hS fun r h' I' J' H1 locs1 hq hP1 hS1 => ?_
  have e1 : mc - (kc + c1) + c1 = mc - kc := by omega
  have e2 : ms - (ks + s1) + s1 = ms - ks := by omega
  rw [e1, e2]
  have := k r h' I' J' hq H1 locs1 la hP1 hS1 hl (by omega) (by omega)
  cases r with
  | none => exact this
  | some v => exact this
theorem v_callI (E : z_E y cc nL ret (d + 1) K) {idx np a c1 s1 : Nat} {y2 : MethodName} {cc2 : ByteArray} {nL2 : Nat} {As stk : List Value} {Q2 : zQ} (hd : decode cc pc = .ok (.invokespecial idx, 3)) (hlk : Cond.methodLink y.cls idx y2 ∈ z_tbl) (hY : z_YI y2 cc2 nL2 np) (hM : z_C y2 cc2 nL2 none d (.ref a :: As) h I J c1 s1 Q2) (hn : As.length = np) (hst : stk = As.reverse ++ .ref a :: st) (hw : (st.map fun v => v.category).sum ≤ 8)
    (k : ∀ (r : Option Value) (h' : zH) (I' : zI) (J' : zJ), Q2 r h' I' J' → z_V K (pc + 3) ls (r.toList ++ st) h' I' J' kc ks) : z_V K pc ls stk h I J (kc + c1) (ks + s1) := by
  obtain ⟨⟨p, l, e, R, s, m, args, below, meth, c⟩, Qf, G, mc, ms⟩ := K
  obtain ⟨hx, hb, hml, hr, hlocks, hin, hown, hts, hK, hSt, hbase, ht0, hRc, hRs, hfr, hlo⟩ := E
  intro H locs la hP hS hl hkc hks
  obtain ⟨y1, y3, y5, y8, y6, y7⟩ := hY
  refine z_call (Q := Q2) (va_runI (nL := c.maxLocals) (b := z_ad G a) (As := As.map (z_cv G)) (rest := st.map (z_cv G)) (Ts := z_tbl) (n := np) (bytes := cc2) (maxL := nL2) ⟨hx, hb, rfl, hown, hts⟩ (hM l G) (cwI np hts (z_gin (z_wd_in y1)) rfl rfl rfl (hts _ y5) (hts _ hlk) (hts _ y3) y8 y6 ⟨by show d + 1 ≤ _; exact hfr, by show 8 + (nL2 + 11) + 64 * d ≤ _; omega⟩) ⟨z_blind _ G h I J, fun U hU hW => ⟨rfl, z_rep_at hP hS hK hSt ht0 hU hW⟩⟩ rfl (by rw [List.length_map]; exact hn) hl.1 (by rw [hst]; simp [z_cv]) (by show 2 * 0 + _ ≤ 8; rw [z_catsum]; omega) hd ⟨by rw [hRc]; omega, by rw [hRs]; omega⟩) hS fun r h' I' J' H1 locs1 hq hP1 hS1 => ?_
  have e1 : mc - (kc + c1) + c1 = mc - kc := by omega
  have e2 : ms - (ks + s1) + s1 = ms - ks := by omega
  rw [e1, e2]
  have := k r h' I' J' hq H1 locs1 la hP1 hS1 hl (by omega) (by omega)
  cases r with
  | none => exact this
  | some v => exact this
theorem v_callS (E : z_E y cc nL ret (d + 1) K) {idx np c1 s1 : Nat} {y2 : MethodName} {cc2 : ByteArray} {nL2 : Nat} {ret2 : Option FieldType} {As stk : List Value} {Q2 : zQ} (hd : decode cc pc = .ok (.invokestatic idx, 3)) (hlk : Cond.methodLink y.cls idx y2 ∈ z_tbl) (hY : z_YS y2 cc2 nL2 ret2 np) (hM : z_C y2 cc2 nL2 ret2 d As h I J c1 s1 Q2) (hn : As.length = np) (hst : stk = As.reverse ++ st) (hw : (st.map fun v => v.category).sum ≤ 8)
    (k : ∀ (r : Option Value) (h' : zH) (I' : zI) (J' : zJ), Q2 r h' I' J' → z_V K (pc + 3) ls (r.toList ++ st) h' I' J' kc ks) : z_V K pc ls stk h I J (kc + c1) (ks + s1) := by
  obtain ⟨⟨p, l, e, R, s, m, args, below, meth, c⟩, Qf, G, mc, ms⟩ := K
  obtain ⟨hx, hb, hml, hr, hlocks, hin, hown, hts, hK, hSt, hbase, ht0, hRc, hRs, hfr, hlo⟩ := E
  intro H locs la hP hS hl hkc hks
  obtain ⟨y1, y3, y5, y6, y7⟩ := hY
  have hG : GoodIn z_tbl (va_wsS y.cls idx y2 (z_wd y2 cc2 nL2 ret2)) := z_gin (fun w hw => by
    rcases List.mem_append.mp hw with h | h
    · simp only [List.mem_cons, List.not_mem_nil, or_false] at h
      rcases h with rfl | rfl | rfl
      · exact hlk
      · exact y3
      · exact y5
    · exact z_wd_in y1 w h)
  refine z_call (Q := Q2) (va_runS (nL := c.maxLocals) (As := As.map (z_cv G)) (rest := st.map (z_cv G)) (Ts := z_tbl) (n := np) (bytes := cc2) (maxL := nL2) (ret := ret2) ⟨hx, hb, rfl, hown, hts⟩ (hM l G) (va_cwS np hts hG rfl rfl rfl y6 ⟨by show d + 1 ≤ _; exact hfr, by show 8 + (nL2 + 11) + 64 * d ≤ _; omega⟩) ⟨z_blind _ G h I J, fun U hU hW => ⟨rfl, z_rep_at hP hS hK hSt ht0 hU hW⟩⟩ rfl (by rw [List.length_map]; exact hn) hl.1 (by rw [hst]; simp) (by show 2 * 0 + _ ≤ 8; rw [z_catsum]; omega) hd ⟨by rw [hRc]; omega, by rw [hRs]; omega⟩) hS fun r h' I' J' H1 locs1 hq hP1 hS1 => ?_
  have e1 : mc - (kc + c1) + c1 = mc - kc := by omega
  have e2 : ms - (ks + s1) + s1 = ms - ks := by omega
  rw [e1, e2]
  have := k r h' I' J' hq H1 locs1 la hP1 hS1 hl (by omega) (by omega)
  cases r with
  | none => exact this
  | some v => exact this
/-- a private static method of a nest mate -/
theorem v_callN (E : z_E y cc nL ret (d + 1) K) {idx np c1 s1 : Nat} {host : String} {y2 : MethodName} {cc2 : ByteArray} {nL2 : Nat} {ret2 : Option FieldType} {As stk : List Value} {Q2 : zQ} (hd : decode cc pc = .ok (.invokestatic idx, 3)) (hlk : ∀ U, z_Nw U → va_Nw (.methodLinkNest y.cls idx y2 host) U) (hY : z_YS y2 cc2 nL2 ret2 np) (hM : z_C y2 cc2 nL2 ret2 d As h I J c1 s1 Q2) (hn : As.length = np) (hst : stk = As.reverse ++ st) (hw : (st.map fun v => v.category).sum ≤ 8)
    (k : ∀ (r : Option Value) (h' : zH) (I' : zI) (J' : zJ), Q2 r h' I' J' → z_V K (pc + 3) ls (r.toList ++ st) h' I' J' kc ks) : z_V K pc ls stk h I J (kc + c1) (ks + s1) := by
  obtain ⟨⟨p, l, e, R, s, m, args, below, meth, c⟩, Qf, G, mc, ms⟩ := K
  obtain ⟨hx, hb, hml, hr, hlocks, hin, hown, hts, hK, hSt, hbase, ht0, hRc, hRs, hfr, hlo⟩ := E
  intro H locs la hP hS hl hkc hks
  obtain ⟨y1, y3, y5, y6, y7⟩ := hY
  have hnw : va_Nw (.methodLinkNest y.cls idx y2 host) s := hlk s hSt.1
  refine z_call (Q := Q2) (va_runSN (nL := c.maxLocals) (As := As.map (z_cv G)) (rest := st.map (z_cv G)) (Ts := z_tbl) (n := np) (bytes := cc2) (maxL := nL2) (ret := ret2) ⟨hx, hb, rfl, hown, hts⟩ (hM l G) ⟨va_cnB np hts (z_gin (z_wd_in y1)) rfl rfl rfl hnw (hts _ y5) y6 ⟨by show d + 1 ≤ _; exact hfr, by show 8 + (nL2 + 11) + 64 * d ≤ _; omega⟩, hts _ y3, trivial⟩ ⟨z_blind _ G h I J, fun U hU hW => ⟨rfl, z_rep_at hP hS hK hSt ht0 hU hW⟩⟩ rfl (by rw [List.length_map]; exact hn) hl.1 (by rw [hst]; simp) (by show 2 * 0 + _ ≤ 8; rw [z_catsum]; omega) hd ⟨by rw [hRc]; omega, by rw [hRs]; omega⟩) hS fun r h' I' J' H1 locs1 hq hP1 hS1 => ?_
  have e1 : mc - (kc + c1) + c1 = mc - kc := by omega
  have e2 : ms - (ks + s1) + s1 = ms - ks := by omega
  rw [e1, e2]
  have := k r h' I' J' hq H1 locs1 la hP1 hS1 hl (by omega) (by omega)
  cases r with
  | none => exact this
  | some v => exact this
/-- the ends of methods -/
theorem v_iret (E : z_E y cc nL (some .int) d K) {Q : zQ} (X : z_X Q K) {v : Int32} (hd : decode cc pc = .ok (.ireturn, 1)) (hq : Q (some (.int v)) h I J) : z_V K pc ls [.int v] h I J kc ks := by
  obtain ⟨⟨p, l, e, R, s, m, args, below, meth, c⟩, Qf, G, mc, ms⟩ := K
  obtain ⟨hx, hb, hml, hr, hlocks, hin, hown, hts, hK, hSt, hbase, ht0, hRc, hRs, hfr, hlo⟩ := E
  intro H locs la hP hS hl hkc hks
  have X : Qf = _ := X
  subst X
  refine W.widen (k := mc) (n := ms) (Nat.sub_le _ _) (Nat.sub_le _ _) ?_
  exact W.iret (v := v) hx hb hr (fun t ht hW => ⟨⟨some (.int v), h, I, J, rfl, hq, z_rep_at hP hS hK hSt ht0 ht hW⟩, hS.F ht⟩) hS.2.2 hd hlocks
theorem v_zret (E : z_E y cc nL (some .boolean) d K) {Q : zQ} (X : z_X Q K) {v : Int32} (hd : decode cc pc = .ok (.ireturn, 1)) (hv : v = 0 ∨ v = 1) (hq : Q (some (.int v)) h I J) : z_V K pc ls [.int v] h I J kc ks := by
  obtain ⟨⟨p, l, e, R, s, m, args, below, meth, c⟩, Qf, G, mc, ms⟩ := K
  obtain ⟨hx, hb, hml, hr, hlocks, hin, hown, hts, hK, hSt, hbase, ht0, hRc, hRs, hfr, hlo⟩ := E
  intro H locs la hP hS hl hkc hks
  have X : Qf = _ := X
  subst X
  refine W.widen (k := mc) (n := ms) (Nat.sub_le _ _) (Nat.sub_le _ _) ?_
  exact W.zret (v := v) hx hb hr (by rcases hv with rfl | rfl <;> decide +kernel) (fun t ht hW => ⟨⟨some (.int v), h, I, J, rfl, hq, z_rep_at hP hS hK hSt ht0 ht hW⟩, hS.F ht⟩) hS.2.2 hd hlocks
theorem v_lret (E : z_E y cc nL (some .long) d K) {Q : zQ} (X : z_X Q K) {v : Int64} (hd : decode cc pc = .ok (.lreturn, 1)) (hq : Q (some (.long v)) h I J) : z_V K pc ls [.long v] h I J kc ks := by
  obtain ⟨⟨p, l, e, R, s, m, args, below, meth, c⟩, Qf, G, mc, ms⟩ := K
  obtain ⟨hx, hb, hml, hr, hlocks, hin, hown, hts, hK, hSt, hbase, ht0, hRc, hRs, hfr, hlo⟩ := E
  intro H locs la hP hS hl hkc hks
  have X : Qf = _ := X
  subst X
  refine W.widen (k := mc) (n := ms) (Nat.sub_le _ _) (Nat.sub_le _ _) ?_
  exact W.lret (v := v) hx hb hr (fun t ht hW => ⟨⟨some (.long v), h, I, J, rfl, hq, z_rep_at hP hS hK hSt ht0 ht hW⟩, hS.F ht⟩) hS.2.2 hd hlocks
theorem v_vret (E : z_E y cc nL none d K) {Q : zQ} (X : z_X Q K) (hd : decode cc pc = .ok (.return_, 1)) (hq : Q none h I J) : z_V K pc ls [] h I J kc ks := by
  obtain ⟨⟨p, l, e, R, s, m, args, below, meth, c⟩, Qf, G, mc, ms⟩ := K
  obtain ⟨hx, hb, hml, hr, hlocks, hin, hown, hts, hK, hSt, hbase, ht0, hRc, hRs, hfr, hlo⟩ := E
  intro H locs la hP hS hl hkc hks
  have X : Qf = _ := X
  subst X
  refine W.widen (k := mc) (n := ms) (Nat.sub_le _ _) (Nat.sub_le _ _) ?_
  exact W.vret hx hb hr (fun t ht hW => ⟨⟨none, h, I, J, rfl, hq, z_rep_at hP hS hK hSt ht0 ht hW⟩, hS.F ht⟩) hS.2.2 hd hlocks
theorem v_aret {rt : FieldType} (E : z_E y cc nL (some rt) d K) (hrt : (∃ n, rt = .object n) ∨ ∃ t, rt = .array t) {Q : zQ} (X : z_X Q K) {b : Nat} (hd : decode cc pc = .ok (.areturn, 1)) (hq : Q (some (.ref b)) h I J) : z_V K pc ls [.ref b] h I J kc ks := by
  obtain ⟨⟨p, l, e, R, s, m, args, below, meth, c⟩, Qf, G, mc, ms⟩ := K
  obtain ⟨hx, hb, hml, hr, hlocks, hin, hown, hts, hK, hSt, hbase, ht0, hRc, hRs, hfr, hlo⟩ := E
  intro H locs la hP hS hl hkc hks
  have X : Qf = _ := X
  subst X
  refine W.widen (k := mc) (n := ms) (Nat.sub_le _ _) (Nat.sub_le _ _) ?_
  exact W.aret (v := .ref (z_ad G b)) hx hb hr hrt (Or.inr ⟨_, rfl⟩) (fun t ht hW => ⟨⟨some (.ref b), h, I, J, rfl, hq, z_rep_at hP hS hK hSt ht0 ht hW⟩, hS.F ht⟩) hS.2.2 hd hlocks
theorem z_nn : ∀ z : Int32, ¬ z < 0 → z.toInt = (z.toNatClampNeg : Int) := by
  intro z hz
  have hz0 : (0 : Int) ≤ z.toInt := by
    have := Int32.not_lt.mp hz
    simpa using Int32.le_iff_toInt_le.mp this
  show z.toInt = ((z.toInt.toNat : Nat) : Int)
  omega
/-- System.arraycopy of a whole row of ints -/
theorem v_copyI (E : z_E y cc nL ret (d + 1) K) {idx a a0 N : Nat} {n : Int32} (hd : decode cc pc = .ok (.invokestatic idx, 3)) (hlk : Cond.methodLink y.cls idx arraycopyName ∈ z_tbl) (hT0 : h.2.1 a0 = (10, N)) (hT : h.2.1 a = (10, N)) (hN : n = nI N) (hb9 : N ≤ 100000) (hw : (st.map fun v => v.category).sum ≤ 8) (k : z_V K (pc + 3) ls st h (z_w I a (va_cpy (I a0) (I a) 0 0 N)) J kc ks) : z_V K pc ls (.int n :: .int 0 :: .ref a :: .int 0 :: .ref a0 :: st) h I J kc ks := by
  obtain ⟨⟨p, l, e, R, s, m, args, below, meth, c⟩, Qf, G, mc, ms⟩ := K
  obtain ⟨hx, hb, hml, hr, hlocks, hin, hown, hts, hK, hSt, hbase, ht0, hRc, hRs, hfr, hlo⟩ := E
  intro H locs la hP hS hl hkc hks
  obtain ⟨q0, rfl, hq0, had0, hget0⟩ := z_place (a := a0) hP (by rw [hT0]; exact Nat.le_of_ble_eq_true rfl)
  rw [z_cell_i hT0] at hget0
  obtain ⟨q1, rfl, hq1, had1, hget1⟩ := z_place (a := a) hP (by rw [hT]; exact Nat.le_of_ble_eq_true rfl)
  rw [z_cell_i hT] at hget1
  have hn0 : ¬ n < 0 := by rw [hN]; exact nI_pos (by omega)
  have hnN : n.toNatClampNeg = N := by rw [hN]; exact nI_clamp (by omega)
  have h00 : ¬ (0 : Int32) < 0 := by decide
  have c00 : (0 : Int32).toNatClampNeg = 0 := by decide
  generalize hf : I (q0 + 1) = f at *
  generalize hg : I (q1 + 1) = g at *
  intro T hT9 X
  have hc0 : H[z_ad G (q0 + 1)]? = some (vp_cell G.2.1.1 (N, .inl f)) := hP.1 q0 _ hget0
  have hc1 : H[z_ad G (q1 + 1)]? = some (vp_cell G.2.1.1 (N, .inl g)) := hP.1 q1 _ hget1
  obtain ⟨-, k0, hk0, cm0, hkk0⟩ := (hK.2 0 _ rfl).1 N (fun j => .int (f j))
  obtain ⟨vm', X', step⟩ := X.arraycopy hx hown (hts _ hlk) (hts _ (z_mem (by decide +kernel) rfl)) (hts _ (z_mem (by decide +kernel) rfl)) (hts _ (z_mem (by decide +kernel) rfl)) (src := z_ad G (q0 + 1)) (dst := z_ad G (q1 + 1)) (cs := vp_cell G.2.1.1 (N, .inl f)) (cd := vp_cell G.2.1.1 (N, .inl g)) (srcPos := 0) (destPos := 0) (n := n) (by rw [hT9]; exact hc0) (by rw [hT9]; exact hc1)
    (fun _ h => by cases h) (fun _ h => by cases h) (fun h => by cases h) (fun h => by cases h) hk0 hk0 hkk0 hkk0 (by simp [refKind]) h00 h00 hn0
    (by rw [z_nn n hn0, hnN]; show ¬ (0 : Int) + _ > ((arrV G.2.1.1 N (fun j => .int (f j))).slots.size : Int); rw [arrV_size]; omega)
    (by rw [z_nn n hn0, hnN]; show ¬ (0 : Int) + _ > ((arrV G.2.1.1 N (fun j => .int (g j))).slots.size : Int); rw [arrV_size]; omega)
    (fun vm₁ _ i hi => by
      rw [hnN] at hi
      have e : (vp_cell G.2.1.1 (N, .inl f)).slots.getD ((0 : Int32).toNatClampNeg + i) .null = .int (f ((0 : Int32).toNatClampNeg + i)) := by
        show (arrV G.2.1.1 N (fun j => .int (f j))).slots.getD _ _ = _
        rw [Array.getD_eq_getD_getElem?, arrV_read _ _ (by rw [c00]; omega)]
        rfl
      refine ⟨?_, ?_⟩
      · rw [e]
        rfl
      · rw [e]
        exact trivial)
    (g := F0 m pc la (.int n :: .int 0 :: .ref (z_ad G (q1 + 1)) :: .int 0 :: .ref (z_ad G (q0 + 1)) :: st.map (z_cv G))) rfl hl.1 (rest := st.map (z_cv G)) rfl (by rw [hb]; exact hd) (by omega) (by
      show 2 * 0 + _ + (nativeFrameWords "java/lang/System" "arraycopy" 5 + 11) ≤ _
      rw [z_catsum]
      have : nativeFrameWords "java/lang/System" "arraycopy" 5 ≤ 40 := by decide +kernel
      omega)
  have e1 : copied (vp_cell G.2.1.1 (N, .inl f)) (vp_cell G.2.1.1 (N, .inl g)) 0 0 n = vp_cell G.2.1.1 (N, .inl (va_cpy f g 0 0 N)) := by
    have := va_copied (fun z => .int z) G.2.1.1 G.2.1.1 (n0 := N) (n1 := N) f g (sp := 0) (dp := 0) (n := N) (by omega)
    rw [← hnN] at this
    rw [hnN] at this
    have e9 : copied (vp_cell G.2.1.1 (N, .inl f)) (vp_cell G.2.1.1 (N, .inl g)) 0 0 n = (arrV G.2.1.1 N (fun j => .int (g j))).storeRun (0 : Int32).toNatClampNeg ((arrV G.2.1.1 N (fun j => .int (f j))).stretch (0 : Int32).toNatClampNeg n.toNatClampNeg) := rfl
    rw [e9, c00, hnN]
    exact this
  rw [e1] at X' step
  have hlt : z_ad G (q1 + 1) < H.size := (Array.getElem?_eq_some_iff.mp hc1).1
  have hheap : ((T.setVm vm').setCell (z_ad G (q1 + 1)) (vp_cell G.2.1.1 (N, .inl (va_cpy f g 0 0 N)))).heap = H.setIfInBounds (z_ad G (q1 + 1)) (vp_cell G.2.1.1 (N, .inl (va_cpy f g 0 0 N))) := by rw [← hT9]; rfl
  have oq : ∀ q : Nat, q ≠ z_ad G (q1 + 1) → (H.setIfInBounds (z_ad G (q1 + 1)) (vp_cell G.2.1.1 (N, .inl (va_cpy f g 0 0 N))))[q]? = H[q]? := fun q hq => by simp [Array.getElem?_setIfInBounds, Ne.symm hq]
  have hP1 := hP.1.set (z_D G h I J) hget1 (e := .inl (G.2.1.1, N, .inl (va_cpy f g 0 0 N))) (H1 := H.setIfInBounds (z_ad G (q1 + 1)) (vp_cell G.2.1.1 (N, .inl (va_cpy f g 0 0 N)))) (show (H.setIfInBounds (z_ad G (q1 + 1)) _)[z_ad G (q1 + 1)]? = some _ by simp [Array.getElem?_setIfInBounds, hlt]) oq
  have hPn : z_P G h (z_w I (q1 + 1) (va_cpy f g 0 0 N)) J (H.setIfInBounds (z_ad G (q1 + 1)) (vp_cell G.2.1.1 (N, .inl (va_cpy f g 0 0 N)))) := by
    refine hP.put hq1 rfl (fun _ => rfl) (fun b hb => z_cell_eq rfl rfl (z_w_row hb) rfl) ?_ hP1 (by simp)
    rw [z_cell_i hT, z_w_same]
  obtain ⟨t, a1, b1⟩ := k _ _ la hPn ⟨by simp; exact hS.1, fun q g1 g2 => by
      rw [oq q (fun e => g2 (by rw [e]; exact (z_D G h I J).2 q1 _ hget1))]
      exact hS.2.1 q g1 g2, fun q hq => by
      rcases List.mem_append.mp hq with h | h
      · exact hS.2.2 q h
      · obtain ⟨z, -, hz⟩ := List.mem_map.mp h
        rw [← hz]
        exact (z_D G _ _ J).2 q1 _ hget1⟩ hl hkc hks _ hheap X'
  exact ⟨t, step t a1, b1⟩
/-- System.arraycopy of a whole row of longs -/
theorem v_copyJ (E : z_E y cc nL ret (d + 1) K) {idx a a0 N : Nat} {n : Int32} (hd : decode cc pc = .ok (.invokestatic idx, 3)) (hlk : Cond.methodLink y.cls idx arraycopyName ∈ z_tbl) (hT0 : h.2.1 a0 = (11, N)) (hT : h.2.1 a = (11, N)) (hN : n = nI N) (hb9 : N ≤ 100000) (hw : (st.map fun v => v.category).sum ≤ 8) (k : z_V K (pc + 3) ls st h I (z_w J a (va_cpy (J a0) (J a) 0 0 N)) kc ks) : z_V K pc ls (.int n :: .int 0 :: .ref a :: .int 0 :: .ref a0 :: st) h I J kc ks := by
  obtain ⟨⟨p, l, e, R, s, m, args, below, meth, c⟩, Qf, G, mc, ms⟩ := K
  obtain ⟨hx, hb, hml, hr, hlocks, hin, hown, hts, hK, hSt, hbase, ht0, hRc, hRs, hfr, hlo⟩ := E
  intro H locs la hP hS hl hkc hks
  obtain ⟨q0, rfl, hq0, had0, hget0⟩ := z_place (a := a0) hP (by rw [hT0]; exact Nat.le_of_ble_eq_true rfl)
  rw [z_cell_l hT0] at hget0
  obtain ⟨q1, rfl, hq1, had1, hget1⟩ := z_place (a := a) hP (by rw [hT]; exact Nat.le_of_ble_eq_true rfl)
  rw [z_cell_l hT] at hget1
  have hn0 : ¬ n < 0 := by rw [hN]; exact nI_pos (by omega)
  have hnN : n.toNatClampNeg = N := by rw [hN]; exact nI_clamp (by omega)
  have h00 : ¬ (0 : Int32) < 0 := by decide
  have c00 : (0 : Int32).toNatClampNeg = 0 := by decide
  generalize hf : J (q0 + 1) = f at *
  generalize hg : J (q1 + 1) = g at *
  intro T hT9 X
  have hc0 : H[z_ad G (q0 + 1)]? = some (vp_cell G.2.1.2.1 (N, .inr (.inl f))) := hP.1 q0 _ hget0
  have hc1 : H[z_ad G (q1 + 1)]? = some (vp_cell G.2.1.2.1 (N, .inr (.inl g))) := hP.1 q1 _ hget1
  obtain ⟨-, k0, hk0, cm0, hkk0⟩ := (hK.2 1 _ rfl).1 N (fun j => .long (f j))
  obtain ⟨vm', X', step⟩ := X.arraycopy hx hown (hts _ hlk) (hts _ (z_mem (by decide +kernel) rfl)) (hts _ (z_mem (by decide +kernel) rfl)) (hts _ (z_mem (by decide +kernel) rfl)) (src := z_ad G (q0 + 1)) (dst := z_ad G (q1 + 1)) (cs := vp_cell G.2.1.2.1 (N, .inr (.inl f))) (cd := vp_cell G.2.1.2.1 (N, .inr (.inl g))) (srcPos := 0) (destPos := 0) (n := n) (by rw [hT9]; exact hc0) (by rw [hT9]; exact hc1)
    (fun _ h => by cases h) (fun _ h => by cases h) (fun h => by cases h) (fun h => by cases h) hk0 hk0 hkk0 hkk0 (by simp [refKind]) h00 h00 hn0
    (by rw [z_nn n hn0, hnN]; show ¬ (0 : Int) + _ > ((arrV G.2.1.2.1 N (fun j => .long (f j))).slots.size : Int); rw [arrV_size]; omega)
    (by rw [z_nn n hn0, hnN]; show ¬ (0 : Int) + _ > ((arrV G.2.1.2.1 N (fun j => .long (g j))).slots.size : Int); rw [arrV_size]; omega)
    (fun vm₁ _ i hi => by
      rw [hnN] at hi
      have e : (vp_cell G.2.1.2.1 (N, .inr (.inl f))).slots.getD ((0 : Int32).toNatClampNeg + i) .null = .long (f ((0 : Int32).toNatClampNeg + i)) := by
        show (arrV G.2.1.2.1 N (fun j => .long (f j))).slots.getD _ _ = _
        rw [Array.getD_eq_getD_getElem?, arrV_read _ _ (by rw [c00]; omega)]
        rfl
      refine ⟨?_, ?_⟩
      · rw [e]
        rfl
      · rw [e]
        exact trivial)
    (g := F0 m pc la (.int n :: .int 0 :: .ref (z_ad G (q1 + 1)) :: .int 0 :: .ref (z_ad G (q0 + 1)) :: st.map (z_cv G))) rfl hl.1 (rest := st.map (z_cv G)) rfl (by rw [hb]; exact hd) (by omega) (by
      show 2 * 0 + _ + (nativeFrameWords "java/lang/System" "arraycopy" 5 + 11) ≤ _
      rw [z_catsum]
      have : nativeFrameWords "java/lang/System" "arraycopy" 5 ≤ 40 := by decide +kernel
      omega)
  have e1 : copied (vp_cell G.2.1.2.1 (N, .inr (.inl f))) (vp_cell G.2.1.2.1 (N, .inr (.inl g))) 0 0 n = vp_cell G.2.1.2.1 (N, .inr (.inl (va_cpy f g 0 0 N))) := by
    have := va_copied (fun z => .long z) G.2.1.2.1 G.2.1.2.1 (n0 := N) (n1 := N) f g (sp := 0) (dp := 0) (n := N) (by omega)
    rw [← hnN] at this
    rw [hnN] at this
    have e9 : copied (vp_cell G.2.1.2.1 (N, .inr (.inl f))) (vp_cell G.2.1.2.1 (N, .inr (.inl g))) 0 0 n = (arrV G.2.1.2.1 N (fun j => .long (g j))).storeRun (0 : Int32).toNatClampNeg ((arrV G.2.1.2.1 N (fun j => .long (f j))).stretch (0 : Int32).toNatClampNeg n.toNatClampNeg) := rfl
    rw [e9, c00, hnN]
    exact this
  rw [e1] at X' step
  have hlt : z_ad G (q1 + 1) < H.size := (Array.getElem?_eq_some_iff.mp hc1).1
  have hheap : ((T.setVm vm').setCell (z_ad G (q1 + 1)) (vp_cell G.2.1.2.1 (N, .inr (.inl (va_cpy f g 0 0 N))))).heap = H.setIfInBounds (z_ad G (q1 + 1)) (vp_cell G.2.1.2.1 (N, .inr (.inl (va_cpy f g 0 0 N)))) := by rw [← hT9]; rfl
  have oq : ∀ q : Nat, q ≠ z_ad G (q1 + 1) → (H.setIfInBounds (z_ad G (q1 + 1)) (vp_cell G.2.1.2.1 (N, .inr (.inl (va_cpy f g 0 0 N)))))[q]? = H[q]? := fun q hq => by simp [Array.getElem?_setIfInBounds, Ne.symm hq]
  have hP1 := hP.1.set (z_D G h I J) hget1 (e := .inl (G.2.1.2.1, N, .inr (.inl (va_cpy f g 0 0 N)))) (H1 := H.setIfInBounds (z_ad G (q1 + 1)) (vp_cell G.2.1.2.1 (N, .inr (.inl (va_cpy f g 0 0 N))))) (show (H.setIfInBounds (z_ad G (q1 + 1)) _)[z_ad G (q1 + 1)]? = some _ by simp [Array.getElem?_setIfInBounds, hlt]) oq
  have hPn : z_P G h I (z_w J (q1 + 1) (va_cpy f g 0 0 N)) (H.setIfInBounds (z_ad G (q1 + 1)) (vp_cell G.2.1.2.1 (N, .inr (.inl (va_cpy f g 0 0 N))))) := by
    refine hP.put hq1 rfl (fun _ => rfl) (fun b hb => z_cell_eq rfl rfl rfl (z_w_row hb)) ?_ hP1 (by simp)
    rw [z_cell_l hT, z_w_same]
  obtain ⟨t, a1, b1⟩ := k _ _ la hPn ⟨by simp; exact hS.1, fun q g1 g2 => by
      rw [oq q (fun e => g2 (by rw [e]; exact (z_D G h I J).2 q1 _ hget1))]
      exact hS.2.1 q g1 g2, fun q hq => by
      rcases List.mem_append.mp hq with h | h
      · exact hS.2.2 q h
      · obtain ⟨z, -, hz⟩ := List.mem_map.mp h
        rw [← hz]
        exact (z_D G _ I _).2 q1 _ hget1⟩ hl hkc hks _ hheap X'
  exact ⟨t, step t a1, b1⟩
end ZINV
end
section
/-! WHAT THE TABLES SAY, fact by fact -/
theorem c_L_7 : Cond.classLink RL 7 (z_R 4) ∈ z_tbl := z_mem (List.mem_append_right _ (List.mem_of_getElem? (i := 17) (by decide +kernel))) rfl
theorem i_n4 : Cond.instantiable (z_R 4) (z_N 4) ∈ z_tbl := z_mem (List.mem_append_right _ (List.mem_of_getElem? (i := 18) (by decide +kernel))) rfl
theorem i_i4 : Cond.initialized (z_R 4) ∈ z_tbl := z_mem (List.mem_append_right _ (List.mem_of_getElem? (i := 1) (by decide +kernel))) rfl
theorem i_t4 : ∀ j, j < z_N 4 → (z_ty 4 j = .int ∨ z_ty 4 j = .long ∨ z_ty 4 j = .boolean ∨ z_kd (z_ty 4 j) = 2) := by decide +kernel
theorem k_L_9 : Cond.methodLink RL 9 yX3_init ∈ z_tbl := z_mem (List.mem_append_right _ (List.mem_of_getElem? (i := 19) (by decide +kernel))) rfl
theorem k_X3_1 : Cond.methodLink RX3 1 objectInit ∈ z_tbl := z_mem (List.mem_append_right _ (List.mem_of_getElem? (i := 22) (by decide +kernel))) rfl
theorem c_X3_13 : Cond.classLink RX3 13 (z_R 0) ∈ z_tbl := z_mem (List.mem_append_right _ (List.mem_of_getElem? (i := 25) (by decide +kernel))) rfl
theorem i_n0 : Cond.instantiable (z_R 0) (z_N 0) ∈ z_tbl := z_mem (List.mem_append_right _ (List.mem_of_getElem? (i := 26) (by decide +kernel))) rfl
theorem i_i0 : Cond.initialized (z_R 0) ∈ z_tbl := z_mem (List.mem_append_right _ (List.mem_of_getElem? (i := 4) (by decide +kernel))) rfl
theorem i_t0 : ∀ j, j < z_N 0 → (z_ty 0 j = .int ∨ z_ty 0 j = .long ∨ z_ty 0 j = .boolean ∨ z_kd (z_ty 0 j) = 2) := by decide +kernel
theorem k_X3_15 : Cond.methodLink RX3 15 yJx4a65c_init_da8c8 ∈ z_tbl := z_mem (List.mem_append_right _ (List.mem_of_getElem? (i := 27) (by decide +kernel))) rfl
theorem k_Jx4a65c_1 : Cond.methodLink RJx4a65c 1 yJxc12de_init_da8c8 ∈ z_tbl := z_mem (List.mem_append_right _ (List.mem_of_getElem? (i := 30) (by decide +kernel))) rfl
theorem k_Jxc12de_1 : Cond.methodLink RJxc12de 1 yJxa1e45_init_da8c8 ∈ z_tbl := z_mem (List.mem_append_right _ (List.mem_of_getElem? (i := 33) (by decide +kernel))) rfl
theorem k_Jxa1e45_1 : Cond.methodLink RJxa1e45 1 objectInit ∈ z_tbl := z_mem (List.mem_append_right _ (List.mem_of_getElem? (i := 36) (by decide +kernel))) rfl
theorem f_Jx4a65c_9 : z_Fl RJx4a65c 9 0 1 := ⟨by decide, by decide, "java/util/ArrayList", z_mem (List.mem_append_right _ (List.mem_of_getElem? (i := 39) (by decide +kernel))) rfl, Or.inl rfl⟩
theorem f_Jx4a65c_48 : z_Fl RJx4a65c 48 0 2 := ⟨by decide, by decide, "java/util/ArrayList", z_mem (List.mem_append_right _ (List.mem_of_getElem? (i := 40) (by decide +kernel))) rfl, Or.inl rfl⟩
theorem f_Jxc12de_7 : z_Fl RJxc12de 7 0 0 := ⟨by decide, by decide, "java/util/AbstractList", z_mem (List.mem_append_right _ (List.mem_of_getElem? (i := 41) (by decide +kernel))) rfl, Or.inl rfl⟩
theorem f_Jx4a65c_63 : z_Fl RJx4a65c 63 0 0 := ⟨by decide, by decide, "java/util/ArrayList", z_mem (List.mem_append_right _ (List.mem_of_getElem? (i := 42) (by decide +kernel))) rfl, Or.inr (z_mem (List.mem_append_right _ (List.mem_of_getElem? (i := 43) (by decide +kernel))) rfl)⟩
theorem c_X3_30 : Cond.classLink RX3 30 (z_R 3) ∈ z_tbl := z_mem (List.mem_append_right _ (List.mem_of_getElem? (i := 52) (by decide +kernel))) rfl
theorem i_n3 : Cond.instantiable (z_R 3) (z_N 3) ∈ z_tbl := z_mem (List.mem_append_right _ (List.mem_of_getElem? (i := 53) (by decide +kernel))) rfl
theorem i_i3 : Cond.initialized (z_R 3) ∈ z_tbl := z_mem (List.mem_append_right _ (List.mem_of_getElem? (i := 5) (by decide +kernel))) rfl
theorem i_t3 : ∀ j, j < z_N 3 → (z_ty 3 j = .int ∨ z_ty 3 j = .long ∨ z_ty 3 j = .boolean ∨ z_kd (z_ty 3 j) = 2) := by decide +kernel
theorem k_X3_32 : Cond.methodLink RX3 32 yX2_init ∈ z_tbl := z_mem (List.mem_append_right _ (List.mem_of_getElem? (i := 54) (by decide +kernel))) rfl
theorem k_X2_3 : Cond.methodLink RX2 3 objectInit ∈ z_tbl := z_mem (List.mem_append_right _ (List.mem_of_getElem? (i := 57) (by decide +kernel))) rfl
theorem f_X2_9 : z_Fl RX2 9 3 0 := ⟨by decide, by decide, "OneCall$Needs", z_mem (List.mem_append_right _ (List.mem_of_getElem? (i := 58) (by decide +kernel))) rfl, Or.inl rfl⟩
theorem f_X3_161 : z_Fl RX3 161 3 0 := ⟨by decide, by decide, "OneCall$Needs", z_mem (List.mem_append_right _ (List.mem_of_getElem? (i := 59) (by decide +kernel))) rfl, Or.inl rfl⟩
theorem f_X2_15 : z_Fl RX2 15 3 1 := ⟨by decide, by decide, "OneCall$Needs", z_mem (List.mem_append_right _ (List.mem_of_getElem? (i := 60) (by decide +kernel))) rfl, Or.inl rfl⟩
theorem f_X3_164 : z_Fl RX3 164 3 1 := ⟨by decide, by decide, "OneCall$Needs", z_mem (List.mem_append_right _ (List.mem_of_getElem? (i := 61) (by decide +kernel))) rfl, Or.inl rfl⟩
theorem f_X2_27 : z_Fl RX2 27 3 2 := ⟨by decide, by decide, "OneCall$Needs", z_mem (List.mem_append_right _ (List.mem_of_getElem? (i := 62) (by decide +kernel))) rfl, Or.inl rfl⟩
theorem f_X3_159 : z_Fl RX3 159 3 2 := ⟨by decide, by decide, "OneCall$Needs", z_mem (List.mem_append_right _ (List.mem_of_getElem? (i := 63) (by decide +kernel))) rfl, Or.inl rfl⟩
theorem f_X2_18 : z_Fl RX2 18 3 3 := ⟨by decide, by decide, "OneCall$Needs", z_mem (List.mem_append_right _ (List.mem_of_getElem? (i := 64) (by decide +kernel))) rfl, Or.inl rfl⟩
theorem f_X2_21 : z_Fl RX2 21 3 4 := ⟨by decide, by decide, "OneCall$Needs", z_mem (List.mem_append_right _ (List.mem_of_getElem? (i := 65) (by decide +kernel))) rfl, Or.inl rfl⟩
theorem f_X2_24 : z_Fl RX2 24 3 5 := ⟨by decide, by decide, "OneCall$Needs", z_mem (List.mem_append_right _ (List.mem_of_getElem? (i := 66) (by decide +kernel))) rfl, Or.inl rfl⟩
theorem c_X3_37 : Cond.classLink RX3 37 (z_R 1) ∈ z_tbl := z_mem (List.mem_append_right _ (List.mem_of_getElem? (i := 81) (by decide +kernel))) rfl
theorem i_n1 : Cond.instantiable (z_R 1) (z_N 1) ∈ z_tbl := z_mem (List.mem_append_right _ (List.mem_of_getElem? (i := 82) (by decide +kernel))) rfl
theorem i_i1 : Cond.initialized (z_R 1) ∈ z_tbl := z_mem (List.mem_append_right _ (List.mem_of_getElem? (i := 6) (by decide +kernel))) rfl
theorem i_t1 : ∀ j, j < z_N 1 → (z_ty 1 j = .int ∨ z_ty 1 j = .long ∨ z_ty 1 j = .boolean ∨ z_kd (z_ty 1 j) = 2) := by decide +kernel
theorem k_X3_39 : Cond.methodLink RX3 39 yX0_init ∈ z_tbl := z_mem (List.mem_append_right _ (List.mem_of_getElem? (i := 83) (by decide +kernel))) rfl
theorem k_X0_3 : Cond.methodLink RX0 3 objectInit ∈ z_tbl := z_mem (List.mem_append_right _ (List.mem_of_getElem? (i := 86) (by decide +kernel))) rfl
theorem f_X0_9 : z_Fl RX0 9 1 0 := ⟨by decide, by decide, "OneCall$Knowledge", z_mem (List.mem_append_right _ (List.mem_of_getElem? (i := 87) (by decide +kernel))) rfl, Or.inl rfl⟩
theorem f_X0_15 : z_Fl RX0 15 1 1 := ⟨by decide, by decide, "OneCall$Knowledge", z_mem (List.mem_append_right _ (List.mem_of_getElem? (i := 88) (by decide +kernel))) rfl, Or.inl rfl⟩
theorem f_X3_142 : z_Fl RX3 142 1 1 := ⟨by decide, by decide, "OneCall$Knowledge", z_mem (List.mem_append_right _ (List.mem_of_getElem? (i := 89) (by decide +kernel))) rfl, Or.inl rfl⟩
theorem f_X0_25 : z_Fl RX0 25 1 2 := ⟨by decide, by decide, "OneCall$Knowledge", z_mem (List.mem_append_right _ (List.mem_of_getElem? (i := 90) (by decide +kernel))) rfl, Or.inl rfl⟩
theorem f_X3_129 : z_Fl RX3 129 1 2 := ⟨by decide, by decide, "OneCall$Knowledge", z_mem (List.mem_append_right _ (List.mem_of_getElem? (i := 91) (by decide +kernel))) rfl, Or.inl rfl⟩
theorem f_X3_9 : z_Fl RX3 9 4 0 := ⟨by decide, by decide, "OneCall", z_mem (List.mem_append_right _ (List.mem_of_getElem? (i := 99) (by decide +kernel))) rfl, Or.inl rfl⟩
theorem f_X3_51 : z_Fl RX3 51 4 1 := ⟨by decide, by decide, "OneCall", z_mem (List.mem_append_right _ (List.mem_of_getElem? (i := 100) (by decide +kernel))) rfl, Or.inl rfl⟩
theorem f_X3_16 : z_Fl RX3 16 4 2 := ⟨by decide, by decide, "OneCall", z_mem (List.mem_append_right _ (List.mem_of_getElem? (i := 101) (by decide +kernel))) rfl, Or.inl rfl⟩
theorem f_X3_20 : z_Fl RX3 20 4 3 := ⟨by decide, by decide, "OneCall", z_mem (List.mem_append_right _ (List.mem_of_getElem? (i := 102) (by decide +kernel))) rfl, Or.inl rfl⟩
theorem f_X3_24 : z_Fl RX3 24 4 4 := ⟨by decide, by decide, "OneCall", z_mem (List.mem_append_right _ (List.mem_of_getElem? (i := 103) (by decide +kernel))) rfl, Or.inl rfl⟩
theorem f_X3_27 : z_Fl RX3 27 4 5 := ⟨by decide, by decide, "OneCall", z_mem (List.mem_append_right _ (List.mem_of_getElem? (i := 104) (by decide +kernel))) rfl, Or.inl rfl⟩
theorem f_X3_47 : z_Fl RX3 47 4 6 := ⟨by decide, by decide, "OneCall", z_mem (List.mem_append_right _ (List.mem_of_getElem? (i := 105) (by decide +kernel))) rfl, Or.inl rfl⟩
theorem f_X3_33 : z_Fl RX3 33 4 7 := ⟨by decide, by decide, "OneCall", z_mem (List.mem_append_right _ (List.mem_of_getElem? (i := 106) (by decide +kernel))) rfl, Or.inl rfl⟩
theorem f_X3_40 : z_Fl RX3 40 4 8 := ⟨by decide, by decide, "OneCall", z_mem (List.mem_append_right _ (List.mem_of_getElem? (i := 107) (by decide +kernel))) rfl, Or.inl rfl⟩
theorem f_X3_44 : z_Fl RX3 44 4 9 := ⟨by decide, by decide, "OneCall", z_mem (List.mem_append_right _ (List.mem_of_getElem? (i := 108) (by decide +kernel))) rfl, Or.inl rfl⟩
theorem k_L_15 : Cond.methodLink RL 15 yX3_piece ∈ z_tbl := z_mem (List.mem_append_right _ (List.mem_of_getElem? (i := 130) (by decide +kernel))) rfl
theorem k_L_20 : Cond.methodLink RL 20 yX3_bytes ∈ z_tbl := z_mem (List.mem_append_right _ (List.mem_of_getElem? (i := 134) (by decide +kernel))) rfl
theorem k_X3_54 : Cond.methodLink RX3 54 yX3_isPiece ∈ z_tbl := z_mem (List.mem_append_right _ (List.mem_of_getElem? (i := 138) (by decide +kernel))) rfl
theorem k_L_25 : Cond.methodLink RL 25 yX3_listener ∈ z_tbl := z_mem (List.mem_append_right _ (List.mem_of_getElem? (i := 142) (by decide +kernel))) rfl
theorem k_X3_58 : Cond.methodLink RX3 58 yJx4a65c_size_8abf5 ∈ z_tbl := z_mem (List.mem_append_right _ (List.mem_of_getElem? (i := 146) (by decide +kernel))) rfl
theorem c_X3_62 : Cond.classLink RX3 62 (z_R 2) ∈ z_tbl := z_mem (List.mem_append_right _ (List.mem_of_getElem? (i := 150) (by decide +kernel))) rfl
theorem i_n2 : Cond.instantiable (z_R 2) (z_N 2) ∈ z_tbl := z_mem (List.mem_append_right _ (List.mem_of_getElem? (i := 151) (by decide +kernel))) rfl
theorem i_i2 : Cond.initialized (z_R 2) ∈ z_tbl := z_mem (List.mem_append_right _ (List.mem_of_getElem? (i := 8) (by decide +kernel))) rfl
theorem i_t2 : ∀ j, j < z_N 2 → (z_ty 2 j = .int ∨ z_ty 2 j = .long ∨ z_ty 2 j = .boolean ∨ z_kd (z_ty 2 j) = 2) := by decide +kernel
theorem k_X3_64 : Cond.methodLink RX3 64 yX1_init ∈ z_tbl := z_mem (List.mem_append_right _ (List.mem_of_getElem? (i := 152) (by decide +kernel))) rfl
theorem k_X1_3 : Cond.methodLink RX1 3 objectInit ∈ z_tbl := z_mem (List.mem_append_right _ (List.mem_of_getElem? (i := 155) (by decide +kernel))) rfl
theorem c_X1_19 : Cond.classLink RX1 19 (z_R 1) ∈ z_tbl := z_mem (List.mem_append_right _ (List.mem_of_getElem? (i := 156) (by decide +kernel))) rfl
theorem k_X1_21 : Cond.methodLink RX1 21 yX0_init ∈ z_tbl := z_mem (List.mem_append_right _ (List.mem_of_getElem? (i := 157) (by decide +kernel))) rfl
theorem f_X1_9 : z_Fl RX1 9 2 0 := ⟨by decide, by decide, "OneCall$Listener", z_mem (List.mem_append_right _ (List.mem_of_getElem? (i := 158) (by decide +kernel))) rfl, Or.inl rfl⟩
theorem f_X3_78 : z_Fl RX3 78 2 0 := ⟨by decide, by decide, "OneCall$Listener", z_mem (List.mem_append_right _ (List.mem_of_getElem? (i := 159) (by decide +kernel))) rfl, Or.inl rfl⟩
theorem f_X1_15 : z_Fl RX1 15 2 1 := ⟨by decide, by decide, "OneCall$Listener", z_mem (List.mem_append_right _ (List.mem_of_getElem? (i := 160) (by decide +kernel))) rfl, Or.inl rfl⟩
theorem f_X3_136 : z_Fl RX3 136 2 1 := ⟨by decide, by decide, "OneCall$Listener", z_mem (List.mem_append_right _ (List.mem_of_getElem? (i := 161) (by decide +kernel))) rfl, Or.inl rfl⟩
theorem f_X1_22 : z_Fl RX1 22 2 2 := ⟨by decide, by decide, "OneCall$Listener", z_mem (List.mem_append_right _ (List.mem_of_getElem? (i := 162) (by decide +kernel))) rfl, Or.inl rfl⟩
theorem f_X3_126 : z_Fl RX3 126 2 2 := ⟨by decide, by decide, "OneCall$Listener", z_mem (List.mem_append_right _ (List.mem_of_getElem? (i := 163) (by decide +kernel))) rfl, Or.inl rfl⟩
theorem f_X1_46 : z_Fl RX1 46 2 3 := ⟨by decide, by decide, "OneCall$Listener", z_mem (List.mem_append_right _ (List.mem_of_getElem? (i := 164) (by decide +kernel))) rfl, Or.inl rfl⟩
theorem f_X3_123 : z_Fl RX3 123 2 3 := ⟨by decide, by decide, "OneCall$Listener", z_mem (List.mem_append_right _ (List.mem_of_getElem? (i := 165) (by decide +kernel))) rfl, Or.inl rfl⟩
theorem f_X1_32 : z_Fl RX1 32 2 4 := ⟨by decide, by decide, "OneCall$Listener", z_mem (List.mem_append_right _ (List.mem_of_getElem? (i := 166) (by decide +kernel))) rfl, Or.inl rfl⟩
theorem f_X3_94 : z_Fl RX3 94 2 4 := ⟨by decide, by decide, "OneCall$Listener", z_mem (List.mem_append_right _ (List.mem_of_getElem? (i := 167) (by decide +kernel))) rfl, Or.inl rfl⟩
theorem f_X1_39 : z_Fl RX1 39 2 5 := ⟨by decide, by decide, "OneCall$Listener", z_mem (List.mem_append_right _ (List.mem_of_getElem? (i := 168) (by decide +kernel))) rfl, Or.inl rfl⟩
theorem f_X3_81 : z_Fl RX3 81 2 6 := ⟨by decide, by decide, "OneCall$Listener", z_mem (List.mem_append_right _ (List.mem_of_getElem? (i := 169) (by decide +kernel))) rfl, Or.inl rfl⟩
theorem f_X1_64 : z_Fl RX1 64 2 6 := ⟨by decide, by decide, "OneCall$Listener", z_mem (List.mem_append_right _ (List.mem_of_getElem? (i := 170) (by decide +kernel))) rfl, Or.inl rfl⟩
theorem f_X1_42 : z_Fl RX1 42 2 7 := ⟨by decide, by decide, "OneCall$Listener", z_mem (List.mem_append_right _ (List.mem_of_getElem? (i := 171) (by decide +kernel))) rfl, Or.inl rfl⟩
theorem f_X3_119 : z_Fl RX3 119 2 7 := ⟨by decide, by decide, "OneCall$Listener", z_mem (List.mem_append_right _ (List.mem_of_getElem? (i := 172) (by decide +kernel))) rfl, Or.inl rfl⟩
theorem f_X3_100 : z_Fl RX3 100 2 8 := ⟨by decide, by decide, "OneCall$Listener", z_mem (List.mem_append_right _ (List.mem_of_getElem? (i := 173) (by decide +kernel))) rfl, Or.inl rfl⟩
theorem k_X3_67 : Cond.methodLink RX3 67 yJx4a65c_add_9ea2d ∈ z_tbl := z_mem (List.mem_append_right _ (List.mem_of_getElem? (i := 193) (by decide +kernel))) rfl
theorem k_Jx4a65c_131 : Cond.methodLink RJx4a65c 131 yJx4a65c_add_72be8 ∈ z_tbl := z_mem (List.mem_append_right _ (List.mem_of_getElem? (i := 197) (by decide +kernel))) rfl
theorem k_Jx4a65c_129 : Cond.methodLink RJx4a65c 129 yJx4a65c_grow_d5877 ∈ z_tbl := z_mem (List.mem_append_right _ (List.mem_of_getElem? (i := 201) (by decide +kernel))) rfl
theorem k_Jx4a65c_69 : Cond.methodLink RJx4a65c 69 yJx4a65c_grow_92f84 ∈ z_tbl := z_mem (List.mem_append_right _ (List.mem_of_getElem? (i := 205) (by decide +kernel))) rfl
theorem k_Jx4a65c_73 : Cond.methodLink RJx4a65c 73 yJ8_newLength_cabcc ∈ z_tbl := z_mem (List.mem_append_right _ (List.mem_of_getElem? (i := 209) (by decide +kernel))) rfl
theorem k_J8_194 : Cond.methodLink RJ8 194 yJ9_max_7cf53 ∈ z_tbl := z_mem (List.mem_append_right _ (List.mem_of_getElem? (i := 212) (by decide +kernel))) rfl
theorem n_J8_200 : Cond.constant RJ8 200 (2147483639) ∈ z_tbl := z_mem (List.mem_append_right _ (List.mem_of_getElem? (i := 215) (by decide +kernel))) rfl
theorem k_J8_201 : Cond.methodLink RJ8 201 yJ8_hugeLength_7cf53 ∈ z_tbl := z_mem (List.mem_append_right _ (List.mem_of_getElem? (i := 216) (by decide +kernel))) rfl
theorem k_Jx4a65c_66 : Cond.methodLink RJx4a65c 66 yJ7_copyOf_1904c ∈ z_tbl := z_mem (List.mem_append_right _ (List.mem_of_getElem? (i := 219) (by decide +kernel))) rfl
theorem k_J7_300 : Cond.methodLink RJ7 300 yJ7_copyOf_6403c ∈ z_tbl := z_mem (List.mem_append_right _ (List.mem_of_getElem? (i := 232) (by decide +kernel))) rfl
theorem c_J7_110 : Cond.classLink RJ7 110 "[Ljava/lang/Object;" ∈ z_tbl := z_mem (List.mem_append_right _ (List.mem_of_getElem? (i := 235) (by decide +kernel))) rfl
theorem c_J7_2 : Cond.classLink RJ7 2 "java/lang/Object" ∈ z_tbl := z_mem (List.mem_append_right _ (List.mem_of_getElem? (i := 237) (by decide +kernel))) rfl
theorem k_J7_304 : Cond.methodLink RJ7 304 yJ9_min_7cf53 ∈ z_tbl := z_mem (List.mem_append_right _ (List.mem_of_getElem? (i := 238) (by decide +kernel))) rfl
theorem k_J7_150 : Cond.methodLink RJ7 150 arraycopyName ∈ z_tbl := z_mem (List.mem_append_right _ (List.mem_of_getElem? (i := 241) (by decide +kernel))) rfl
theorem k_Jx4a65c_79 : Cond.methodLink RJx4a65c 79 yJ9_max_7cf53 ∈ z_tbl := z_mem (List.mem_append_right _ (List.mem_of_getElem? (i := 244) (by decide +kernel))) rfl
theorem c_Jx4a65c_7 : Cond.classLink RJx4a65c 7 "java/lang/Object" ∈ z_tbl := z_mem (List.mem_append_right _ (List.mem_of_getElem? (i := 245) (by decide +kernel))) rfl
theorem k_L_30 : Cond.methodLink RL 30 yX3_wants ∈ z_tbl := z_mem (List.mem_append_right _ (List.mem_of_getElem? (i := 246) (by decide +kernel))) rfl
theorem k_X3_71 : Cond.methodLink RX3 71 yX3_isListener ∈ z_tbl := z_mem (List.mem_append_right _ (List.mem_of_getElem? (i := 250) (by decide +kernel))) rfl
theorem k_X3_74 : Cond.methodLink RX3 74 yJx4a65c_get_915e3 ∈ z_tbl := z_mem (List.mem_append_right _ (List.mem_of_getElem? (i := 254) (by decide +kernel))) rfl
theorem k_Jx4a65c_118 : Cond.methodLink RJx4a65c 118 yJ15_checkIndex_7cf53 ∈ z_tbl := z_mem (List.mem_append_right _ (List.mem_of_getElem? (i := 258) (by decide +kernel))) rfl
theorem k_J15_105 : Cond.methodLink RJ15 105 yJ3_checkIndex_8e157 ∈ z_tbl := z_mem (List.mem_append_right _ (List.mem_of_getElem? (i := 261) (by decide +kernel))) rfl
theorem k_Jx4a65c_123 : Cond.methodLink RJx4a65c 123 yJx4a65c_elementData_915e3 ∈ z_tbl := z_mem (List.mem_append_right _ (List.mem_of_getElem? (i := 264) (by decide +kernel))) rfl
theorem k_X3_84 : Cond.methodLink RX3 84 yX3_isIn ∈ z_tbl := z_mem (List.mem_append_right _ (List.mem_of_getElem? (i := 268) (by decide +kernel))) rfl
theorem k_L_35 : Cond.methodLink RL 35 yX3_has ∈ z_tbl := z_mem (List.mem_append_right _ (List.mem_of_getElem? (i := 271) (by decide +kernel))) rfl
theorem k_X3_88 : Cond.methodLink RX3 88 yX3_isMask ∈ z_tbl := z_mem (List.mem_append_right _ (List.mem_of_getElem? (i := 275) (by decide +kernel))) rfl
theorem k_X3_147 : Cond.methodLink RX3 147 yX3_allPieces ∈ z_tbl := z_mem (List.mem_append_right _ (List.mem_of_getElem? (i := 279) (by decide +kernel))) rfl
theorem k_X3_91 : Cond.methodLink RX3 91 yX1_mayHave ∈ z_tbl := z_mem (List.mem_append_right _ (List.mem_of_getElem? (i := 283) (by decide +kernel))) rfl
theorem k_X1_26 : Cond.methodLink RX1 26 yJ6_bitCount_0f7a4 ∈ z_tbl := z_mem (List.mem_append_right _ (List.mem_of_getElem? (i := 287) (by decide +kernel))) rfl
theorem n_J6_265 : Cond.constant RJ6 265 (1431655765) ∈ z_tbl := z_mem (List.mem_append_right _ (List.mem_of_getElem? (i := 290) (by decide +kernel))) rfl
theorem n_J6_266 : Cond.constant RJ6 266 (858993459) ∈ z_tbl := z_mem (List.mem_append_right _ (List.mem_of_getElem? (i := 291) (by decide +kernel))) rfl
theorem n_J6_267 : Cond.constant RJ6 267 (252645135) ∈ z_tbl := z_mem (List.mem_append_right _ (List.mem_of_getElem? (i := 292) (by decide +kernel))) rfl
theorem k_X3_97 : Cond.methodLink RX3 97 yX1_getSum ∈ z_tbl := z_mem (List.mem_append_right _ (List.mem_of_getElem? (i := 293) (by decide +kernel))) rfl
theorem k_X1_35 : Cond.methodLink RX1 35 yX1_addRow ∈ z_tbl := z_mem (List.mem_append_right _ (List.mem_of_getElem? (i := 297) (by decide +kernel))) rfl
theorem k_X1_49 : Cond.methodLink RX1 49 yX0_learn ∈ z_tbl := z_mem (List.mem_append_right _ (List.mem_of_getElem? (i := 301) (by decide +kernel))) rfl
theorem k_X0_33 : Cond.methodLink RX0 33 yX0_restOf ∈ z_tbl := z_mem (List.mem_append_right _ (List.mem_of_getElem? (i := 305) (by decide +kernel))) rfl
theorem k_X0_37 : Cond.methodLink RX0 37 yX0_rowsOf ∈ z_tbl := z_mem (List.mem_append_right _ (List.mem_of_getElem? (i := 310) (by decide +kernel))) rfl
theorem k_X0_41 : Cond.methodLink RX0 41 yJ6_highestOneBit_0f7a4 ∈ z_tbl := z_mem (List.mem_append_right _ (List.mem_of_getElem? (i := 314) (by decide +kernel))) rfl
theorem n_J6_127 : Cond.constant RJ6 127 (-2147483648) ∈ z_tbl := z_mem (List.mem_append_right _ (List.mem_of_getElem? (i := 317) (by decide +kernel))) rfl
theorem k_J6_51 : Cond.methodLink RJ6 51 yJ6_numberOfLeadingZeros_0f7a4 ∈ z_tbl := z_mem (List.mem_append_right _ (List.mem_of_getElem? (i := 318) (by decide +kernel))) rfl
theorem n_J6_264 : Cond.constant RJ6 264 (65536) ∈ z_tbl := z_mem (List.mem_append_right _ (List.mem_of_getElem? (i := 321) (by decide +kernel))) rfl
theorem k_L_39 : Cond.methodLink RL 39 yX3_off ∈ z_tbl := z_mem (List.mem_append_right _ (List.mem_of_getElem? (i := 322) (by decide +kernel))) rfl
theorem k_X3_104 : Cond.methodLink RX3 104 yX3_oneIf ∈ z_tbl := z_mem (List.mem_append_right _ (List.mem_of_getElem? (i := 326) (by decide +kernel))) rfl
theorem k_L_43 : Cond.methodLink RL 43 yX3_say ∈ z_tbl := z_mem (List.mem_append_right _ (List.mem_of_getElem? (i := 329) (by decide +kernel))) rfl
theorem k_X3_108 : Cond.methodLink RX3 108 yX3_speak ∈ z_tbl := z_mem (List.mem_append_right _ (List.mem_of_getElem? (i := 333) (by decide +kernel))) rfl
theorem k_X3_198 : Cond.methodLink RX3 198 yX1_hear ∈ z_tbl := z_mem (List.mem_append_right _ (List.mem_of_getElem? (i := 337) (by decide +kernel))) rfl
theorem k_L_47 : Cond.methodLink RL 47 yX3_again ∈ z_tbl := z_mem (List.mem_append_right _ (List.mem_of_getElem? (i := 341) (by decide +kernel))) rfl
theorem k_X3_112 : Cond.methodLink RX3 112 yX3_isCall ∈ z_tbl := z_mem (List.mem_append_right _ (List.mem_of_getElem? (i := 345) (by decide +kernel))) rfl
theorem k_L_51 : Cond.methodLink RL 51 yX3_call ∈ z_tbl := z_mem (List.mem_append_right _ (List.mem_of_getElem? (i := 349) (by decide +kernel))) rfl
theorem k_L_55 : Cond.methodLink RL 55 yX3_sum ∈ z_tbl := z_mem (List.mem_append_right _ (List.mem_of_getElem? (i := 353) (by decide +kernel))) rfl
theorem k_X3_115 : Cond.methodLink RX3 115 yX3_bytesOf ∈ z_tbl := z_mem (List.mem_append_right _ (List.mem_of_getElem? (i := 357) (by decide +kernel))) rfl
theorem k_L_59 : Cond.methodLink RL 59 yX3_heard ∈ z_tbl := z_mem (List.mem_append_right _ (List.mem_of_getElem? (i := 361) (by decide +kernel))) rfl
theorem k_L_63 : Cond.methodLink RL 63 yX3_about ∈ z_tbl := z_mem (List.mem_append_right _ (List.mem_of_getElem? (i := 365) (by decide +kernel))) rfl
theorem k_X3_132 : Cond.methodLink RX3 132 yX3_isServed ∈ z_tbl := z_mem (List.mem_append_right _ (List.mem_of_getElem? (i := 369) (by decide +kernel))) rfl
theorem k_X3_204 : Cond.methodLink RX3 204 yX1_isServedBy ∈ z_tbl := z_mem (List.mem_append_right _ (List.mem_of_getElem? (i := 373) (by decide +kernel))) rfl
theorem k_X1_53 : Cond.methodLink RX1 53 yX0_workedOut ∈ z_tbl := z_mem (List.mem_append_right _ (List.mem_of_getElem? (i := 377) (by decide +kernel))) rfl
theorem k_X0_46 : Cond.methodLink RX0 46 yX0_workedOutWith ∈ z_tbl := z_mem (List.mem_append_right _ (List.mem_of_getElem? (i := 381) (by decide +kernel))) rfl
theorem k_X1_57 : Cond.methodLink RX1 57 yX1_isServedWith ∈ z_tbl := z_mem (List.mem_append_right _ (List.mem_of_getElem? (i := 385) (by decide +kernel))) rfl
theorem k_L_67 : Cond.methodLink RL 67 yX3_rowOf ∈ z_tbl := z_mem (List.mem_append_right _ (List.mem_of_getElem? (i := 389) (by decide +kernel))) rfl
theorem k_L_71 : Cond.methodLink RL 71 yX3_solve ∈ z_tbl := z_mem (List.mem_append_right _ (List.mem_of_getElem? (i := 393) (by decide +kernel))) rfl
theorem k_X3_139 : Cond.methodLink RX3 139 yX3_hasWorkedOut ∈ z_tbl := z_mem (List.mem_append_right _ (List.mem_of_getElem? (i := 397) (by decide +kernel))) rfl
theorem k_X3_201 : Cond.methodLink RX3 201 yX0_isWorkedOut ∈ z_tbl := z_mem (List.mem_append_right _ (List.mem_of_getElem? (i := 401) (by decide +kernel))) rfl
theorem k_L_75 : Cond.methodLink RL 75 yX3_why ∈ z_tbl := z_mem (List.mem_append_right _ (List.mem_of_getElem? (i := 405) (by decide +kernel))) rfl
theorem n_X3_145 : Cond.constantLong RX3 145 (-1) ∈ z_tbl := z_mem (List.mem_append_right _ (List.mem_of_getElem? (i := 409) (by decide +kernel))) rfl
theorem k_L_80 : Cond.methodLink RL 80 yX3_gets ∈ z_tbl := z_mem (List.mem_append_right _ (List.mem_of_getElem? (i := 410) (by decide +kernel))) rfl
theorem k_L_84 : Cond.methodLink RL 84 yX3_lack ∈ z_tbl := z_mem (List.mem_append_right _ (List.mem_of_getElem? (i := 414) (by decide +kernel))) rfl
theorem k_X3_150 : Cond.methodLink RX3 150 yX1_isEvenInAllRows ∈ z_tbl := z_mem (List.mem_append_right _ (List.mem_of_getElem? (i := 418) (by decide +kernel))) rfl
theorem k_L_88 : Cond.methodLink RL 88 yX3_left ∈ z_tbl := z_mem (List.mem_append_right _ (List.mem_of_getElem? (i := 422) (by decide +kernel))) rfl
theorem k_X3_153 : Cond.methodLink RX3 153 yX3_servedCount ∈ z_tbl := z_mem (List.mem_append_right _ (List.mem_of_getElem? (i := 426) (by decide +kernel))) rfl
theorem k_L_93 : Cond.methodLink RL 93 yX3_needs ∈ z_tbl := z_mem (List.mem_append_right _ (List.mem_of_getElem? (i := 430) (by decide +kernel))) rfl
theorem k_X3_156 : Cond.methodLink RX3 156 yX3_findNeeds ∈ z_tbl := z_mem (List.mem_append_right _ (List.mem_of_getElem? (i := 434) (by decide +kernel))) rfl
theorem k_X3_208 : Cond.methodLink RX3 208 yX0_workedOut ∈ z_tbl := z_mem (List.mem_append_right _ (List.mem_of_getElem? (i := 438) (by decide +kernel))) rfl
theorem k_X3_211 : Cond.methodLink RX3 211 yX2_put ∈ z_tbl := z_mem (List.mem_append_right _ (List.mem_of_getElem? (i := 439) (by decide +kernel))) rfl
theorem k_L_97 : Cond.methodLink RL 97 yX3_need ∈ z_tbl := z_mem (List.mem_append_right _ (List.mem_of_getElem? (i := 443) (by decide +kernel))) rfl
theorem k_L_101 : Cond.methodLink RL 101 yX3_below ∈ z_tbl := z_mem (List.mem_append_right _ (List.mem_of_getElem? (i := 447) (by decide +kernel))) rfl
theorem k_X3_167 : Cond.methodLink RX3 167 yX2_canBeSorted ∈ z_tbl := z_mem (List.mem_append_right _ (List.mem_of_getElem? (i := 451) (by decide +kernel))) rfl
theorem k_X3_171 : Cond.methodLink RX3 171 yX2_longestOrder ∈ z_tbl := z_mem (List.mem_append_right _ (List.mem_of_getElem? (i := 455) (by decide +kernel))) rfl
theorem k_X2_31 : Cond.methodLink RX2 31 yX2_fillOrders ∈ z_tbl := z_mem (List.mem_append_right _ (List.mem_of_getElem? (i := 459) (by decide +kernel))) rfl
theorem k_X2_60 : Cond.methodLink RX2 60 yX2_sortedCount ∈ z_tbl := z_mem (List.mem_append_right _ (List.mem_of_getElem? (i := 463) (by decide +kernel))) rfl
theorem k_X2_54 : Cond.methodLink RX2 54 yJ9_min_7cf53 ∈ z_tbl := z_mem (List.mem_append_right _ (List.mem_of_getElem? (i := 467) (by decide +kernel))) rfl
theorem k_X2_63 : Cond.methodLink RX2 63 yX2_canStandBehind ∈ z_tbl := z_mem (List.mem_append_right _ (List.mem_of_getElem? (i := 468) (by decide +kernel))) rfl
theorem k_X2_34 : Cond.methodLink RX2 34 yX2_allNeeds ∈ z_tbl := z_mem (List.mem_append_right _ (List.mem_of_getElem? (i := 473) (by decide +kernel))) rfl
theorem k_X2_70 : Cond.methodLink RX2 70 yJ9_max_7cf53 ∈ z_tbl := z_mem (List.mem_append_right _ (List.mem_of_getElem? (i := 477) (by decide +kernel))) rfl
theorem k_L_105 : Cond.methodLink RL 105 yX3_order ∈ z_tbl := z_mem (List.mem_append_right _ (List.mem_of_getElem? (i := 478) (by decide +kernel))) rfl
theorem k_X3_174 : Cond.methodLink RX3 174 yX2_inTheOrder ∈ z_tbl := z_mem (List.mem_append_right _ (List.mem_of_getElem? (i := 482) (by decide +kernel))) rfl
theorem k_X2_38 : Cond.methodLink RX2 38 yX2_longestOrder ∈ z_tbl := z_mem (List.mem_append_right _ (List.mem_of_getElem? (i := 486) (by decide +kernel))) rfl
theorem k_X2_41 : Cond.methodLink RX2 41 yX2_firstOfLongest ∈ z_tbl := z_mem (List.mem_append_right _ (List.mem_of_getElem? (i := 487) (by decide +kernel))) rfl
theorem k_L_109 : Cond.methodLink RL 109 yX3_above ∈ z_tbl := z_mem (List.mem_append_right _ (List.mem_of_getElem? (i := 491) (by decide +kernel))) rfl
theorem k_X3_177 : Cond.methodLink RX3 177 yX2_fewestGroups ∈ z_tbl := z_mem (List.mem_append_right _ (List.mem_of_getElem? (i := 495) (by decide +kernel))) rfl
theorem k_X2_45 : Cond.methodLink RX2 45 yX2_fillGroups ∈ z_tbl := z_mem (List.mem_append_right _ (List.mem_of_getElem? (i := 499) (by decide +kernel))) rfl
theorem k_X2_73 : Cond.methodLink RX2 73 yX2_canBeGroupedWith ∈ z_tbl := z_mem (List.mem_append_right _ (List.mem_of_getElem? (i := 503) (by decide +kernel))) rfl
theorem k_X2_76 : Cond.methodLink RX2 76 yJ6_numberOfTrailingZeros_0f7a4 ∈ z_tbl := z_mem (List.mem_append_right _ (List.mem_of_getElem? (i := 507) (by decide +kernel))) rfl
theorem k_X2_81 : Cond.methodLink RX2 81 yX2_fewestOfSeveral ∈ z_tbl := z_mem (List.mem_append_right _ (List.mem_of_getElem? (i := 510) (by decide +kernel))) rfl
theorem k_X2_84 : Cond.methodLink RX2 84 yJ6_lowestOneBit_0f7a4 ∈ z_tbl := z_mem (List.mem_append_right _ (List.mem_of_getElem? (i := 514) (by decide +kernel))) rfl
theorem k_L_113 : Cond.methodLink RL 113 yX3_group ∈ z_tbl := z_mem (List.mem_append_right _ (List.mem_of_getElem? (i := 517) (by decide +kernel))) rfl
theorem k_X3_180 : Cond.methodLink RX3 180 yX2_inTheGroups ∈ z_tbl := z_mem (List.mem_append_right _ (List.mem_of_getElem? (i := 521) (by decide +kernel))) rfl
theorem k_X2_48 : Cond.methodLink RX2 48 yX2_fewestGroups ∈ z_tbl := z_mem (List.mem_append_right _ (List.mem_of_getElem? (i := 525) (by decide +kernel))) rfl
theorem k_X2_51 : Cond.methodLink RX2 51 yX2_firstOfFewest ∈ z_tbl := z_mem (List.mem_append_right _ (List.mem_of_getElem? (i := 526) (by decide +kernel))) rfl
theorem k_L_117 : Cond.methodLink RL 117 yX3_least ∈ z_tbl := z_mem (List.mem_append_right _ (List.mem_of_getElem? (i := 530) (by decide +kernel))) rfl
theorem k_X3_183 : Cond.methodLink RX3 183 yX3_findLeast ∈ z_tbl := z_mem (List.mem_append_right _ (List.mem_of_getElem? (i := 534) (by decide +kernel))) rfl
theorem k_X3_215 : Cond.methodLink RX3 215 yX3_completes ∈ z_tbl := z_mem (List.mem_append_right _ (List.mem_of_getElem? (i := 538) (by decide +kernel))) rfl
theorem k_X3_186 : Cond.methodLink RX3 186 yX3_isPlan ∈ z_tbl := z_mem (List.mem_append_right _ (List.mem_of_getElem? (i := 541) (by decide +kernel))) rfl
theorem k_X3_227 : Cond.methodLink RX3 227 yX0_become ∈ z_tbl := z_mem (List.mem_append_right _ (List.mem_of_getElem? (i := 545) (by decide +kernel))) rfl
theorem k_X0_19 : Cond.methodLink RX0 19 arraycopyName ∈ z_tbl := z_mem (List.mem_append_right _ (List.mem_of_getElem? (i := 549) (by decide +kernel))) rfl
theorem k_X3_231 : Cond.methodLink RX3 231 yX0_learn ∈ z_tbl := z_mem (List.mem_append_right _ (List.mem_of_getElem? (i := 550) (by decide +kernel))) rfl
theorem k_X3_219 : Cond.methodLink RX3 219 yX3_highestBits ∈ z_tbl := z_mem (List.mem_append_right _ (List.mem_of_getElem? (i := 551) (by decide +kernel))) rfl
theorem k_X3_222 : Cond.methodLink RX3 222 yJ6_highestOneBit_0f7a4 ∈ z_tbl := z_mem (List.mem_append_right _ (List.mem_of_getElem? (i := 555) (by decide +kernel))) rfl
theorem k_L_121 : Cond.methodLink RL 121 yX3_planned ∈ z_tbl := z_mem (List.mem_append_right _ (List.mem_of_getElem? (i := 556) (by decide +kernel))) rfl
theorem k_L_125 : Cond.methodLink RL 125 yX3_plan ∈ z_tbl := z_mem (List.mem_append_right _ (List.mem_of_getElem? (i := 560) (by decide +kernel))) rfl
theorem k_L_130 : Cond.methodLink RL 130 yX3_goOn ∈ z_tbl := z_mem (List.mem_append_right _ (List.mem_of_getElem? (i := 564) (by decide +kernel))) rfl
theorem k_X3_189 : Cond.methodLink RX3 189 yX3_bestMask ∈ z_tbl := z_mem (List.mem_append_right _ (List.mem_of_getElem? (i := 568) (by decide +kernel))) rfl
theorem k_X3_235 : Cond.methodLink RX3 235 yX3_waitingListeners ∈ z_tbl := z_mem (List.mem_append_right _ (List.mem_of_getElem? (i := 572) (by decide +kernel))) rfl
theorem k_X3_238 : Cond.methodLink RX3 238 yX3_worthOf ∈ z_tbl := z_mem (List.mem_append_right _ (List.mem_of_getElem? (i := 576) (by decide +kernel))) rfl
theorem k_X3_242 : Cond.methodLink RX3 242 yX0_restOf ∈ z_tbl := z_mem (List.mem_append_right _ (List.mem_of_getElem? (i := 580) (by decide +kernel))) rfl
theorem k_X3_245 : Cond.methodLink RX3 245 yX1_wouldBeServedBy ∈ z_tbl := z_mem (List.mem_append_right _ (List.mem_of_getElem? (i := 581) (by decide +kernel))) rfl
theorem k_X1_61 : Cond.methodLink RX1 61 yX0_workedOutWith ∈ z_tbl := z_mem (List.mem_append_right _ (List.mem_of_getElem? (i := 585) (by decide +kernel))) rfl
theorem k_L_134 : Cond.methodLink RL 134 yX3_finish ∈ z_tbl := z_mem (List.mem_append_right _ (List.mem_of_getElem? (i := 586) (by decide +kernel))) rfl
theorem k_X3_192 : Cond.methodLink RX3 192 yX3_goOn ∈ z_tbl := z_mem (List.mem_append_right _ (List.mem_of_getElem? (i := 590) (by decide +kernel))) rfl
theorem k_L_138 : Cond.methodLink RL 138 yX3_count ∈ z_tbl := z_mem (List.mem_append_right _ (List.mem_of_getElem? (i := 591) (by decide +kernel))) rfl
theorem k_X3_195 : Cond.methodLink RX3 195 yX3_rankOfAll ∈ z_tbl := z_mem (List.mem_append_right _ (List.mem_of_getElem? (i := 595) (by decide +kernel))) rfl
theorem c_L_10 : Cond.classLink RL 10 (z_R 5) ∈ z_tbl := z_mem (List.mem_append_right _ (List.mem_of_getElem? (i := 599) (by decide +kernel))) rfl
theorem i_n5 : Cond.instantiable (z_R 5) (z_N 5) ∈ z_tbl := z_mem (List.mem_append_right _ (List.mem_of_getElem? (i := 600) (by decide +kernel))) rfl
theorem i_i5 : Cond.initialized (z_R 5) ∈ z_tbl := z_mem (List.mem_append_right _ (List.mem_of_getElem? (i := 7) (by decide +kernel))) rfl
theorem i_t5 : ∀ j, j < z_N 5 → (z_ty 5 j = .int ∨ z_ty 5 j = .long ∨ z_ty 5 j = .boolean ∨ z_kd (z_ty 5 j) = 2) := by decide +kernel
theorem k_L_12 : Cond.methodLink RL 12 yX4_init ∈ z_tbl := z_mem (List.mem_append_right _ (List.mem_of_getElem? (i := 601) (by decide +kernel))) rfl
theorem k_X4_1 : Cond.methodLink RX4 1 objectInit ∈ z_tbl := z_mem (List.mem_append_right _ (List.mem_of_getElem? (i := 604) (by decide +kernel))) rfl
theorem f_X4_7 : z_Fl RX4 7 5 0 := ⟨by decide, by decide, "OneCallModel", z_mem (List.mem_append_right _ (List.mem_of_getElem? (i := 605) (by decide +kernel))) rfl, Or.inl rfl⟩
theorem f_X4_13 : z_Fl RX4 13 5 1 := ⟨by decide, by decide, "OneCallModel", z_mem (List.mem_append_right _ (List.mem_of_getElem? (i := 606) (by decide +kernel))) rfl, Or.inl rfl⟩
theorem f_X4_16 : z_Fl RX4 16 5 2 := ⟨by decide, by decide, "OneCallModel", z_mem (List.mem_append_right _ (List.mem_of_getElem? (i := 607) (by decide +kernel))) rfl, Or.inl rfl⟩
theorem f_X4_19 : z_Fl RX4 19 5 3 := ⟨by decide, by decide, "OneCallModel", z_mem (List.mem_append_right _ (List.mem_of_getElem? (i := 608) (by decide +kernel))) rfl, Or.inl rfl⟩
theorem f_X4_23 : z_Fl RX4 23 5 4 := ⟨by decide, by decide, "OneCallModel", z_mem (List.mem_append_right _ (List.mem_of_getElem? (i := 609) (by decide +kernel))) rfl, Or.inl rfl⟩
theorem f_X4_27 : z_Fl RX4 27 5 5 := ⟨by decide, by decide, "OneCallModel", z_mem (List.mem_append_right _ (List.mem_of_getElem? (i := 610) (by decide +kernel))) rfl, Or.inl rfl⟩
theorem f_X4_30 : z_Fl RX4 30 5 6 := ⟨by decide, by decide, "OneCallModel", z_mem (List.mem_append_right _ (List.mem_of_getElem? (i := 611) (by decide +kernel))) rfl, Or.inl rfl⟩
theorem f_X4_33 : z_Fl RX4 33 5 7 := ⟨by decide, by decide, "OneCallModel", z_mem (List.mem_append_right _ (List.mem_of_getElem? (i := 612) (by decide +kernel))) rfl, Or.inl rfl⟩
theorem f_X4_36 : z_Fl RX4 36 5 8 := ⟨by decide, by decide, "OneCallModel", z_mem (List.mem_append_right _ (List.mem_of_getElem? (i := 613) (by decide +kernel))) rfl, Or.inl rfl⟩
theorem f_X4_40 : z_Fl RX4 40 5 9 := ⟨by decide, by decide, "OneCallModel", z_mem (List.mem_append_right _ (List.mem_of_getElem? (i := 614) (by decide +kernel))) rfl, Or.inl rfl⟩
theorem f_X4_43 : z_Fl RX4 43 5 10 := ⟨by decide, by decide, "OneCallModel", z_mem (List.mem_append_right _ (List.mem_of_getElem? (i := 615) (by decide +kernel))) rfl, Or.inl rfl⟩
theorem f_X4_46 : z_Fl RX4 46 5 11 := ⟨by decide, by decide, "OneCallModel", z_mem (List.mem_append_right _ (List.mem_of_getElem? (i := 616) (by decide +kernel))) rfl, Or.inl rfl⟩
theorem f_X4_49 : z_Fl RX4 49 5 12 := ⟨by decide, by decide, "OneCallModel", z_mem (List.mem_append_right _ (List.mem_of_getElem? (i := 617) (by decide +kernel))) rfl, Or.inl rfl⟩
theorem f_X4_52 : z_Fl RX4 52 5 13 := ⟨by decide, by decide, "OneCallModel", z_mem (List.mem_append_right _ (List.mem_of_getElem? (i := 618) (by decide +kernel))) rfl, Or.inl rfl⟩
theorem f_X4_55 : z_Fl RX4 55 5 14 := ⟨by decide, by decide, "OneCallModel", z_mem (List.mem_append_right _ (List.mem_of_getElem? (i := 619) (by decide +kernel))) rfl, Or.inl rfl⟩
theorem f_X4_58 : z_Fl RX4 58 5 15 := ⟨by decide, by decide, "OneCallModel", z_mem (List.mem_append_right _ (List.mem_of_getElem? (i := 620) (by decide +kernel))) rfl, Or.inl rfl⟩
theorem f_X4_61 : z_Fl RX4 61 5 16 := ⟨by decide, by decide, "OneCallModel", z_mem (List.mem_append_right _ (List.mem_of_getElem? (i := 621) (by decide +kernel))) rfl, Or.inl rfl⟩
theorem f_X4_64 : z_Fl RX4 64 5 17 := ⟨by decide, by decide, "OneCallModel", z_mem (List.mem_append_right _ (List.mem_of_getElem? (i := 622) (by decide +kernel))) rfl, Or.inl rfl⟩
theorem f_X4_67 : z_Fl RX4 67 5 18 := ⟨by decide, by decide, "OneCallModel", z_mem (List.mem_append_right _ (List.mem_of_getElem? (i := 623) (by decide +kernel))) rfl, Or.inl rfl⟩
theorem f_X4_70 : z_Fl RX4 70 5 19 := ⟨by decide, by decide, "OneCallModel", z_mem (List.mem_append_right _ (List.mem_of_getElem? (i := 624) (by decide +kernel))) rfl, Or.inl rfl⟩
theorem f_X4_73 : z_Fl RX4 73 5 20 := ⟨by decide, by decide, "OneCallModel", z_mem (List.mem_append_right _ (List.mem_of_getElem? (i := 625) (by decide +kernel))) rfl, Or.inl rfl⟩
theorem f_X4_76 : z_Fl RX4 76 5 21 := ⟨by decide, by decide, "OneCallModel", z_mem (List.mem_append_right _ (List.mem_of_getElem? (i := 626) (by decide +kernel))) rfl, Or.inl rfl⟩
theorem f_X4_79 : z_Fl RX4 79 5 22 := ⟨by decide, by decide, "OneCallModel", z_mem (List.mem_append_right _ (List.mem_of_getElem? (i := 627) (by decide +kernel))) rfl, Or.inl rfl⟩
theorem f_X4_82 : z_Fl RX4 82 5 23 := ⟨by decide, by decide, "OneCallModel", z_mem (List.mem_append_right _ (List.mem_of_getElem? (i := 628) (by decide +kernel))) rfl, Or.inl rfl⟩
theorem f_X4_85 : z_Fl RX4 85 5 24 := ⟨by decide, by decide, "OneCallModel", z_mem (List.mem_append_right _ (List.mem_of_getElem? (i := 629) (by decide +kernel))) rfl, Or.inl rfl⟩
theorem k_L_19 : Cond.methodLink RL 19 yX4_piece ∈ z_tbl := z_mem (List.mem_append_right _ (List.mem_of_getElem? (i := 682) (by decide +kernel))) rfl
theorem k_L_24 : Cond.methodLink RL 24 yX4_bytes ∈ z_tbl := z_mem (List.mem_append_right _ (List.mem_of_getElem? (i := 686) (by decide +kernel))) rfl
theorem k_X4_88 : Cond.methodLink RX4 88 yX4_isPiece ∈ z_tbl := z_mem (List.mem_append_right _ (List.mem_of_getElem? (i := 690) (by decide +kernel))) rfl
theorem k_L_29 : Cond.methodLink RL 29 yX4_listener ∈ z_tbl := z_mem (List.mem_append_right _ (List.mem_of_getElem? (i := 694) (by decide +kernel))) rfl
theorem k_L_34 : Cond.methodLink RL 34 yX4_wants ∈ z_tbl := z_mem (List.mem_append_right _ (List.mem_of_getElem? (i := 698) (by decide +kernel))) rfl
theorem k_X4_92 : Cond.methodLink RX4 92 yX4_isListener ∈ z_tbl := z_mem (List.mem_append_right _ (List.mem_of_getElem? (i := 702) (by decide +kernel))) rfl
theorem k_L_38 : Cond.methodLink RL 38 yX4_has ∈ z_tbl := z_mem (List.mem_append_right _ (List.mem_of_getElem? (i := 706) (by decide +kernel))) rfl
theorem k_X4_95 : Cond.methodLink RX4 95 yX4_isMask ∈ z_tbl := z_mem (List.mem_append_right _ (List.mem_of_getElem? (i := 710) (by decide +kernel))) rfl
theorem k_X4_98 : Cond.methodLink RX4 98 yX4_isSingle ∈ z_tbl := z_mem (List.mem_append_right _ (List.mem_of_getElem? (i := 714) (by decide +kernel))) rfl
theorem k_X4_101 : Cond.methodLink RX4 101 yX4_holds ∈ z_tbl := z_mem (List.mem_append_right _ (List.mem_of_getElem? (i := 718) (by decide +kernel))) rfl
theorem k_L_42 : Cond.methodLink RL 42 yX4_off ∈ z_tbl := z_mem (List.mem_append_right _ (List.mem_of_getElem? (i := 722) (by decide +kernel))) rfl
theorem k_L_46 : Cond.methodLink RL 46 yX4_say ∈ z_tbl := z_mem (List.mem_append_right _ (List.mem_of_getElem? (i := 726) (by decide +kernel))) rfl
theorem k_X4_105 : Cond.methodLink RX4 105 yX4_said ∈ z_tbl := z_mem (List.mem_append_right _ (List.mem_of_getElem? (i := 730) (by decide +kernel))) rfl
theorem k_L_50 : Cond.methodLink RL 50 yX4_again ∈ z_tbl := z_mem (List.mem_append_right _ (List.mem_of_getElem? (i := 734) (by decide +kernel))) rfl
theorem k_X4_109 : Cond.methodLink RX4 109 yX4_isCall ∈ z_tbl := z_mem (List.mem_append_right _ (List.mem_of_getElem? (i := 738) (by decide +kernel))) rfl
theorem k_L_58 : Cond.methodLink RL 58 yX4_sum ∈ z_tbl := z_mem (List.mem_append_right _ (List.mem_of_getElem? (i := 742) (by decide +kernel))) rfl
theorem k_X4_112 : Cond.methodLink RX4 112 yX4_sumOf ∈ z_tbl := z_mem (List.mem_append_right _ (List.mem_of_getElem? (i := 746) (by decide +kernel))) rfl
theorem k_L_62 : Cond.methodLink RL 62 yX4_heard ∈ z_tbl := z_mem (List.mem_append_right _ (List.mem_of_getElem? (i := 750) (by decide +kernel))) rfl
theorem k_L_54 : Cond.methodLink RL 54 yX4_call ∈ z_tbl := z_mem (List.mem_append_right _ (List.mem_of_getElem? (i := 754) (by decide +kernel))) rfl
theorem k_X4_127 : Cond.methodLink RX4 127 yX4_isNewFor ∈ z_tbl := z_mem (List.mem_append_right _ (List.mem_of_getElem? (i := 758) (by decide +kernel))) rfl
theorem k_X4_120 : Cond.methodLink RX4 120 yX4_know ∈ z_tbl := z_mem (List.mem_append_right _ (List.mem_of_getElem? (i := 762) (by decide +kernel))) rfl
theorem k_X4_116 : Cond.methodLink RX4 116 yX4_take ∈ z_tbl := z_mem (List.mem_append_right _ (List.mem_of_getElem? (i := 766) (by decide +kernel))) rfl
theorem k_L_66 : Cond.methodLink RL 66 yX4_about ∈ z_tbl := z_mem (List.mem_append_right _ (List.mem_of_getElem? (i := 770) (by decide +kernel))) rfl
theorem k_X4_130 : Cond.methodLink RX4 130 yX4_isServed ∈ z_tbl := z_mem (List.mem_append_right _ (List.mem_of_getElem? (i := 774) (by decide +kernel))) rfl
theorem k_X4_124 : Cond.methodLink RX4 124 yX4_isOut ∈ z_tbl := z_mem (List.mem_append_right _ (List.mem_of_getElem? (i := 778) (by decide +kernel))) rfl
theorem k_L_70 : Cond.methodLink RL 70 yX4_rowOf ∈ z_tbl := z_mem (List.mem_append_right _ (List.mem_of_getElem? (i := 782) (by decide +kernel))) rfl
theorem k_L_74 : Cond.methodLink RL 74 yX4_solve ∈ z_tbl := z_mem (List.mem_append_right _ (List.mem_of_getElem? (i := 786) (by decide +kernel))) rfl
theorem k_L_79 : Cond.methodLink RL 79 yX4_why ∈ z_tbl := z_mem (List.mem_append_right _ (List.mem_of_getElem? (i := 790) (by decide +kernel))) rfl
theorem n_X4_133 : Cond.constantLong RX4 133 (-1) ∈ z_tbl := z_mem (List.mem_append_right _ (List.mem_of_getElem? (i := 794) (by decide +kernel))) rfl
theorem k_X4_135 : Cond.methodLink RX4 135 yX4_byRows ∈ z_tbl := z_mem (List.mem_append_right _ (List.mem_of_getElem? (i := 795) (by decide +kernel))) rfl
theorem k_L_83 : Cond.methodLink RL 83 yX4_gets ∈ z_tbl := z_mem (List.mem_append_right _ (List.mem_of_getElem? (i := 799) (by decide +kernel))) rfl
theorem k_L_87 : Cond.methodLink RL 87 yX4_lack ∈ z_tbl := z_mem (List.mem_append_right _ (List.mem_of_getElem? (i := 803) (by decide +kernel))) rfl
theorem k_X4_138 : Cond.methodLink RX4 138 yX4_isEven ∈ z_tbl := z_mem (List.mem_append_right _ (List.mem_of_getElem? (i := 807) (by decide +kernel))) rfl
theorem k_L_92 : Cond.methodLink RL 92 yX4_left ∈ z_tbl := z_mem (List.mem_append_right _ (List.mem_of_getElem? (i := 811) (by decide +kernel))) rfl
theorem k_X4_144 : Cond.methodLink RX4 144 yX4_served ∈ z_tbl := z_mem (List.mem_append_right _ (List.mem_of_getElem? (i := 815) (by decide +kernel))) rfl
theorem k_X4_141 : Cond.methodLink RX4 141 yX4_knowAll ∈ z_tbl := z_mem (List.mem_append_right _ (List.mem_of_getElem? (i := 819) (by decide +kernel))) rfl
theorem k_L_96 : Cond.methodLink RL 96 yX4_needs ∈ z_tbl := z_mem (List.mem_append_right _ (List.mem_of_getElem? (i := 823) (by decide +kernel))) rfl
theorem k_X4_148 : Cond.methodLink RX4 148 yX4_findNeeds ∈ z_tbl := z_mem (List.mem_append_right _ (List.mem_of_getElem? (i := 827) (by decide +kernel))) rfl
theorem k_L_100 : Cond.methodLink RL 100 yX4_need ∈ z_tbl := z_mem (List.mem_append_right _ (List.mem_of_getElem? (i := 831) (by decide +kernel))) rfl
theorem k_L_104 : Cond.methodLink RL 104 yX4_below ∈ z_tbl := z_mem (List.mem_append_right _ (List.mem_of_getElem? (i := 835) (by decide +kernel))) rfl
theorem k_X4_158 : Cond.methodLink RX4 158 yX4_orders ∈ z_tbl := z_mem (List.mem_append_right _ (List.mem_of_getElem? (i := 839) (by decide +kernel))) rfl
theorem k_X4_154 : Cond.methodLink RX4 154 yX4_behind ∈ z_tbl := z_mem (List.mem_append_right _ (List.mem_of_getElem? (i := 843) (by decide +kernel))) rfl
theorem k_X4_151 : Cond.methodLink RX4 151 yX4_mayFollow ∈ z_tbl := z_mem (List.mem_append_right _ (List.mem_of_getElem? (i := 847) (by decide +kernel))) rfl
theorem k_L_108 : Cond.methodLink RL 108 yX4_order ∈ z_tbl := z_mem (List.mem_append_right _ (List.mem_of_getElem? (i := 851) (by decide +kernel))) rfl
theorem k_L_112 : Cond.methodLink RL 112 yX4_above ∈ z_tbl := z_mem (List.mem_append_right _ (List.mem_of_getElem? (i := 855) (by decide +kernel))) rfl
theorem k_X4_164 : Cond.methodLink RX4 164 yX4_groups ∈ z_tbl := z_mem (List.mem_append_right _ (List.mem_of_getElem? (i := 859) (by decide +kernel))) rfl
theorem k_X4_161 : Cond.methodLink RX4 161 yX4_goTogether ∈ z_tbl := z_mem (List.mem_append_right _ (List.mem_of_getElem? (i := 863) (by decide +kernel))) rfl
theorem k_L_116 : Cond.methodLink RL 116 yX4_group ∈ z_tbl := z_mem (List.mem_append_right _ (List.mem_of_getElem? (i := 867) (by decide +kernel))) rfl
theorem k_L_120 : Cond.methodLink RL 120 yX4_least ∈ z_tbl := z_mem (List.mem_append_right _ (List.mem_of_getElem? (i := 871) (by decide +kernel))) rfl
theorem k_X4_188 : Cond.methodLink RX4 188 yX4_planSize ∈ z_tbl := z_mem (List.mem_append_right _ (List.mem_of_getElem? (i := 875) (by decide +kernel))) rfl
theorem k_X4_181 : Cond.methodLink RX4 181 yX4_begin ∈ z_tbl := z_mem (List.mem_append_right _ (List.mem_of_getElem? (i := 879) (by decide +kernel))) rfl
theorem k_X4_175 : Cond.methodLink RX4 175 yX4_servedBy ∈ z_tbl := z_mem (List.mem_append_right _ (List.mem_of_getElem? (i := 883) (by decide +kernel))) rfl
theorem k_X4_185 : Cond.methodLink RX4 185 yX4_isPlan ∈ z_tbl := z_mem (List.mem_append_right _ (List.mem_of_getElem? (i := 887) (by decide +kernel))) rfl
theorem k_X4_178 : Cond.methodLink RX4 178 yX4_step ∈ z_tbl := z_mem (List.mem_append_right _ (List.mem_of_getElem? (i := 891) (by decide +kernel))) rfl
theorem k_X4_172 : Cond.methodLink RX4 172 yX4_with ∈ z_tbl := z_mem (List.mem_append_right _ (List.mem_of_getElem? (i := 895) (by decide +kernel))) rfl
theorem n_X4_167 : Cond.constant RX4 167 (1431655765) ∈ z_tbl := z_mem (List.mem_append_right _ (List.mem_of_getElem? (i := 899) (by decide +kernel))) rfl
theorem n_X4_168 : Cond.constant RX4 168 (858993459) ∈ z_tbl := z_mem (List.mem_append_right _ (List.mem_of_getElem? (i := 900) (by decide +kernel))) rfl
theorem n_X4_169 : Cond.constant RX4 169 (252645135) ∈ z_tbl := z_mem (List.mem_append_right _ (List.mem_of_getElem? (i := 901) (by decide +kernel))) rfl
theorem n_X4_170 : Cond.constant RX4 170 (16711935) ∈ z_tbl := z_mem (List.mem_append_right _ (List.mem_of_getElem? (i := 902) (by decide +kernel))) rfl
theorem n_X4_171 : Cond.constant RX4 171 (65535) ∈ z_tbl := z_mem (List.mem_append_right _ (List.mem_of_getElem? (i := 903) (by decide +kernel))) rfl
theorem k_L_124 : Cond.methodLink RL 124 yX4_planned ∈ z_tbl := z_mem (List.mem_append_right _ (List.mem_of_getElem? (i := 904) (by decide +kernel))) rfl
theorem k_L_129 : Cond.methodLink RL 129 yX4_plan ∈ z_tbl := z_mem (List.mem_append_right _ (List.mem_of_getElem? (i := 908) (by decide +kernel))) rfl
theorem k_L_133 : Cond.methodLink RL 133 yX4_goOn ∈ z_tbl := z_mem (List.mem_append_right _ (List.mem_of_getElem? (i := 912) (by decide +kernel))) rfl
theorem k_X4_191 : Cond.methodLink RX4 191 yX4_next ∈ z_tbl := z_mem (List.mem_append_right _ (List.mem_of_getElem? (i := 916) (by decide +kernel))) rfl
theorem k_L_137 : Cond.methodLink RL 137 yX4_finish ∈ z_tbl := z_mem (List.mem_append_right _ (List.mem_of_getElem? (i := 920) (by decide +kernel))) rfl
theorem k_X4_194 : Cond.methodLink RX4 194 yX4_goOn ∈ z_tbl := z_mem (List.mem_append_right _ (List.mem_of_getElem? (i := 924) (by decide +kernel))) rfl
theorem k_L_141 : Cond.methodLink RL 141 yX4_count ∈ z_tbl := z_mem (List.mem_append_right _ (List.mem_of_getElem? (i := 925) (by decide +kernel))) rfl
theorem n_L_13 : Cond.constantLong RL 13 (4294967295) ∈ z_tbl := z_mem (List.mem_append_right _ (List.mem_of_getElem? (i := 929) (by decide +kernel))) rfl
theorem Y_X3_init : z_YI yX3_init cX3_init 1 0 := ⟨z_mem (List.mem_append_right _ (List.mem_of_getElem? (i := 21) (by decide +kernel))) rfl, z_mem (List.mem_append_right _ (List.mem_of_getElem? (i := 20) (by decide +kernel))) rfl, z_mem (List.mem_append_right _ (List.mem_of_getElem? (i := 1) (by decide +kernel))) rfl, rfl, ⟨by decide, by decide, by decide +kernel⟩, by decide⟩
theorem Y_Jx4a65c_init_da8c8 : z_YI yJx4a65c_init_da8c8 cJx4a65c_init_da8c8 1 0 := ⟨z_mem (List.mem_append_right _ (List.mem_of_getElem? (i := 29) (by decide +kernel))) rfl, z_mem (List.mem_append_right _ (List.mem_of_getElem? (i := 28) (by decide +kernel))) rfl, z_mem (List.mem_append_right _ (List.mem_of_getElem? (i := 4) (by decide +kernel))) rfl, rfl, ⟨by decide, by decide, by decide +kernel⟩, by decide⟩
theorem Y_Jxc12de_init_da8c8 : z_YI yJxc12de_init_da8c8 cJxc12de_init_da8c8 1 0 := ⟨z_mem (List.mem_append_right _ (List.mem_of_getElem? (i := 32) (by decide +kernel))) rfl, z_mem (List.mem_append_right _ (List.mem_of_getElem? (i := 31) (by decide +kernel))) rfl, z_mem (List.mem_append_right _ (List.mem_of_getElem? (i := 3) (by decide +kernel))) rfl, rfl, ⟨by decide, by decide, by decide +kernel⟩, by decide⟩
theorem Y_Jxa1e45_init_da8c8 : z_YI yJxa1e45_init_da8c8 cJxa1e45_init_da8c8 1 0 := ⟨z_mem (List.mem_append_right _ (List.mem_of_getElem? (i := 35) (by decide +kernel))) rfl, z_mem (List.mem_append_right _ (List.mem_of_getElem? (i := 34) (by decide +kernel))) rfl, z_mem (List.mem_append_right _ (List.mem_of_getElem? (i := 2) (by decide +kernel))) rfl, rfl, ⟨by decide, by decide, by decide +kernel⟩, by decide⟩
theorem Y_X2_init : z_YI yX2_init cX2_init 1 0 := ⟨z_mem (List.mem_append_right _ (List.mem_of_getElem? (i := 56) (by decide +kernel))) rfl, z_mem (List.mem_append_right _ (List.mem_of_getElem? (i := 55) (by decide +kernel))) rfl, z_mem (List.mem_append_right _ (List.mem_of_getElem? (i := 5) (by decide +kernel))) rfl, rfl, ⟨by decide, by decide, by decide +kernel⟩, by decide⟩
theorem Y_X0_init : z_YI yX0_init cX0_init 2 0 := ⟨z_mem (List.mem_append_right _ (List.mem_of_getElem? (i := 85) (by decide +kernel))) rfl, z_mem (List.mem_append_right _ (List.mem_of_getElem? (i := 84) (by decide +kernel))) rfl, z_mem (List.mem_append_right _ (List.mem_of_getElem? (i := 6) (by decide +kernel))) rfl, rfl, ⟨by decide, by decide, by decide +kernel⟩, by decide⟩
theorem Y_X3_piece : z_YV yX3_piece cX3_piece 3 (some .int) 1 4 := ⟨z_mem (List.mem_append_right _ (List.mem_of_getElem? (i := 133) (by decide +kernel))) rfl, z_mem (List.mem_append_right _ (List.mem_of_getElem? (i := 131) (by decide +kernel))) rfl, z_mem (List.mem_append_right _ (List.mem_of_getElem? (i := 132) (by decide +kernel))) rfl, z_mem (List.mem_append_right _ (List.mem_of_getElem? (i := 1) (by decide +kernel))) rfl, ⟨by decide, by decide, by decide +kernel⟩, by decide, by decide, rfl⟩
theorem Y_X3_bytes : z_YV yX3_bytes cX3_bytes 2 (some .long) 1 4 := ⟨z_mem (List.mem_append_right _ (List.mem_of_getElem? (i := 137) (by decide +kernel))) rfl, z_mem (List.mem_append_right _ (List.mem_of_getElem? (i := 135) (by decide +kernel))) rfl, z_mem (List.mem_append_right _ (List.mem_of_getElem? (i := 136) (by decide +kernel))) rfl, z_mem (List.mem_append_right _ (List.mem_of_getElem? (i := 1) (by decide +kernel))) rfl, ⟨by decide, by decide, by decide +kernel⟩, by decide, by decide, rfl⟩
theorem Y_X3_isPiece : z_YV yX3_isPiece cX3_isPiece 2 (some .boolean) 1 4 := ⟨z_mem (List.mem_append_right _ (List.mem_of_getElem? (i := 141) (by decide +kernel))) rfl, z_mem (List.mem_append_right _ (List.mem_of_getElem? (i := 140) (by decide +kernel))) rfl, z_mem (List.mem_append_left _ (List.mem_of_getElem? (i := 0) (by decide +kernel))) rfl, z_mem (List.mem_append_right _ (List.mem_of_getElem? (i := 1) (by decide +kernel))) rfl, ⟨by decide, by decide, by decide +kernel⟩, by decide, by decide, rfl⟩
theorem Y_X3_listener : z_YV yX3_listener cX3_listener 2 (some .int) 1 4 := ⟨z_mem (List.mem_append_right _ (List.mem_of_getElem? (i := 145) (by decide +kernel))) rfl, z_mem (List.mem_append_right _ (List.mem_of_getElem? (i := 143) (by decide +kernel))) rfl, z_mem (List.mem_append_right _ (List.mem_of_getElem? (i := 144) (by decide +kernel))) rfl, z_mem (List.mem_append_right _ (List.mem_of_getElem? (i := 1) (by decide +kernel))) rfl, ⟨by decide, by decide, by decide +kernel⟩, by decide, by decide, rfl⟩
theorem Y_Jx4a65c_size_8abf5 : z_YV yJx4a65c_size_8abf5 cJx4a65c_size_8abf5 1 (some .int) 0 0 := ⟨z_mem (List.mem_append_right _ (List.mem_of_getElem? (i := 149) (by decide +kernel))) rfl, z_mem (List.mem_append_right _ (List.mem_of_getElem? (i := 147) (by decide +kernel))) rfl, z_mem (List.mem_append_right _ (List.mem_of_getElem? (i := 148) (by decide +kernel))) rfl, z_mem (List.mem_append_right _ (List.mem_of_getElem? (i := 4) (by decide +kernel))) rfl, ⟨by decide, by decide, by decide +kernel⟩, by decide, by decide, rfl⟩
theorem Y_X1_init : z_YI yX1_init cX1_init 2 1 := ⟨z_mem (List.mem_append_right _ (List.mem_of_getElem? (i := 154) (by decide +kernel))) rfl, z_mem (List.mem_append_right _ (List.mem_of_getElem? (i := 153) (by decide +kernel))) rfl, z_mem (List.mem_append_right _ (List.mem_of_getElem? (i := 8) (by decide +kernel))) rfl, rfl, ⟨by decide, by decide, by decide +kernel⟩, by decide⟩
theorem Y_Jx4a65c_add_9ea2d : z_YV yJx4a65c_add_9ea2d cJx4a65c_add_9ea2d 2 (some .boolean) 1 0 := ⟨z_mem (List.mem_append_right _ (List.mem_of_getElem? (i := 196) (by decide +kernel))) rfl, z_mem (List.mem_append_right _ (List.mem_of_getElem? (i := 194) (by decide +kernel))) rfl, z_mem (List.mem_append_right _ (List.mem_of_getElem? (i := 195) (by decide +kernel))) rfl, z_mem (List.mem_append_right _ (List.mem_of_getElem? (i := 4) (by decide +kernel))) rfl, ⟨by decide, by decide, by decide +kernel⟩, by decide, by decide, rfl⟩
theorem Y_Jx4a65c_add_72be8 : z_YV yJx4a65c_add_72be8 cJx4a65c_add_72be8 4 none 3 0 := ⟨z_mem (List.mem_append_right _ (List.mem_of_getElem? (i := 200) (by decide +kernel))) rfl, z_mem (List.mem_append_right _ (List.mem_of_getElem? (i := 199) (by decide +kernel))) rfl, z_mem (List.mem_append_left _ (List.mem_of_getElem? (i := 1) (by decide +kernel))) rfl, z_mem (List.mem_append_right _ (List.mem_of_getElem? (i := 4) (by decide +kernel))) rfl, ⟨by decide, by decide, by decide +kernel⟩, by decide, by decide, rfl⟩
theorem Y_Jx4a65c_grow_d5877 : z_YV yJx4a65c_grow_d5877 cJx4a65c_grow_d5877 1 (some (.array (.object "java/lang/Object"))) 0 0 := ⟨z_mem (List.mem_append_right _ (List.mem_of_getElem? (i := 204) (by decide +kernel))) rfl, z_mem (List.mem_append_right _ (List.mem_of_getElem? (i := 203) (by decide +kernel))) rfl, z_mem (List.mem_append_left _ (List.mem_of_getElem? (i := 2) (by decide +kernel))) rfl, z_mem (List.mem_append_right _ (List.mem_of_getElem? (i := 4) (by decide +kernel))) rfl, ⟨by decide, by decide, by decide +kernel⟩, by decide, by decide, rfl⟩
theorem Y_Jx4a65c_grow_92f84 : z_YV yJx4a65c_grow_92f84 cJx4a65c_grow_92f84 4 (some (.array (.object "java/lang/Object"))) 1 0 := ⟨z_mem (List.mem_append_right _ (List.mem_of_getElem? (i := 208) (by decide +kernel))) rfl, z_mem (List.mem_append_right _ (List.mem_of_getElem? (i := 207) (by decide +kernel))) rfl, z_mem (List.mem_append_left _ (List.mem_of_getElem? (i := 3) (by decide +kernel))) rfl, z_mem (List.mem_append_right _ (List.mem_of_getElem? (i := 4) (by decide +kernel))) rfl, ⟨by decide, by decide, by decide +kernel⟩, by decide, by decide, rfl⟩
theorem Y_J8_newLength_cabcc : z_YS yJ8_newLength_cabcc cJ8_newLength_cabcc 4 (some .int) 3 := ⟨z_mem (List.mem_append_right _ (List.mem_of_getElem? (i := 211) (by decide +kernel))) rfl, z_mem (List.mem_append_right _ (List.mem_of_getElem? (i := 210) (by decide +kernel))) rfl, z_mem (List.mem_append_right _ (List.mem_of_getElem? (i := 9) (by decide +kernel))) rfl, ⟨by decide, by decide, by decide +kernel⟩, by decide⟩
theorem Y_J9_max_7cf53 : z_YS yJ9_max_7cf53 cJ9_max_7cf53 2 (some .int) 2 := ⟨z_mem (List.mem_append_right _ (List.mem_of_getElem? (i := 214) (by decide +kernel))) rfl, z_mem (List.mem_append_right _ (List.mem_of_getElem? (i := 213) (by decide +kernel))) rfl, z_mem (List.mem_append_right _ (List.mem_of_getElem? (i := 10) (by decide +kernel))) rfl, ⟨by decide, by decide, by decide +kernel⟩, by decide⟩
theorem Y_J8_hugeLength_7cf53 : z_YS yJ8_hugeLength_7cf53 cJ8_hugeLength_7cf53 3 (some .int) 2 := ⟨z_mem (List.mem_append_right _ (List.mem_of_getElem? (i := 218) (by decide +kernel))) rfl, z_mem (List.mem_append_right _ (List.mem_of_getElem? (i := 217) (by decide +kernel))) rfl, z_mem (List.mem_append_right _ (List.mem_of_getElem? (i := 9) (by decide +kernel))) rfl, ⟨by decide, by decide, by decide +kernel⟩, by decide⟩
theorem Y_J7_copyOf_1904c : z_YS yJ7_copyOf_1904c cJ7_copyOf_1904c 2 (some (.array (.object "java/lang/Object"))) 2 := ⟨z_mem (List.mem_append_right _ (List.mem_of_getElem? (i := 221) (by decide +kernel))) rfl, z_mem (List.mem_append_right _ (List.mem_of_getElem? (i := 220) (by decide +kernel))) rfl, z_mem (List.mem_append_right _ (List.mem_of_getElem? (i := 11) (by decide +kernel))) rfl, ⟨by decide, by decide, by decide +kernel⟩, by decide⟩
theorem Y_J7_copyOf_6403c : z_YS yJ7_copyOf_6403c cJ7_copyOf_6403c 4 (some (.array (.object "java/lang/Object"))) 3 := ⟨z_mem (List.mem_append_right _ (List.mem_of_getElem? (i := 234) (by decide +kernel))) rfl, z_mem (List.mem_append_right _ (List.mem_of_getElem? (i := 233) (by decide +kernel))) rfl, z_mem (List.mem_append_right _ (List.mem_of_getElem? (i := 11) (by decide +kernel))) rfl, ⟨by decide, by decide, by decide +kernel⟩, by decide⟩
theorem Y_J9_min_7cf53 : z_YS yJ9_min_7cf53 cJ9_min_7cf53 2 (some .int) 2 := ⟨z_mem (List.mem_append_right _ (List.mem_of_getElem? (i := 240) (by decide +kernel))) rfl, z_mem (List.mem_append_right _ (List.mem_of_getElem? (i := 239) (by decide +kernel))) rfl, z_mem (List.mem_append_right _ (List.mem_of_getElem? (i := 10) (by decide +kernel))) rfl, ⟨by decide, by decide, by decide +kernel⟩, by decide⟩
theorem Y_X3_wants : z_YV yX3_wants cX3_wants 4 (some .int) 2 4 := ⟨z_mem (List.mem_append_right _ (List.mem_of_getElem? (i := 249) (by decide +kernel))) rfl, z_mem (List.mem_append_right _ (List.mem_of_getElem? (i := 247) (by decide +kernel))) rfl, z_mem (List.mem_append_right _ (List.mem_of_getElem? (i := 248) (by decide +kernel))) rfl, z_mem (List.mem_append_right _ (List.mem_of_getElem? (i := 1) (by decide +kernel))) rfl, ⟨by decide, by decide, by decide +kernel⟩, by decide, by decide, rfl⟩
theorem Y_X3_isListener : z_YV yX3_isListener cX3_isListener 2 (some .boolean) 1 4 := ⟨z_mem (List.mem_append_right _ (List.mem_of_getElem? (i := 253) (by decide +kernel))) rfl, z_mem (List.mem_append_right _ (List.mem_of_getElem? (i := 252) (by decide +kernel))) rfl, z_mem (List.mem_append_left _ (List.mem_of_getElem? (i := 4) (by decide +kernel))) rfl, z_mem (List.mem_append_right _ (List.mem_of_getElem? (i := 1) (by decide +kernel))) rfl, ⟨by decide, by decide, by decide +kernel⟩, by decide, by decide, rfl⟩
theorem Y_Jx4a65c_get_915e3 : z_YV yJx4a65c_get_915e3 cJx4a65c_get_915e3 2 (some (.object "java/lang/Object")) 1 0 := ⟨z_mem (List.mem_append_right _ (List.mem_of_getElem? (i := 257) (by decide +kernel))) rfl, z_mem (List.mem_append_right _ (List.mem_of_getElem? (i := 255) (by decide +kernel))) rfl, z_mem (List.mem_append_right _ (List.mem_of_getElem? (i := 256) (by decide +kernel))) rfl, z_mem (List.mem_append_right _ (List.mem_of_getElem? (i := 4) (by decide +kernel))) rfl, ⟨by decide, by decide, by decide +kernel⟩, by decide, by decide, rfl⟩
theorem Y_J15_checkIndex_7cf53 : z_YS yJ15_checkIndex_7cf53 cJ15_checkIndex_7cf53 2 (some .int) 2 := ⟨z_mem (List.mem_append_right _ (List.mem_of_getElem? (i := 260) (by decide +kernel))) rfl, z_mem (List.mem_append_right _ (List.mem_of_getElem? (i := 259) (by decide +kernel))) rfl, z_mem (List.mem_append_right _ (List.mem_of_getElem? (i := 13) (by decide +kernel))) rfl, ⟨by decide, by decide, by decide +kernel⟩, by decide⟩
theorem Y_J3_checkIndex_8e157 : z_YS yJ3_checkIndex_8e157 cJ3_checkIndex_8e157 3 (some .int) 3 := ⟨z_mem (List.mem_append_right _ (List.mem_of_getElem? (i := 263) (by decide +kernel))) rfl, z_mem (List.mem_append_right _ (List.mem_of_getElem? (i := 262) (by decide +kernel))) rfl, z_mem (List.mem_append_right _ (List.mem_of_getElem? (i := 14) (by decide +kernel))) rfl, ⟨by decide, by decide, by decide +kernel⟩, by decide⟩
theorem Y_Jx4a65c_elementData_915e3 : z_YV yJx4a65c_elementData_915e3 cJx4a65c_elementData_915e3 2 (some (.object "java/lang/Object")) 1 0 := ⟨z_mem (List.mem_append_right _ (List.mem_of_getElem? (i := 267) (by decide +kernel))) rfl, z_mem (List.mem_append_right _ (List.mem_of_getElem? (i := 265) (by decide +kernel))) rfl, z_mem (List.mem_append_right _ (List.mem_of_getElem? (i := 266) (by decide +kernel))) rfl, z_mem (List.mem_append_right _ (List.mem_of_getElem? (i := 4) (by decide +kernel))) rfl, ⟨by decide, by decide, by decide +kernel⟩, by decide, by decide, rfl⟩
theorem Y_X3_isIn : z_YS yX3_isIn cX3_isIn 2 (some .boolean) 2 := ⟨z_mem (List.mem_append_right _ (List.mem_of_getElem? (i := 270) (by decide +kernel))) rfl, z_mem (List.mem_append_right _ (List.mem_of_getElem? (i := 269) (by decide +kernel))) rfl, z_mem (List.mem_append_right _ (List.mem_of_getElem? (i := 1) (by decide +kernel))) rfl, ⟨by decide, by decide, by decide +kernel⟩, by decide⟩
theorem Y_X3_has : z_YV yX3_has cX3_has 4 (some .int) 2 4 := ⟨z_mem (List.mem_append_right _ (List.mem_of_getElem? (i := 274) (by decide +kernel))) rfl, z_mem (List.mem_append_right _ (List.mem_of_getElem? (i := 272) (by decide +kernel))) rfl, z_mem (List.mem_append_right _ (List.mem_of_getElem? (i := 273) (by decide +kernel))) rfl, z_mem (List.mem_append_right _ (List.mem_of_getElem? (i := 1) (by decide +kernel))) rfl, ⟨by decide, by decide, by decide +kernel⟩, by decide, by decide, rfl⟩
theorem Y_X3_isMask : z_YV yX3_isMask cX3_isMask 2 (some .boolean) 1 4 := ⟨z_mem (List.mem_append_right _ (List.mem_of_getElem? (i := 278) (by decide +kernel))) rfl, z_mem (List.mem_append_right _ (List.mem_of_getElem? (i := 277) (by decide +kernel))) rfl, z_mem (List.mem_append_left _ (List.mem_of_getElem? (i := 5) (by decide +kernel))) rfl, z_mem (List.mem_append_right _ (List.mem_of_getElem? (i := 1) (by decide +kernel))) rfl, ⟨by decide, by decide, by decide +kernel⟩, by decide, by decide, rfl⟩
theorem Y_X3_allPieces : z_YV yX3_allPieces cX3_allPieces 1 (some .int) 0 4 := ⟨z_mem (List.mem_append_right _ (List.mem_of_getElem? (i := 282) (by decide +kernel))) rfl, z_mem (List.mem_append_right _ (List.mem_of_getElem? (i := 281) (by decide +kernel))) rfl, z_mem (List.mem_append_left _ (List.mem_of_getElem? (i := 6) (by decide +kernel))) rfl, z_mem (List.mem_append_right _ (List.mem_of_getElem? (i := 1) (by decide +kernel))) rfl, ⟨by decide, by decide, by decide +kernel⟩, by decide, by decide, rfl⟩
theorem Y_X1_mayHave : z_YV yX1_mayHave cX1_mayHave 3 (some .boolean) 1 2 := ⟨z_mem (List.mem_append_right _ (List.mem_of_getElem? (i := 286) (by decide +kernel))) rfl, z_mem (List.mem_append_right _ (List.mem_of_getElem? (i := 284) (by decide +kernel))) rfl, z_mem (List.mem_append_right _ (List.mem_of_getElem? (i := 285) (by decide +kernel))) rfl, z_mem (List.mem_append_right _ (List.mem_of_getElem? (i := 8) (by decide +kernel))) rfl, ⟨by decide, by decide, by decide +kernel⟩, by decide, by decide, rfl⟩
theorem Y_J6_bitCount_0f7a4 : z_YS yJ6_bitCount_0f7a4 cJ6_bitCount_0f7a4 1 (some .int) 1 := ⟨z_mem (List.mem_append_right _ (List.mem_of_getElem? (i := 289) (by decide +kernel))) rfl, z_mem (List.mem_append_right _ (List.mem_of_getElem? (i := 288) (by decide +kernel))) rfl, z_mem (List.mem_append_right _ (List.mem_of_getElem? (i := 16) (by decide +kernel))) rfl, ⟨by decide, by decide, by decide +kernel⟩, by decide⟩
theorem Y_X1_getSum : z_YV yX1_getSum cX1_getSum 2 none 1 2 := ⟨z_mem (List.mem_append_right _ (List.mem_of_getElem? (i := 296) (by decide +kernel))) rfl, z_mem (List.mem_append_right _ (List.mem_of_getElem? (i := 294) (by decide +kernel))) rfl, z_mem (List.mem_append_right _ (List.mem_of_getElem? (i := 295) (by decide +kernel))) rfl, z_mem (List.mem_append_right _ (List.mem_of_getElem? (i := 8) (by decide +kernel))) rfl, ⟨by decide, by decide, by decide +kernel⟩, by decide, by decide, rfl⟩
theorem Y_X1_addRow : z_YV yX1_addRow cX1_addRow 2 (some .boolean) 1 2 := ⟨z_mem (List.mem_append_right _ (List.mem_of_getElem? (i := 300) (by decide +kernel))) rfl, z_mem (List.mem_append_right _ (List.mem_of_getElem? (i := 299) (by decide +kernel))) rfl, z_mem (List.mem_append_left _ (List.mem_of_getElem? (i := 7) (by decide +kernel))) rfl, z_mem (List.mem_append_right _ (List.mem_of_getElem? (i := 8) (by decide +kernel))) rfl, ⟨by decide, by decide, by decide +kernel⟩, by decide, by decide, rfl⟩
theorem Y_X0_learn : z_YV yX0_learn cX0_learn 9 (some .boolean) 2 1 := ⟨z_mem (List.mem_append_right _ (List.mem_of_getElem? (i := 304) (by decide +kernel))) rfl, z_mem (List.mem_append_right _ (List.mem_of_getElem? (i := 302) (by decide +kernel))) rfl, z_mem (List.mem_append_right _ (List.mem_of_getElem? (i := 303) (by decide +kernel))) rfl, z_mem (List.mem_append_right _ (List.mem_of_getElem? (i := 6) (by decide +kernel))) rfl, ⟨by decide, by decide, by decide +kernel⟩, by decide, by decide, rfl⟩
theorem Y_X0_restOf : z_YV yX0_restOf cX0_restOf 4 (some .int) 1 1 := ⟨z_mem (List.mem_append_right _ (List.mem_of_getElem? (i := 308) (by decide +kernel))) rfl, z_mem (List.mem_append_right _ (List.mem_of_getElem? (i := 306) (by decide +kernel))) rfl, z_mem (List.mem_append_right _ (List.mem_of_getElem? (i := 307) (by decide +kernel))) rfl, z_mem (List.mem_append_right _ (List.mem_of_getElem? (i := 6) (by decide +kernel))) rfl, ⟨by decide, by decide, by decide +kernel⟩, by decide, by decide, rfl⟩
theorem Y_X0_rowsOf : z_YV yX0_rowsOf cX0_rowsOf 5 (some .long) 1 1 := ⟨z_mem (List.mem_append_right _ (List.mem_of_getElem? (i := 313) (by decide +kernel))) rfl, z_mem (List.mem_append_right _ (List.mem_of_getElem? (i := 311) (by decide +kernel))) rfl, z_mem (List.mem_append_right _ (List.mem_of_getElem? (i := 312) (by decide +kernel))) rfl, z_mem (List.mem_append_right _ (List.mem_of_getElem? (i := 6) (by decide +kernel))) rfl, ⟨by decide, by decide, by decide +kernel⟩, by decide, by decide, rfl⟩
theorem Y_J6_highestOneBit_0f7a4 : z_YS yJ6_highestOneBit_0f7a4 cJ6_highestOneBit_0f7a4 1 (some .int) 1 := ⟨z_mem (List.mem_append_right _ (List.mem_of_getElem? (i := 316) (by decide +kernel))) rfl, z_mem (List.mem_append_right _ (List.mem_of_getElem? (i := 315) (by decide +kernel))) rfl, z_mem (List.mem_append_right _ (List.mem_of_getElem? (i := 16) (by decide +kernel))) rfl, ⟨by decide, by decide, by decide +kernel⟩, by decide⟩
theorem Y_J6_numberOfLeadingZeros_0f7a4 : z_YS yJ6_numberOfLeadingZeros_0f7a4 cJ6_numberOfLeadingZeros_0f7a4 2 (some .int) 1 := ⟨z_mem (List.mem_append_right _ (List.mem_of_getElem? (i := 320) (by decide +kernel))) rfl, z_mem (List.mem_append_right _ (List.mem_of_getElem? (i := 319) (by decide +kernel))) rfl, z_mem (List.mem_append_right _ (List.mem_of_getElem? (i := 16) (by decide +kernel))) rfl, ⟨by decide, by decide, by decide +kernel⟩, by decide⟩
theorem Y_X3_off : z_YV yX3_off cX3_off 5 (some .int) 2 4 := ⟨z_mem (List.mem_append_right _ (List.mem_of_getElem? (i := 325) (by decide +kernel))) rfl, z_mem (List.mem_append_right _ (List.mem_of_getElem? (i := 323) (by decide +kernel))) rfl, z_mem (List.mem_append_right _ (List.mem_of_getElem? (i := 324) (by decide +kernel))) rfl, z_mem (List.mem_append_right _ (List.mem_of_getElem? (i := 1) (by decide +kernel))) rfl, ⟨by decide, by decide, by decide +kernel⟩, by decide, by decide, rfl⟩
theorem Y_X3_oneIf : z_YS yX3_oneIf cX3_oneIf 1 (some .int) 1 := ⟨z_mem (List.mem_append_right _ (List.mem_of_getElem? (i := 328) (by decide +kernel))) rfl, z_mem (List.mem_append_right _ (List.mem_of_getElem? (i := 327) (by decide +kernel))) rfl, z_mem (List.mem_append_right _ (List.mem_of_getElem? (i := 1) (by decide +kernel))) rfl, ⟨by decide, by decide, by decide +kernel⟩, by decide⟩
theorem Y_X3_say : z_YV yX3_say cX3_say 2 (some .int) 1 4 := ⟨z_mem (List.mem_append_right _ (List.mem_of_getElem? (i := 332) (by decide +kernel))) rfl, z_mem (List.mem_append_right _ (List.mem_of_getElem? (i := 330) (by decide +kernel))) rfl, z_mem (List.mem_append_right _ (List.mem_of_getElem? (i := 331) (by decide +kernel))) rfl, z_mem (List.mem_append_right _ (List.mem_of_getElem? (i := 1) (by decide +kernel))) rfl, ⟨by decide, by decide, by decide +kernel⟩, by decide, by decide, rfl⟩
theorem Y_X3_speak : z_YV yX3_speak cX3_speak 5 (some .int) 1 4 := ⟨z_mem (List.mem_append_right _ (List.mem_of_getElem? (i := 336) (by decide +kernel))) rfl, z_mem (List.mem_append_right _ (List.mem_of_getElem? (i := 335) (by decide +kernel))) rfl, z_mem (List.mem_append_left _ (List.mem_of_getElem? (i := 8) (by decide +kernel))) rfl, z_mem (List.mem_append_right _ (List.mem_of_getElem? (i := 1) (by decide +kernel))) rfl, ⟨by decide, by decide, by decide +kernel⟩, by decide, by decide, rfl⟩
theorem Y_X1_hear : z_YV yX1_hear cX1_hear 3 (some .boolean) 2 2 := ⟨z_mem (List.mem_append_right _ (List.mem_of_getElem? (i := 340) (by decide +kernel))) rfl, z_mem (List.mem_append_right _ (List.mem_of_getElem? (i := 338) (by decide +kernel))) rfl, z_mem (List.mem_append_right _ (List.mem_of_getElem? (i := 339) (by decide +kernel))) rfl, z_mem (List.mem_append_right _ (List.mem_of_getElem? (i := 8) (by decide +kernel))) rfl, ⟨by decide, by decide, by decide +kernel⟩, by decide, by decide, rfl⟩
theorem Y_X3_again : z_YV yX3_again cX3_again 2 (some .int) 1 4 := ⟨z_mem (List.mem_append_right _ (List.mem_of_getElem? (i := 344) (by decide +kernel))) rfl, z_mem (List.mem_append_right _ (List.mem_of_getElem? (i := 342) (by decide +kernel))) rfl, z_mem (List.mem_append_right _ (List.mem_of_getElem? (i := 343) (by decide +kernel))) rfl, z_mem (List.mem_append_right _ (List.mem_of_getElem? (i := 1) (by decide +kernel))) rfl, ⟨by decide, by decide, by decide +kernel⟩, by decide, by decide, rfl⟩
theorem Y_X3_isCall : z_YV yX3_isCall cX3_isCall 2 (some .boolean) 1 4 := ⟨z_mem (List.mem_append_right _ (List.mem_of_getElem? (i := 348) (by decide +kernel))) rfl, z_mem (List.mem_append_right _ (List.mem_of_getElem? (i := 347) (by decide +kernel))) rfl, z_mem (List.mem_append_left _ (List.mem_of_getElem? (i := 9) (by decide +kernel))) rfl, z_mem (List.mem_append_right _ (List.mem_of_getElem? (i := 1) (by decide +kernel))) rfl, ⟨by decide, by decide, by decide +kernel⟩, by decide, by decide, rfl⟩
theorem Y_X3_call : z_YV yX3_call cX3_call 3 (some .int) 2 4 := ⟨z_mem (List.mem_append_right _ (List.mem_of_getElem? (i := 352) (by decide +kernel))) rfl, z_mem (List.mem_append_right _ (List.mem_of_getElem? (i := 350) (by decide +kernel))) rfl, z_mem (List.mem_append_right _ (List.mem_of_getElem? (i := 351) (by decide +kernel))) rfl, z_mem (List.mem_append_right _ (List.mem_of_getElem? (i := 1) (by decide +kernel))) rfl, ⟨by decide, by decide, by decide +kernel⟩, by decide, by decide, rfl⟩
theorem Y_X3_sum : z_YV yX3_sum cX3_sum 2 (some .long) 1 4 := ⟨z_mem (List.mem_append_right _ (List.mem_of_getElem? (i := 356) (by decide +kernel))) rfl, z_mem (List.mem_append_right _ (List.mem_of_getElem? (i := 354) (by decide +kernel))) rfl, z_mem (List.mem_append_right _ (List.mem_of_getElem? (i := 355) (by decide +kernel))) rfl, z_mem (List.mem_append_right _ (List.mem_of_getElem? (i := 1) (by decide +kernel))) rfl, ⟨by decide, by decide, by decide +kernel⟩, by decide, by decide, rfl⟩
theorem Y_X3_bytesOf : z_YV yX3_bytesOf cX3_bytesOf 5 (some .long) 1 4 := ⟨z_mem (List.mem_append_right _ (List.mem_of_getElem? (i := 360) (by decide +kernel))) rfl, z_mem (List.mem_append_right _ (List.mem_of_getElem? (i := 359) (by decide +kernel))) rfl, z_mem (List.mem_append_left _ (List.mem_of_getElem? (i := 10) (by decide +kernel))) rfl, z_mem (List.mem_append_right _ (List.mem_of_getElem? (i := 1) (by decide +kernel))) rfl, ⟨by decide, by decide, by decide +kernel⟩, by decide, by decide, rfl⟩
theorem Y_X3_heard : z_YV yX3_heard cX3_heard 3 (some .int) 2 4 := ⟨z_mem (List.mem_append_right _ (List.mem_of_getElem? (i := 364) (by decide +kernel))) rfl, z_mem (List.mem_append_right _ (List.mem_of_getElem? (i := 362) (by decide +kernel))) rfl, z_mem (List.mem_append_right _ (List.mem_of_getElem? (i := 363) (by decide +kernel))) rfl, z_mem (List.mem_append_right _ (List.mem_of_getElem? (i := 1) (by decide +kernel))) rfl, ⟨by decide, by decide, by decide +kernel⟩, by decide, by decide, rfl⟩
theorem Y_X3_about : z_YV yX3_about cX3_about 4 (some .int) 2 4 := ⟨z_mem (List.mem_append_right _ (List.mem_of_getElem? (i := 368) (by decide +kernel))) rfl, z_mem (List.mem_append_right _ (List.mem_of_getElem? (i := 366) (by decide +kernel))) rfl, z_mem (List.mem_append_right _ (List.mem_of_getElem? (i := 367) (by decide +kernel))) rfl, z_mem (List.mem_append_right _ (List.mem_of_getElem? (i := 1) (by decide +kernel))) rfl, ⟨by decide, by decide, by decide +kernel⟩, by decide, by decide, rfl⟩
theorem Y_X3_isServed : z_YV yX3_isServed cX3_isServed 2 (some .boolean) 1 4 := ⟨z_mem (List.mem_append_right _ (List.mem_of_getElem? (i := 372) (by decide +kernel))) rfl, z_mem (List.mem_append_right _ (List.mem_of_getElem? (i := 371) (by decide +kernel))) rfl, z_mem (List.mem_append_left _ (List.mem_of_getElem? (i := 11) (by decide +kernel))) rfl, z_mem (List.mem_append_right _ (List.mem_of_getElem? (i := 1) (by decide +kernel))) rfl, ⟨by decide, by decide, by decide +kernel⟩, by decide, by decide, rfl⟩
theorem Y_X1_isServedBy : z_YV yX1_isServedBy cX1_isServedBy 3 (some .boolean) 2 2 := ⟨z_mem (List.mem_append_right _ (List.mem_of_getElem? (i := 376) (by decide +kernel))) rfl, z_mem (List.mem_append_right _ (List.mem_of_getElem? (i := 374) (by decide +kernel))) rfl, z_mem (List.mem_append_right _ (List.mem_of_getElem? (i := 375) (by decide +kernel))) rfl, z_mem (List.mem_append_right _ (List.mem_of_getElem? (i := 8) (by decide +kernel))) rfl, ⟨by decide, by decide, by decide +kernel⟩, by decide, by decide, rfl⟩
theorem Y_X0_workedOut : z_YV yX0_workedOut cX0_workedOut 1 (some .int) 0 1 := ⟨z_mem (List.mem_append_right _ (List.mem_of_getElem? (i := 380) (by decide +kernel))) rfl, z_mem (List.mem_append_right _ (List.mem_of_getElem? (i := 378) (by decide +kernel))) rfl, z_mem (List.mem_append_right _ (List.mem_of_getElem? (i := 379) (by decide +kernel))) rfl, z_mem (List.mem_append_right _ (List.mem_of_getElem? (i := 6) (by decide +kernel))) rfl, ⟨by decide, by decide, by decide +kernel⟩, by decide, by decide, rfl⟩
theorem Y_X0_workedOutWith : z_YV yX0_workedOutWith cX0_workedOutWith 4 (some .int) 1 1 := ⟨z_mem (List.mem_append_right _ (List.mem_of_getElem? (i := 384) (by decide +kernel))) rfl, z_mem (List.mem_append_right _ (List.mem_of_getElem? (i := 382) (by decide +kernel))) rfl, z_mem (List.mem_append_right _ (List.mem_of_getElem? (i := 383) (by decide +kernel))) rfl, z_mem (List.mem_append_right _ (List.mem_of_getElem? (i := 6) (by decide +kernel))) rfl, ⟨by decide, by decide, by decide +kernel⟩, by decide, by decide, rfl⟩
theorem Y_X1_isServedWith : z_YV yX1_isServedWith cX1_isServedWith 3 (some .boolean) 2 2 := ⟨z_mem (List.mem_append_right _ (List.mem_of_getElem? (i := 388) (by decide +kernel))) rfl, z_mem (List.mem_append_right _ (List.mem_of_getElem? (i := 387) (by decide +kernel))) rfl, z_mem (List.mem_append_left _ (List.mem_of_getElem? (i := 12) (by decide +kernel))) rfl, z_mem (List.mem_append_right _ (List.mem_of_getElem? (i := 8) (by decide +kernel))) rfl, ⟨by decide, by decide, by decide +kernel⟩, by decide, by decide, rfl⟩
theorem Y_X3_rowOf : z_YV yX3_rowOf cX3_rowOf 4 (some .int) 2 4 := ⟨z_mem (List.mem_append_right _ (List.mem_of_getElem? (i := 392) (by decide +kernel))) rfl, z_mem (List.mem_append_right _ (List.mem_of_getElem? (i := 390) (by decide +kernel))) rfl, z_mem (List.mem_append_right _ (List.mem_of_getElem? (i := 391) (by decide +kernel))) rfl, z_mem (List.mem_append_right _ (List.mem_of_getElem? (i := 1) (by decide +kernel))) rfl, ⟨by decide, by decide, by decide +kernel⟩, by decide, by decide, rfl⟩
theorem Y_X3_solve : z_YV yX3_solve cX3_solve 3 (some .int) 2 4 := ⟨z_mem (List.mem_append_right _ (List.mem_of_getElem? (i := 396) (by decide +kernel))) rfl, z_mem (List.mem_append_right _ (List.mem_of_getElem? (i := 394) (by decide +kernel))) rfl, z_mem (List.mem_append_right _ (List.mem_of_getElem? (i := 395) (by decide +kernel))) rfl, z_mem (List.mem_append_right _ (List.mem_of_getElem? (i := 1) (by decide +kernel))) rfl, ⟨by decide, by decide, by decide +kernel⟩, by decide, by decide, rfl⟩
theorem Y_X3_hasWorkedOut : z_YV yX3_hasWorkedOut cX3_hasWorkedOut 3 (some .boolean) 2 4 := ⟨z_mem (List.mem_append_right _ (List.mem_of_getElem? (i := 400) (by decide +kernel))) rfl, z_mem (List.mem_append_right _ (List.mem_of_getElem? (i := 399) (by decide +kernel))) rfl, z_mem (List.mem_append_left _ (List.mem_of_getElem? (i := 13) (by decide +kernel))) rfl, z_mem (List.mem_append_right _ (List.mem_of_getElem? (i := 1) (by decide +kernel))) rfl, ⟨by decide, by decide, by decide +kernel⟩, by decide, by decide, rfl⟩
theorem Y_X0_isWorkedOut : z_YV yX0_isWorkedOut cX0_isWorkedOut 2 (some .boolean) 1 1 := ⟨z_mem (List.mem_append_right _ (List.mem_of_getElem? (i := 404) (by decide +kernel))) rfl, z_mem (List.mem_append_right _ (List.mem_of_getElem? (i := 402) (by decide +kernel))) rfl, z_mem (List.mem_append_right _ (List.mem_of_getElem? (i := 403) (by decide +kernel))) rfl, z_mem (List.mem_append_right _ (List.mem_of_getElem? (i := 6) (by decide +kernel))) rfl, ⟨by decide, by decide, by decide +kernel⟩, by decide, by decide, rfl⟩
theorem Y_X3_why : z_YV yX3_why cX3_why 3 (some .long) 2 4 := ⟨z_mem (List.mem_append_right _ (List.mem_of_getElem? (i := 408) (by decide +kernel))) rfl, z_mem (List.mem_append_right _ (List.mem_of_getElem? (i := 406) (by decide +kernel))) rfl, z_mem (List.mem_append_right _ (List.mem_of_getElem? (i := 407) (by decide +kernel))) rfl, z_mem (List.mem_append_right _ (List.mem_of_getElem? (i := 1) (by decide +kernel))) rfl, ⟨by decide, by decide, by decide +kernel⟩, by decide, by decide, rfl⟩
theorem Y_X3_gets : z_YV yX3_gets cX3_gets 9 (some .long) 2 4 := ⟨z_mem (List.mem_append_right _ (List.mem_of_getElem? (i := 413) (by decide +kernel))) rfl, z_mem (List.mem_append_right _ (List.mem_of_getElem? (i := 411) (by decide +kernel))) rfl, z_mem (List.mem_append_right _ (List.mem_of_getElem? (i := 412) (by decide +kernel))) rfl, z_mem (List.mem_append_right _ (List.mem_of_getElem? (i := 1) (by decide +kernel))) rfl, ⟨by decide, by decide, by decide +kernel⟩, by decide, by decide, rfl⟩
theorem Y_X3_lack : z_YV yX3_lack cX3_lack 5 (some .int) 2 4 := ⟨z_mem (List.mem_append_right _ (List.mem_of_getElem? (i := 417) (by decide +kernel))) rfl, z_mem (List.mem_append_right _ (List.mem_of_getElem? (i := 415) (by decide +kernel))) rfl, z_mem (List.mem_append_right _ (List.mem_of_getElem? (i := 416) (by decide +kernel))) rfl, z_mem (List.mem_append_right _ (List.mem_of_getElem? (i := 1) (by decide +kernel))) rfl, ⟨by decide, by decide, by decide +kernel⟩, by decide, by decide, rfl⟩
theorem Y_X1_isEvenInAllRows : z_YV yX1_isEvenInAllRows cX1_isEvenInAllRows 3 (some .boolean) 1 2 := ⟨z_mem (List.mem_append_right _ (List.mem_of_getElem? (i := 421) (by decide +kernel))) rfl, z_mem (List.mem_append_right _ (List.mem_of_getElem? (i := 419) (by decide +kernel))) rfl, z_mem (List.mem_append_right _ (List.mem_of_getElem? (i := 420) (by decide +kernel))) rfl, z_mem (List.mem_append_right _ (List.mem_of_getElem? (i := 8) (by decide +kernel))) rfl, ⟨by decide, by decide, by decide +kernel⟩, by decide, by decide, rfl⟩
theorem Y_X3_left : z_YV yX3_left cX3_left 1 (some .int) 0 4 := ⟨z_mem (List.mem_append_right _ (List.mem_of_getElem? (i := 425) (by decide +kernel))) rfl, z_mem (List.mem_append_right _ (List.mem_of_getElem? (i := 423) (by decide +kernel))) rfl, z_mem (List.mem_append_right _ (List.mem_of_getElem? (i := 424) (by decide +kernel))) rfl, z_mem (List.mem_append_right _ (List.mem_of_getElem? (i := 1) (by decide +kernel))) rfl, ⟨by decide, by decide, by decide +kernel⟩, by decide, by decide, rfl⟩
theorem Y_X3_servedCount : z_YV yX3_servedCount cX3_servedCount 3 (some .int) 0 4 := ⟨z_mem (List.mem_append_right _ (List.mem_of_getElem? (i := 429) (by decide +kernel))) rfl, z_mem (List.mem_append_right _ (List.mem_of_getElem? (i := 428) (by decide +kernel))) rfl, z_mem (List.mem_append_left _ (List.mem_of_getElem? (i := 14) (by decide +kernel))) rfl, z_mem (List.mem_append_right _ (List.mem_of_getElem? (i := 1) (by decide +kernel))) rfl, ⟨by decide, by decide, by decide +kernel⟩, by decide, by decide, rfl⟩
theorem Y_X3_needs : z_YV yX3_needs cX3_needs 1 (some .int) 0 4 := ⟨z_mem (List.mem_append_right _ (List.mem_of_getElem? (i := 433) (by decide +kernel))) rfl, z_mem (List.mem_append_right _ (List.mem_of_getElem? (i := 431) (by decide +kernel))) rfl, z_mem (List.mem_append_right _ (List.mem_of_getElem? (i := 432) (by decide +kernel))) rfl, z_mem (List.mem_append_right _ (List.mem_of_getElem? (i := 1) (by decide +kernel))) rfl, ⟨by decide, by decide, by decide +kernel⟩, by decide, by decide, rfl⟩
theorem Y_X3_findNeeds : z_YV yX3_findNeeds cX3_findNeeds 5 none 0 4 := ⟨z_mem (List.mem_append_right _ (List.mem_of_getElem? (i := 437) (by decide +kernel))) rfl, z_mem (List.mem_append_right _ (List.mem_of_getElem? (i := 436) (by decide +kernel))) rfl, z_mem (List.mem_append_left _ (List.mem_of_getElem? (i := 15) (by decide +kernel))) rfl, z_mem (List.mem_append_right _ (List.mem_of_getElem? (i := 1) (by decide +kernel))) rfl, ⟨by decide, by decide, by decide +kernel⟩, by decide, by decide, rfl⟩
theorem Y_X2_put : z_YV yX2_put cX2_put 4 none 3 3 := ⟨z_mem (List.mem_append_right _ (List.mem_of_getElem? (i := 442) (by decide +kernel))) rfl, z_mem (List.mem_append_right _ (List.mem_of_getElem? (i := 440) (by decide +kernel))) rfl, z_mem (List.mem_append_right _ (List.mem_of_getElem? (i := 441) (by decide +kernel))) rfl, z_mem (List.mem_append_right _ (List.mem_of_getElem? (i := 5) (by decide +kernel))) rfl, ⟨by decide, by decide, by decide +kernel⟩, by decide, by decide, rfl⟩
theorem Y_X3_need : z_YV yX3_need cX3_need 3 (some .int) 2 4 := ⟨z_mem (List.mem_append_right _ (List.mem_of_getElem? (i := 446) (by decide +kernel))) rfl, z_mem (List.mem_append_right _ (List.mem_of_getElem? (i := 444) (by decide +kernel))) rfl, z_mem (List.mem_append_right _ (List.mem_of_getElem? (i := 445) (by decide +kernel))) rfl, z_mem (List.mem_append_right _ (List.mem_of_getElem? (i := 1) (by decide +kernel))) rfl, ⟨by decide, by decide, by decide +kernel⟩, by decide, by decide, rfl⟩
theorem Y_X3_below : z_YV yX3_below cX3_below 1 (some .int) 0 4 := ⟨z_mem (List.mem_append_right _ (List.mem_of_getElem? (i := 450) (by decide +kernel))) rfl, z_mem (List.mem_append_right _ (List.mem_of_getElem? (i := 448) (by decide +kernel))) rfl, z_mem (List.mem_append_right _ (List.mem_of_getElem? (i := 449) (by decide +kernel))) rfl, z_mem (List.mem_append_right _ (List.mem_of_getElem? (i := 1) (by decide +kernel))) rfl, ⟨by decide, by decide, by decide +kernel⟩, by decide, by decide, rfl⟩
theorem Y_X2_canBeSorted : z_YV yX2_canBeSorted cX2_canBeSorted 1 (some .boolean) 0 3 := ⟨z_mem (List.mem_append_right _ (List.mem_of_getElem? (i := 454) (by decide +kernel))) rfl, z_mem (List.mem_append_right _ (List.mem_of_getElem? (i := 452) (by decide +kernel))) rfl, z_mem (List.mem_append_right _ (List.mem_of_getElem? (i := 453) (by decide +kernel))) rfl, z_mem (List.mem_append_right _ (List.mem_of_getElem? (i := 5) (by decide +kernel))) rfl, ⟨by decide, by decide, by decide +kernel⟩, by decide, by decide, rfl⟩
theorem Y_X2_longestOrder : z_YV yX2_longestOrder cX2_longestOrder 1 (some .int) 0 3 := ⟨z_mem (List.mem_append_right _ (List.mem_of_getElem? (i := 458) (by decide +kernel))) rfl, z_mem (List.mem_append_right _ (List.mem_of_getElem? (i := 456) (by decide +kernel))) rfl, z_mem (List.mem_append_right _ (List.mem_of_getElem? (i := 457) (by decide +kernel))) rfl, z_mem (List.mem_append_right _ (List.mem_of_getElem? (i := 5) (by decide +kernel))) rfl, ⟨by decide, by decide, by decide +kernel⟩, by decide, by decide, rfl⟩
theorem Y_X2_fillOrders : z_YV yX2_fillOrders cX2_fillOrders 4 none 0 3 := ⟨z_mem (List.mem_append_right _ (List.mem_of_getElem? (i := 462) (by decide +kernel))) rfl, z_mem (List.mem_append_right _ (List.mem_of_getElem? (i := 461) (by decide +kernel))) rfl, z_mem (List.mem_append_left _ (List.mem_of_getElem? (i := 16) (by decide +kernel))) rfl, z_mem (List.mem_append_right _ (List.mem_of_getElem? (i := 5) (by decide +kernel))) rfl, ⟨by decide, by decide, by decide +kernel⟩, by decide, by decide, rfl⟩
theorem Y_X2_sortedCount : z_YV yX2_sortedCount cX2_sortedCount 1 (some .int) 0 3 := ⟨z_mem (List.mem_append_right _ (List.mem_of_getElem? (i := 466) (by decide +kernel))) rfl, z_mem (List.mem_append_right _ (List.mem_of_getElem? (i := 465) (by decide +kernel))) rfl, z_mem (List.mem_append_left _ (List.mem_of_getElem? (i := 17) (by decide +kernel))) rfl, z_mem (List.mem_append_right _ (List.mem_of_getElem? (i := 5) (by decide +kernel))) rfl, ⟨by decide, by decide, by decide +kernel⟩, by decide, by decide, rfl⟩
theorem Y_X2_canStandBehind : z_YV yX2_canStandBehind cX2_canStandBehind 4 (some .int) 1 3 := ⟨z_mem (List.mem_append_right _ (List.mem_of_getElem? (i := 471) (by decide +kernel))) rfl, z_mem (List.mem_append_right _ (List.mem_of_getElem? (i := 470) (by decide +kernel))) rfl, z_mem (List.mem_append_left _ (List.mem_of_getElem? (i := 18) (by decide +kernel))) rfl, z_mem (List.mem_append_right _ (List.mem_of_getElem? (i := 5) (by decide +kernel))) rfl, ⟨by decide, by decide, by decide +kernel⟩, by decide, by decide, rfl⟩
theorem Y_X2_allNeeds : z_YV yX2_allNeeds cX2_allNeeds 1 (some .int) 0 3 := ⟨z_mem (List.mem_append_right _ (List.mem_of_getElem? (i := 476) (by decide +kernel))) rfl, z_mem (List.mem_append_right _ (List.mem_of_getElem? (i := 475) (by decide +kernel))) rfl, z_mem (List.mem_append_left _ (List.mem_of_getElem? (i := 19) (by decide +kernel))) rfl, z_mem (List.mem_append_right _ (List.mem_of_getElem? (i := 5) (by decide +kernel))) rfl, ⟨by decide, by decide, by decide +kernel⟩, by decide, by decide, rfl⟩
theorem Y_X3_order : z_YV yX3_order cX3_order 2 (some .int) 1 4 := ⟨z_mem (List.mem_append_right _ (List.mem_of_getElem? (i := 481) (by decide +kernel))) rfl, z_mem (List.mem_append_right _ (List.mem_of_getElem? (i := 479) (by decide +kernel))) rfl, z_mem (List.mem_append_right _ (List.mem_of_getElem? (i := 480) (by decide +kernel))) rfl, z_mem (List.mem_append_right _ (List.mem_of_getElem? (i := 1) (by decide +kernel))) rfl, ⟨by decide, by decide, by decide +kernel⟩, by decide, by decide, rfl⟩
theorem Y_X2_inTheOrder : z_YV yX2_inTheOrder cX2_inTheOrder 4 (some .int) 1 3 := ⟨z_mem (List.mem_append_right _ (List.mem_of_getElem? (i := 485) (by decide +kernel))) rfl, z_mem (List.mem_append_right _ (List.mem_of_getElem? (i := 483) (by decide +kernel))) rfl, z_mem (List.mem_append_right _ (List.mem_of_getElem? (i := 484) (by decide +kernel))) rfl, z_mem (List.mem_append_right _ (List.mem_of_getElem? (i := 5) (by decide +kernel))) rfl, ⟨by decide, by decide, by decide +kernel⟩, by decide, by decide, rfl⟩
theorem Y_X2_firstOfLongest : z_YV yX2_firstOfLongest cX2_firstOfLongest 3 (some .int) 1 3 := ⟨z_mem (List.mem_append_right _ (List.mem_of_getElem? (i := 490) (by decide +kernel))) rfl, z_mem (List.mem_append_right _ (List.mem_of_getElem? (i := 489) (by decide +kernel))) rfl, z_mem (List.mem_append_left _ (List.mem_of_getElem? (i := 20) (by decide +kernel))) rfl, z_mem (List.mem_append_right _ (List.mem_of_getElem? (i := 5) (by decide +kernel))) rfl, ⟨by decide, by decide, by decide +kernel⟩, by decide, by decide, rfl⟩
theorem Y_X3_above : z_YV yX3_above cX3_above 1 (some .int) 0 4 := ⟨z_mem (List.mem_append_right _ (List.mem_of_getElem? (i := 494) (by decide +kernel))) rfl, z_mem (List.mem_append_right _ (List.mem_of_getElem? (i := 492) (by decide +kernel))) rfl, z_mem (List.mem_append_right _ (List.mem_of_getElem? (i := 493) (by decide +kernel))) rfl, z_mem (List.mem_append_right _ (List.mem_of_getElem? (i := 1) (by decide +kernel))) rfl, ⟨by decide, by decide, by decide +kernel⟩, by decide, by decide, rfl⟩
theorem Y_X2_fewestGroups : z_YV yX2_fewestGroups cX2_fewestGroups 1 (some .int) 0 3 := ⟨z_mem (List.mem_append_right _ (List.mem_of_getElem? (i := 498) (by decide +kernel))) rfl, z_mem (List.mem_append_right _ (List.mem_of_getElem? (i := 496) (by decide +kernel))) rfl, z_mem (List.mem_append_right _ (List.mem_of_getElem? (i := 497) (by decide +kernel))) rfl, z_mem (List.mem_append_right _ (List.mem_of_getElem? (i := 5) (by decide +kernel))) rfl, ⟨by decide, by decide, by decide +kernel⟩, by decide, by decide, rfl⟩
theorem Y_X2_fillGroups : z_YV yX2_fillGroups cX2_fillGroups 5 none 0 3 := ⟨z_mem (List.mem_append_right _ (List.mem_of_getElem? (i := 502) (by decide +kernel))) rfl, z_mem (List.mem_append_right _ (List.mem_of_getElem? (i := 501) (by decide +kernel))) rfl, z_mem (List.mem_append_left _ (List.mem_of_getElem? (i := 21) (by decide +kernel))) rfl, z_mem (List.mem_append_right _ (List.mem_of_getElem? (i := 5) (by decide +kernel))) rfl, ⟨by decide, by decide, by decide +kernel⟩, by decide, by decide, rfl⟩
theorem Y_X2_canBeGroupedWith : z_YV yX2_canBeGroupedWith cX2_canBeGroupedWith 5 (some .int) 1 3 := ⟨z_mem (List.mem_append_right _ (List.mem_of_getElem? (i := 506) (by decide +kernel))) rfl, z_mem (List.mem_append_right _ (List.mem_of_getElem? (i := 505) (by decide +kernel))) rfl, z_mem (List.mem_append_left _ (List.mem_of_getElem? (i := 22) (by decide +kernel))) rfl, z_mem (List.mem_append_right _ (List.mem_of_getElem? (i := 5) (by decide +kernel))) rfl, ⟨by decide, by decide, by decide +kernel⟩, by decide, by decide, rfl⟩
theorem Y_J6_numberOfTrailingZeros_0f7a4 : z_YS yJ6_numberOfTrailingZeros_0f7a4 cJ6_numberOfTrailingZeros_0f7a4 2 (some .int) 1 := ⟨z_mem (List.mem_append_right _ (List.mem_of_getElem? (i := 509) (by decide +kernel))) rfl, z_mem (List.mem_append_right _ (List.mem_of_getElem? (i := 508) (by decide +kernel))) rfl, z_mem (List.mem_append_right _ (List.mem_of_getElem? (i := 16) (by decide +kernel))) rfl, ⟨by decide, by decide, by decide +kernel⟩, by decide⟩
theorem Y_X2_fewestOfSeveral : z_YV yX2_fewestOfSeveral cX2_fewestOfSeveral 6 (some .int) 1 3 := ⟨z_mem (List.mem_append_right _ (List.mem_of_getElem? (i := 513) (by decide +kernel))) rfl, z_mem (List.mem_append_right _ (List.mem_of_getElem? (i := 512) (by decide +kernel))) rfl, z_mem (List.mem_append_left _ (List.mem_of_getElem? (i := 23) (by decide +kernel))) rfl, z_mem (List.mem_append_right _ (List.mem_of_getElem? (i := 5) (by decide +kernel))) rfl, ⟨by decide, by decide, by decide +kernel⟩, by decide, by decide, rfl⟩
theorem Y_J6_lowestOneBit_0f7a4 : z_YS yJ6_lowestOneBit_0f7a4 cJ6_lowestOneBit_0f7a4 1 (some .int) 1 := ⟨z_mem (List.mem_append_right _ (List.mem_of_getElem? (i := 516) (by decide +kernel))) rfl, z_mem (List.mem_append_right _ (List.mem_of_getElem? (i := 515) (by decide +kernel))) rfl, z_mem (List.mem_append_right _ (List.mem_of_getElem? (i := 16) (by decide +kernel))) rfl, ⟨by decide, by decide, by decide +kernel⟩, by decide⟩
theorem Y_X3_group : z_YV yX3_group cX3_group 2 (some .int) 1 4 := ⟨z_mem (List.mem_append_right _ (List.mem_of_getElem? (i := 520) (by decide +kernel))) rfl, z_mem (List.mem_append_right _ (List.mem_of_getElem? (i := 518) (by decide +kernel))) rfl, z_mem (List.mem_append_right _ (List.mem_of_getElem? (i := 519) (by decide +kernel))) rfl, z_mem (List.mem_append_right _ (List.mem_of_getElem? (i := 1) (by decide +kernel))) rfl, ⟨by decide, by decide, by decide +kernel⟩, by decide, by decide, rfl⟩
theorem Y_X2_inTheGroups : z_YV yX2_inTheGroups cX2_inTheGroups 4 (some .int) 1 3 := ⟨z_mem (List.mem_append_right _ (List.mem_of_getElem? (i := 524) (by decide +kernel))) rfl, z_mem (List.mem_append_right _ (List.mem_of_getElem? (i := 522) (by decide +kernel))) rfl, z_mem (List.mem_append_right _ (List.mem_of_getElem? (i := 523) (by decide +kernel))) rfl, z_mem (List.mem_append_right _ (List.mem_of_getElem? (i := 5) (by decide +kernel))) rfl, ⟨by decide, by decide, by decide +kernel⟩, by decide, by decide, rfl⟩
theorem Y_X2_firstOfFewest : z_YV yX2_firstOfFewest cX2_firstOfFewest 5 (some .int) 1 3 := ⟨z_mem (List.mem_append_right _ (List.mem_of_getElem? (i := 529) (by decide +kernel))) rfl, z_mem (List.mem_append_right _ (List.mem_of_getElem? (i := 528) (by decide +kernel))) rfl, z_mem (List.mem_append_left _ (List.mem_of_getElem? (i := 24) (by decide +kernel))) rfl, z_mem (List.mem_append_right _ (List.mem_of_getElem? (i := 5) (by decide +kernel))) rfl, ⟨by decide, by decide, by decide +kernel⟩, by decide, by decide, rfl⟩
theorem Y_X3_least : z_YV yX3_least cX3_least 1 (some .int) 0 4 := ⟨z_mem (List.mem_append_right _ (List.mem_of_getElem? (i := 533) (by decide +kernel))) rfl, z_mem (List.mem_append_right _ (List.mem_of_getElem? (i := 531) (by decide +kernel))) rfl, z_mem (List.mem_append_right _ (List.mem_of_getElem? (i := 532) (by decide +kernel))) rfl, z_mem (List.mem_append_right _ (List.mem_of_getElem? (i := 1) (by decide +kernel))) rfl, ⟨by decide, by decide, by decide +kernel⟩, by decide, by decide, rfl⟩
theorem Y_X3_findLeast : z_YV yX3_findLeast cX3_findLeast 2 (some .int) 0 4 := ⟨z_mem (List.mem_append_right _ (List.mem_of_getElem? (i := 537) (by decide +kernel))) rfl, z_mem (List.mem_append_right _ (List.mem_of_getElem? (i := 536) (by decide +kernel))) rfl, z_mem (List.mem_append_left _ (List.mem_of_getElem? (i := 25) (by decide +kernel))) rfl, z_mem (List.mem_append_right _ (List.mem_of_getElem? (i := 1) (by decide +kernel))) rfl, ⟨by decide, by decide, by decide +kernel⟩, by decide, by decide, rfl⟩
theorem Y_X3_completes : z_YS yX3_completes cX3_completes 6 (some .boolean) 3 := ⟨z_mem (List.mem_append_right _ (List.mem_of_getElem? (i := 540) (by decide +kernel))) rfl, z_mem (List.mem_append_right _ (List.mem_of_getElem? (i := 539) (by decide +kernel))) rfl, z_mem (List.mem_append_right _ (List.mem_of_getElem? (i := 1) (by decide +kernel))) rfl, ⟨by decide, by decide, by decide +kernel⟩, by decide⟩
theorem Y_X3_isPlan : z_YV yX3_isPlan cX3_isPlan 5 (some .boolean) 1 4 := ⟨z_mem (List.mem_append_right _ (List.mem_of_getElem? (i := 544) (by decide +kernel))) rfl, z_mem (List.mem_append_right _ (List.mem_of_getElem? (i := 543) (by decide +kernel))) rfl, z_mem (List.mem_append_left _ (List.mem_of_getElem? (i := 26) (by decide +kernel))) rfl, z_mem (List.mem_append_right _ (List.mem_of_getElem? (i := 1) (by decide +kernel))) rfl, ⟨by decide, by decide, by decide +kernel⟩, by decide, by decide, rfl⟩
theorem Y_X0_become : z_YV yX0_become cX0_become 2 none 1 1 := ⟨z_mem (List.mem_append_right _ (List.mem_of_getElem? (i := 548) (by decide +kernel))) rfl, z_mem (List.mem_append_right _ (List.mem_of_getElem? (i := 546) (by decide +kernel))) rfl, z_mem (List.mem_append_right _ (List.mem_of_getElem? (i := 547) (by decide +kernel))) rfl, z_mem (List.mem_append_right _ (List.mem_of_getElem? (i := 6) (by decide +kernel))) rfl, ⟨by decide, by decide, by decide +kernel⟩, by decide, by decide, rfl⟩
theorem Y_X3_highestBits : z_YV yX3_highestBits cX3_highestBits 4 (some .int) 1 4 := ⟨z_mem (List.mem_append_right _ (List.mem_of_getElem? (i := 554) (by decide +kernel))) rfl, z_mem (List.mem_append_right _ (List.mem_of_getElem? (i := 553) (by decide +kernel))) rfl, z_mem (List.mem_append_left _ (List.mem_of_getElem? (i := 27) (by decide +kernel))) rfl, z_mem (List.mem_append_right _ (List.mem_of_getElem? (i := 1) (by decide +kernel))) rfl, ⟨by decide, by decide, by decide +kernel⟩, by decide, by decide, rfl⟩
theorem Y_X3_planned : z_YV yX3_planned cX3_planned 3 (some .int) 1 4 := ⟨z_mem (List.mem_append_right _ (List.mem_of_getElem? (i := 559) (by decide +kernel))) rfl, z_mem (List.mem_append_right _ (List.mem_of_getElem? (i := 557) (by decide +kernel))) rfl, z_mem (List.mem_append_right _ (List.mem_of_getElem? (i := 558) (by decide +kernel))) rfl, z_mem (List.mem_append_right _ (List.mem_of_getElem? (i := 1) (by decide +kernel))) rfl, ⟨by decide, by decide, by decide +kernel⟩, by decide, by decide, rfl⟩
theorem Y_X3_plan : z_YV yX3_plan cX3_plan 7 (some .int) 4 4 := ⟨z_mem (List.mem_append_right _ (List.mem_of_getElem? (i := 563) (by decide +kernel))) rfl, z_mem (List.mem_append_right _ (List.mem_of_getElem? (i := 561) (by decide +kernel))) rfl, z_mem (List.mem_append_right _ (List.mem_of_getElem? (i := 562) (by decide +kernel))) rfl, z_mem (List.mem_append_right _ (List.mem_of_getElem? (i := 1) (by decide +kernel))) rfl, ⟨by decide, by decide, by decide +kernel⟩, by decide, by decide, rfl⟩
theorem Y_X3_goOn : z_YV yX3_goOn cX3_goOn 2 (some .int) 0 4 := ⟨z_mem (List.mem_append_right _ (List.mem_of_getElem? (i := 567) (by decide +kernel))) rfl, z_mem (List.mem_append_right _ (List.mem_of_getElem? (i := 565) (by decide +kernel))) rfl, z_mem (List.mem_append_right _ (List.mem_of_getElem? (i := 566) (by decide +kernel))) rfl, z_mem (List.mem_append_right _ (List.mem_of_getElem? (i := 1) (by decide +kernel))) rfl, ⟨by decide, by decide, by decide +kernel⟩, by decide, by decide, rfl⟩
theorem Y_X3_bestMask : z_YV yX3_bestMask cX3_bestMask 6 (some .int) 0 4 := ⟨z_mem (List.mem_append_right _ (List.mem_of_getElem? (i := 571) (by decide +kernel))) rfl, z_mem (List.mem_append_right _ (List.mem_of_getElem? (i := 570) (by decide +kernel))) rfl, z_mem (List.mem_append_left _ (List.mem_of_getElem? (i := 28) (by decide +kernel))) rfl, z_mem (List.mem_append_right _ (List.mem_of_getElem? (i := 1) (by decide +kernel))) rfl, ⟨by decide, by decide, by decide +kernel⟩, by decide, by decide, rfl⟩
theorem Y_X3_waitingListeners : z_YV yX3_waitingListeners cX3_waitingListeners 4 (some .int) 0 4 := ⟨z_mem (List.mem_append_right _ (List.mem_of_getElem? (i := 575) (by decide +kernel))) rfl, z_mem (List.mem_append_right _ (List.mem_of_getElem? (i := 574) (by decide +kernel))) rfl, z_mem (List.mem_append_left _ (List.mem_of_getElem? (i := 29) (by decide +kernel))) rfl, z_mem (List.mem_append_right _ (List.mem_of_getElem? (i := 1) (by decide +kernel))) rfl, ⟨by decide, by decide, by decide +kernel⟩, by decide, by decide, rfl⟩
theorem Y_X3_worthOf : z_YV yX3_worthOf cX3_worthOf 8 (some .int) 2 4 := ⟨z_mem (List.mem_append_right _ (List.mem_of_getElem? (i := 579) (by decide +kernel))) rfl, z_mem (List.mem_append_right _ (List.mem_of_getElem? (i := 578) (by decide +kernel))) rfl, z_mem (List.mem_append_left _ (List.mem_of_getElem? (i := 30) (by decide +kernel))) rfl, z_mem (List.mem_append_right _ (List.mem_of_getElem? (i := 1) (by decide +kernel))) rfl, ⟨by decide, by decide, by decide +kernel⟩, by decide, by decide, rfl⟩
theorem Y_X1_wouldBeServedBy : z_YV yX1_wouldBeServedBy cX1_wouldBeServedBy 3 (some .boolean) 2 2 := ⟨z_mem (List.mem_append_right _ (List.mem_of_getElem? (i := 584) (by decide +kernel))) rfl, z_mem (List.mem_append_right _ (List.mem_of_getElem? (i := 582) (by decide +kernel))) rfl, z_mem (List.mem_append_right _ (List.mem_of_getElem? (i := 583) (by decide +kernel))) rfl, z_mem (List.mem_append_right _ (List.mem_of_getElem? (i := 8) (by decide +kernel))) rfl, ⟨by decide, by decide, by decide +kernel⟩, by decide, by decide, rfl⟩
theorem Y_X3_finish : z_YV yX3_finish cX3_finish 2 (some .int) 0 4 := ⟨z_mem (List.mem_append_right _ (List.mem_of_getElem? (i := 589) (by decide +kernel))) rfl, z_mem (List.mem_append_right _ (List.mem_of_getElem? (i := 587) (by decide +kernel))) rfl, z_mem (List.mem_append_right _ (List.mem_of_getElem? (i := 588) (by decide +kernel))) rfl, z_mem (List.mem_append_right _ (List.mem_of_getElem? (i := 1) (by decide +kernel))) rfl, ⟨by decide, by decide, by decide +kernel⟩, by decide, by decide, rfl⟩
theorem Y_X3_count : z_YV yX3_count cX3_count 2 (some .int) 1 4 := ⟨z_mem (List.mem_append_right _ (List.mem_of_getElem? (i := 594) (by decide +kernel))) rfl, z_mem (List.mem_append_right _ (List.mem_of_getElem? (i := 592) (by decide +kernel))) rfl, z_mem (List.mem_append_right _ (List.mem_of_getElem? (i := 593) (by decide +kernel))) rfl, z_mem (List.mem_append_right _ (List.mem_of_getElem? (i := 1) (by decide +kernel))) rfl, ⟨by decide, by decide, by decide +kernel⟩, by decide, by decide, rfl⟩
theorem Y_X3_rankOfAll : z_YV yX3_rankOfAll cX3_rankOfAll 3 (some .int) 0 4 := ⟨z_mem (List.mem_append_right _ (List.mem_of_getElem? (i := 598) (by decide +kernel))) rfl, z_mem (List.mem_append_right _ (List.mem_of_getElem? (i := 597) (by decide +kernel))) rfl, z_mem (List.mem_append_left _ (List.mem_of_getElem? (i := 31) (by decide +kernel))) rfl, z_mem (List.mem_append_right _ (List.mem_of_getElem? (i := 1) (by decide +kernel))) rfl, ⟨by decide, by decide, by decide +kernel⟩, by decide, by decide, rfl⟩
theorem Y_X4_init : z_YI yX4_init cX4_init 1 0 := ⟨z_mem (List.mem_append_right _ (List.mem_of_getElem? (i := 603) (by decide +kernel))) rfl, z_mem (List.mem_append_right _ (List.mem_of_getElem? (i := 602) (by decide +kernel))) rfl, z_mem (List.mem_append_right _ (List.mem_of_getElem? (i := 7) (by decide +kernel))) rfl, rfl, ⟨by decide, by decide, by decide +kernel⟩, by decide⟩
theorem Y_X4_piece : z_YV yX4_piece cX4_piece 3 (some .int) 1 5 := ⟨z_mem (List.mem_append_right _ (List.mem_of_getElem? (i := 685) (by decide +kernel))) rfl, z_mem (List.mem_append_right _ (List.mem_of_getElem? (i := 683) (by decide +kernel))) rfl, z_mem (List.mem_append_right _ (List.mem_of_getElem? (i := 684) (by decide +kernel))) rfl, z_mem (List.mem_append_right _ (List.mem_of_getElem? (i := 7) (by decide +kernel))) rfl, ⟨by decide, by decide, by decide +kernel⟩, by decide, by decide, rfl⟩
theorem Y_X4_bytes : z_YV yX4_bytes cX4_bytes 2 (some .long) 1 5 := ⟨z_mem (List.mem_append_right _ (List.mem_of_getElem? (i := 689) (by decide +kernel))) rfl, z_mem (List.mem_append_right _ (List.mem_of_getElem? (i := 687) (by decide +kernel))) rfl, z_mem (List.mem_append_right _ (List.mem_of_getElem? (i := 688) (by decide +kernel))) rfl, z_mem (List.mem_append_right _ (List.mem_of_getElem? (i := 7) (by decide +kernel))) rfl, ⟨by decide, by decide, by decide +kernel⟩, by decide, by decide, rfl⟩
theorem Y_X4_isPiece : z_YV yX4_isPiece cX4_isPiece 2 (some .boolean) 1 5 := ⟨z_mem (List.mem_append_right _ (List.mem_of_getElem? (i := 693) (by decide +kernel))) rfl, z_mem (List.mem_append_right _ (List.mem_of_getElem? (i := 692) (by decide +kernel))) rfl, z_mem (List.mem_append_left _ (List.mem_of_getElem? (i := 32) (by decide +kernel))) rfl, z_mem (List.mem_append_right _ (List.mem_of_getElem? (i := 7) (by decide +kernel))) rfl, ⟨by decide, by decide, by decide +kernel⟩, by decide, by decide, rfl⟩
theorem Y_X4_listener : z_YV yX4_listener cX4_listener 2 (some .int) 1 5 := ⟨z_mem (List.mem_append_right _ (List.mem_of_getElem? (i := 697) (by decide +kernel))) rfl, z_mem (List.mem_append_right _ (List.mem_of_getElem? (i := 695) (by decide +kernel))) rfl, z_mem (List.mem_append_right _ (List.mem_of_getElem? (i := 696) (by decide +kernel))) rfl, z_mem (List.mem_append_right _ (List.mem_of_getElem? (i := 7) (by decide +kernel))) rfl, ⟨by decide, by decide, by decide +kernel⟩, by decide, by decide, rfl⟩
theorem Y_X4_wants : z_YV yX4_wants cX4_wants 3 (some .int) 2 5 := ⟨z_mem (List.mem_append_right _ (List.mem_of_getElem? (i := 701) (by decide +kernel))) rfl, z_mem (List.mem_append_right _ (List.mem_of_getElem? (i := 699) (by decide +kernel))) rfl, z_mem (List.mem_append_right _ (List.mem_of_getElem? (i := 700) (by decide +kernel))) rfl, z_mem (List.mem_append_right _ (List.mem_of_getElem? (i := 7) (by decide +kernel))) rfl, ⟨by decide, by decide, by decide +kernel⟩, by decide, by decide, rfl⟩
theorem Y_X4_isListener : z_YV yX4_isListener cX4_isListener 2 (some .boolean) 1 5 := ⟨z_mem (List.mem_append_right _ (List.mem_of_getElem? (i := 705) (by decide +kernel))) rfl, z_mem (List.mem_append_right _ (List.mem_of_getElem? (i := 704) (by decide +kernel))) rfl, z_mem (List.mem_append_left _ (List.mem_of_getElem? (i := 33) (by decide +kernel))) rfl, z_mem (List.mem_append_right _ (List.mem_of_getElem? (i := 7) (by decide +kernel))) rfl, ⟨by decide, by decide, by decide +kernel⟩, by decide, by decide, rfl⟩
theorem Y_X4_has : z_YV yX4_has cX4_has 3 (some .int) 2 5 := ⟨z_mem (List.mem_append_right _ (List.mem_of_getElem? (i := 709) (by decide +kernel))) rfl, z_mem (List.mem_append_right _ (List.mem_of_getElem? (i := 707) (by decide +kernel))) rfl, z_mem (List.mem_append_right _ (List.mem_of_getElem? (i := 708) (by decide +kernel))) rfl, z_mem (List.mem_append_right _ (List.mem_of_getElem? (i := 7) (by decide +kernel))) rfl, ⟨by decide, by decide, by decide +kernel⟩, by decide, by decide, rfl⟩
theorem Y_X4_isMask : z_YV yX4_isMask cX4_isMask 2 (some .boolean) 1 5 := ⟨z_mem (List.mem_append_right _ (List.mem_of_getElem? (i := 713) (by decide +kernel))) rfl, z_mem (List.mem_append_right _ (List.mem_of_getElem? (i := 712) (by decide +kernel))) rfl, z_mem (List.mem_append_left _ (List.mem_of_getElem? (i := 34) (by decide +kernel))) rfl, z_mem (List.mem_append_right _ (List.mem_of_getElem? (i := 7) (by decide +kernel))) rfl, ⟨by decide, by decide, by decide +kernel⟩, by decide, by decide, rfl⟩
theorem Y_X4_isSingle : z_YV yX4_isSingle cX4_isSingle 2 (some .boolean) 1 5 := ⟨z_mem (List.mem_append_right _ (List.mem_of_getElem? (i := 717) (by decide +kernel))) rfl, z_mem (List.mem_append_right _ (List.mem_of_getElem? (i := 716) (by decide +kernel))) rfl, z_mem (List.mem_append_left _ (List.mem_of_getElem? (i := 35) (by decide +kernel))) rfl, z_mem (List.mem_append_right _ (List.mem_of_getElem? (i := 7) (by decide +kernel))) rfl, ⟨by decide, by decide, by decide +kernel⟩, by decide, by decide, rfl⟩
theorem Y_X4_holds : z_YV yX4_holds cX4_holds 4 (some .boolean) 2 5 := ⟨z_mem (List.mem_append_right _ (List.mem_of_getElem? (i := 721) (by decide +kernel))) rfl, z_mem (List.mem_append_right _ (List.mem_of_getElem? (i := 720) (by decide +kernel))) rfl, z_mem (List.mem_append_left _ (List.mem_of_getElem? (i := 36) (by decide +kernel))) rfl, z_mem (List.mem_append_right _ (List.mem_of_getElem? (i := 7) (by decide +kernel))) rfl, ⟨by decide, by decide, by decide +kernel⟩, by decide, by decide, rfl⟩
theorem Y_X4_off : z_YV yX4_off cX4_off 4 (some .int) 2 5 := ⟨z_mem (List.mem_append_right _ (List.mem_of_getElem? (i := 725) (by decide +kernel))) rfl, z_mem (List.mem_append_right _ (List.mem_of_getElem? (i := 723) (by decide +kernel))) rfl, z_mem (List.mem_append_right _ (List.mem_of_getElem? (i := 724) (by decide +kernel))) rfl, z_mem (List.mem_append_right _ (List.mem_of_getElem? (i := 7) (by decide +kernel))) rfl, ⟨by decide, by decide, by decide +kernel⟩, by decide, by decide, rfl⟩
theorem Y_X4_say : z_YV yX4_say cX4_say 2 (some .int) 1 5 := ⟨z_mem (List.mem_append_right _ (List.mem_of_getElem? (i := 729) (by decide +kernel))) rfl, z_mem (List.mem_append_right _ (List.mem_of_getElem? (i := 727) (by decide +kernel))) rfl, z_mem (List.mem_append_right _ (List.mem_of_getElem? (i := 728) (by decide +kernel))) rfl, z_mem (List.mem_append_right _ (List.mem_of_getElem? (i := 7) (by decide +kernel))) rfl, ⟨by decide, by decide, by decide +kernel⟩, by decide, by decide, rfl⟩
theorem Y_X4_said : z_YV yX4_said cX4_said 3 (some .int) 1 5 := ⟨z_mem (List.mem_append_right _ (List.mem_of_getElem? (i := 733) (by decide +kernel))) rfl, z_mem (List.mem_append_right _ (List.mem_of_getElem? (i := 732) (by decide +kernel))) rfl, z_mem (List.mem_append_left _ (List.mem_of_getElem? (i := 37) (by decide +kernel))) rfl, z_mem (List.mem_append_right _ (List.mem_of_getElem? (i := 7) (by decide +kernel))) rfl, ⟨by decide, by decide, by decide +kernel⟩, by decide, by decide, rfl⟩
theorem Y_X4_again : z_YV yX4_again cX4_again 2 (some .int) 1 5 := ⟨z_mem (List.mem_append_right _ (List.mem_of_getElem? (i := 737) (by decide +kernel))) rfl, z_mem (List.mem_append_right _ (List.mem_of_getElem? (i := 735) (by decide +kernel))) rfl, z_mem (List.mem_append_right _ (List.mem_of_getElem? (i := 736) (by decide +kernel))) rfl, z_mem (List.mem_append_right _ (List.mem_of_getElem? (i := 7) (by decide +kernel))) rfl, ⟨by decide, by decide, by decide +kernel⟩, by decide, by decide, rfl⟩
theorem Y_X4_isCall : z_YV yX4_isCall cX4_isCall 2 (some .boolean) 1 5 := ⟨z_mem (List.mem_append_right _ (List.mem_of_getElem? (i := 741) (by decide +kernel))) rfl, z_mem (List.mem_append_right _ (List.mem_of_getElem? (i := 740) (by decide +kernel))) rfl, z_mem (List.mem_append_left _ (List.mem_of_getElem? (i := 38) (by decide +kernel))) rfl, z_mem (List.mem_append_right _ (List.mem_of_getElem? (i := 7) (by decide +kernel))) rfl, ⟨by decide, by decide, by decide +kernel⟩, by decide, by decide, rfl⟩
theorem Y_X4_sum : z_YV yX4_sum cX4_sum 2 (some .long) 1 5 := ⟨z_mem (List.mem_append_right _ (List.mem_of_getElem? (i := 745) (by decide +kernel))) rfl, z_mem (List.mem_append_right _ (List.mem_of_getElem? (i := 743) (by decide +kernel))) rfl, z_mem (List.mem_append_right _ (List.mem_of_getElem? (i := 744) (by decide +kernel))) rfl, z_mem (List.mem_append_right _ (List.mem_of_getElem? (i := 7) (by decide +kernel))) rfl, ⟨by decide, by decide, by decide +kernel⟩, by decide, by decide, rfl⟩
theorem Y_X4_sumOf : z_YV yX4_sumOf cX4_sumOf 5 (some .long) 1 5 := ⟨z_mem (List.mem_append_right _ (List.mem_of_getElem? (i := 749) (by decide +kernel))) rfl, z_mem (List.mem_append_right _ (List.mem_of_getElem? (i := 748) (by decide +kernel))) rfl, z_mem (List.mem_append_left _ (List.mem_of_getElem? (i := 39) (by decide +kernel))) rfl, z_mem (List.mem_append_right _ (List.mem_of_getElem? (i := 7) (by decide +kernel))) rfl, ⟨by decide, by decide, by decide +kernel⟩, by decide, by decide, rfl⟩
theorem Y_X4_heard : z_YV yX4_heard cX4_heard 3 (some .int) 2 5 := ⟨z_mem (List.mem_append_right _ (List.mem_of_getElem? (i := 753) (by decide +kernel))) rfl, z_mem (List.mem_append_right _ (List.mem_of_getElem? (i := 751) (by decide +kernel))) rfl, z_mem (List.mem_append_right _ (List.mem_of_getElem? (i := 752) (by decide +kernel))) rfl, z_mem (List.mem_append_right _ (List.mem_of_getElem? (i := 7) (by decide +kernel))) rfl, ⟨by decide, by decide, by decide +kernel⟩, by decide, by decide, rfl⟩
theorem Y_X4_call : z_YV yX4_call cX4_call 5 (some .int) 2 5 := ⟨z_mem (List.mem_append_right _ (List.mem_of_getElem? (i := 757) (by decide +kernel))) rfl, z_mem (List.mem_append_right _ (List.mem_of_getElem? (i := 755) (by decide +kernel))) rfl, z_mem (List.mem_append_right _ (List.mem_of_getElem? (i := 756) (by decide +kernel))) rfl, z_mem (List.mem_append_right _ (List.mem_of_getElem? (i := 7) (by decide +kernel))) rfl, ⟨by decide, by decide, by decide +kernel⟩, by decide, by decide, rfl⟩
theorem Y_X4_isNewFor : z_YV yX4_isNewFor cX4_isNewFor 5 (some .boolean) 2 5 := ⟨z_mem (List.mem_append_right _ (List.mem_of_getElem? (i := 761) (by decide +kernel))) rfl, z_mem (List.mem_append_right _ (List.mem_of_getElem? (i := 760) (by decide +kernel))) rfl, z_mem (List.mem_append_left _ (List.mem_of_getElem? (i := 40) (by decide +kernel))) rfl, z_mem (List.mem_append_right _ (List.mem_of_getElem? (i := 7) (by decide +kernel))) rfl, ⟨by decide, by decide, by decide +kernel⟩, by decide, by decide, rfl⟩
theorem Y_X4_know : z_YV yX4_know cX4_know 3 none 1 5 := ⟨z_mem (List.mem_append_right _ (List.mem_of_getElem? (i := 765) (by decide +kernel))) rfl, z_mem (List.mem_append_right _ (List.mem_of_getElem? (i := 764) (by decide +kernel))) rfl, z_mem (List.mem_append_left _ (List.mem_of_getElem? (i := 41) (by decide +kernel))) rfl, z_mem (List.mem_append_right _ (List.mem_of_getElem? (i := 7) (by decide +kernel))) rfl, ⟨by decide, by decide, by decide +kernel⟩, by decide, by decide, rfl⟩
theorem Y_X4_take : z_YV yX4_take cX4_take 4 none 2 5 := ⟨z_mem (List.mem_append_right _ (List.mem_of_getElem? (i := 769) (by decide +kernel))) rfl, z_mem (List.mem_append_right _ (List.mem_of_getElem? (i := 768) (by decide +kernel))) rfl, z_mem (List.mem_append_left _ (List.mem_of_getElem? (i := 42) (by decide +kernel))) rfl, z_mem (List.mem_append_right _ (List.mem_of_getElem? (i := 7) (by decide +kernel))) rfl, ⟨by decide, by decide, by decide +kernel⟩, by decide, by decide, rfl⟩
theorem Y_X4_about : z_YV yX4_about cX4_about 3 (some .int) 2 5 := ⟨z_mem (List.mem_append_right _ (List.mem_of_getElem? (i := 773) (by decide +kernel))) rfl, z_mem (List.mem_append_right _ (List.mem_of_getElem? (i := 771) (by decide +kernel))) rfl, z_mem (List.mem_append_right _ (List.mem_of_getElem? (i := 772) (by decide +kernel))) rfl, z_mem (List.mem_append_right _ (List.mem_of_getElem? (i := 7) (by decide +kernel))) rfl, ⟨by decide, by decide, by decide +kernel⟩, by decide, by decide, rfl⟩
theorem Y_X4_isServed : z_YV yX4_isServed cX4_isServed 8 (some .boolean) 2 5 := ⟨z_mem (List.mem_append_right _ (List.mem_of_getElem? (i := 777) (by decide +kernel))) rfl, z_mem (List.mem_append_right _ (List.mem_of_getElem? (i := 776) (by decide +kernel))) rfl, z_mem (List.mem_append_left _ (List.mem_of_getElem? (i := 43) (by decide +kernel))) rfl, z_mem (List.mem_append_right _ (List.mem_of_getElem? (i := 7) (by decide +kernel))) rfl, ⟨by decide, by decide, by decide +kernel⟩, by decide, by decide, rfl⟩
theorem Y_X4_isOut : z_YV yX4_isOut cX4_isOut 3 (some .boolean) 2 5 := ⟨z_mem (List.mem_append_right _ (List.mem_of_getElem? (i := 781) (by decide +kernel))) rfl, z_mem (List.mem_append_right _ (List.mem_of_getElem? (i := 780) (by decide +kernel))) rfl, z_mem (List.mem_append_left _ (List.mem_of_getElem? (i := 44) (by decide +kernel))) rfl, z_mem (List.mem_append_right _ (List.mem_of_getElem? (i := 7) (by decide +kernel))) rfl, ⟨by decide, by decide, by decide +kernel⟩, by decide, by decide, rfl⟩
theorem Y_X4_rowOf : z_YV yX4_rowOf cX4_rowOf 3 (some .int) 2 5 := ⟨z_mem (List.mem_append_right _ (List.mem_of_getElem? (i := 785) (by decide +kernel))) rfl, z_mem (List.mem_append_right _ (List.mem_of_getElem? (i := 783) (by decide +kernel))) rfl, z_mem (List.mem_append_right _ (List.mem_of_getElem? (i := 784) (by decide +kernel))) rfl, z_mem (List.mem_append_right _ (List.mem_of_getElem? (i := 7) (by decide +kernel))) rfl, ⟨by decide, by decide, by decide +kernel⟩, by decide, by decide, rfl⟩
theorem Y_X4_solve : z_YV yX4_solve cX4_solve 3 (some .int) 2 5 := ⟨z_mem (List.mem_append_right _ (List.mem_of_getElem? (i := 789) (by decide +kernel))) rfl, z_mem (List.mem_append_right _ (List.mem_of_getElem? (i := 787) (by decide +kernel))) rfl, z_mem (List.mem_append_right _ (List.mem_of_getElem? (i := 788) (by decide +kernel))) rfl, z_mem (List.mem_append_right _ (List.mem_of_getElem? (i := 7) (by decide +kernel))) rfl, ⟨by decide, by decide, by decide +kernel⟩, by decide, by decide, rfl⟩
theorem Y_X4_why : z_YV yX4_why cX4_why 3 (some .long) 2 5 := ⟨z_mem (List.mem_append_right _ (List.mem_of_getElem? (i := 793) (by decide +kernel))) rfl, z_mem (List.mem_append_right _ (List.mem_of_getElem? (i := 791) (by decide +kernel))) rfl, z_mem (List.mem_append_right _ (List.mem_of_getElem? (i := 792) (by decide +kernel))) rfl, z_mem (List.mem_append_right _ (List.mem_of_getElem? (i := 7) (by decide +kernel))) rfl, ⟨by decide, by decide, by decide +kernel⟩, by decide, by decide, rfl⟩
theorem Y_X4_byRows : z_YV yX4_byRows cX4_byRows 8 (some .long) 1 5 := ⟨z_mem (List.mem_append_right _ (List.mem_of_getElem? (i := 798) (by decide +kernel))) rfl, z_mem (List.mem_append_right _ (List.mem_of_getElem? (i := 797) (by decide +kernel))) rfl, z_mem (List.mem_append_left _ (List.mem_of_getElem? (i := 45) (by decide +kernel))) rfl, z_mem (List.mem_append_right _ (List.mem_of_getElem? (i := 7) (by decide +kernel))) rfl, ⟨by decide, by decide, by decide +kernel⟩, by decide, by decide, rfl⟩
theorem Y_X4_gets : z_YV yX4_gets cX4_gets 8 (some .long) 2 5 := ⟨z_mem (List.mem_append_right _ (List.mem_of_getElem? (i := 802) (by decide +kernel))) rfl, z_mem (List.mem_append_right _ (List.mem_of_getElem? (i := 800) (by decide +kernel))) rfl, z_mem (List.mem_append_right _ (List.mem_of_getElem? (i := 801) (by decide +kernel))) rfl, z_mem (List.mem_append_right _ (List.mem_of_getElem? (i := 7) (by decide +kernel))) rfl, ⟨by decide, by decide, by decide +kernel⟩, by decide, by decide, rfl⟩
theorem Y_X4_lack : z_YV yX4_lack cX4_lack 6 (some .int) 2 5 := ⟨z_mem (List.mem_append_right _ (List.mem_of_getElem? (i := 806) (by decide +kernel))) rfl, z_mem (List.mem_append_right _ (List.mem_of_getElem? (i := 804) (by decide +kernel))) rfl, z_mem (List.mem_append_right _ (List.mem_of_getElem? (i := 805) (by decide +kernel))) rfl, z_mem (List.mem_append_right _ (List.mem_of_getElem? (i := 7) (by decide +kernel))) rfl, ⟨by decide, by decide, by decide +kernel⟩, by decide, by decide, rfl⟩
theorem Y_X4_isEven : z_YV yX4_isEven cX4_isEven 4 (some .boolean) 1 5 := ⟨z_mem (List.mem_append_right _ (List.mem_of_getElem? (i := 810) (by decide +kernel))) rfl, z_mem (List.mem_append_right _ (List.mem_of_getElem? (i := 809) (by decide +kernel))) rfl, z_mem (List.mem_append_left _ (List.mem_of_getElem? (i := 46) (by decide +kernel))) rfl, z_mem (List.mem_append_right _ (List.mem_of_getElem? (i := 7) (by decide +kernel))) rfl, ⟨by decide, by decide, by decide +kernel⟩, by decide, by decide, rfl⟩
theorem Y_X4_left : z_YV yX4_left cX4_left 1 (some .int) 0 5 := ⟨z_mem (List.mem_append_right _ (List.mem_of_getElem? (i := 814) (by decide +kernel))) rfl, z_mem (List.mem_append_right _ (List.mem_of_getElem? (i := 812) (by decide +kernel))) rfl, z_mem (List.mem_append_right _ (List.mem_of_getElem? (i := 813) (by decide +kernel))) rfl, z_mem (List.mem_append_right _ (List.mem_of_getElem? (i := 7) (by decide +kernel))) rfl, ⟨by decide, by decide, by decide +kernel⟩, by decide, by decide, rfl⟩
theorem Y_X4_served : z_YV yX4_served cX4_served 3 (some .int) 0 5 := ⟨z_mem (List.mem_append_right _ (List.mem_of_getElem? (i := 818) (by decide +kernel))) rfl, z_mem (List.mem_append_right _ (List.mem_of_getElem? (i := 817) (by decide +kernel))) rfl, z_mem (List.mem_append_left _ (List.mem_of_getElem? (i := 47) (by decide +kernel))) rfl, z_mem (List.mem_append_right _ (List.mem_of_getElem? (i := 7) (by decide +kernel))) rfl, ⟨by decide, by decide, by decide +kernel⟩, by decide, by decide, rfl⟩
theorem Y_X4_knowAll : z_YV yX4_knowAll cX4_knowAll 2 none 0 5 := ⟨z_mem (List.mem_append_right _ (List.mem_of_getElem? (i := 822) (by decide +kernel))) rfl, z_mem (List.mem_append_right _ (List.mem_of_getElem? (i := 821) (by decide +kernel))) rfl, z_mem (List.mem_append_left _ (List.mem_of_getElem? (i := 48) (by decide +kernel))) rfl, z_mem (List.mem_append_right _ (List.mem_of_getElem? (i := 7) (by decide +kernel))) rfl, ⟨by decide, by decide, by decide +kernel⟩, by decide, by decide, rfl⟩
theorem Y_X4_needs : z_YV yX4_needs cX4_needs 1 (some .int) 0 5 := ⟨z_mem (List.mem_append_right _ (List.mem_of_getElem? (i := 826) (by decide +kernel))) rfl, z_mem (List.mem_append_right _ (List.mem_of_getElem? (i := 824) (by decide +kernel))) rfl, z_mem (List.mem_append_right _ (List.mem_of_getElem? (i := 825) (by decide +kernel))) rfl, z_mem (List.mem_append_right _ (List.mem_of_getElem? (i := 7) (by decide +kernel))) rfl, ⟨by decide, by decide, by decide +kernel⟩, by decide, by decide, rfl⟩
theorem Y_X4_findNeeds : z_YV yX4_findNeeds cX4_findNeeds 3 none 0 5 := ⟨z_mem (List.mem_append_right _ (List.mem_of_getElem? (i := 830) (by decide +kernel))) rfl, z_mem (List.mem_append_right _ (List.mem_of_getElem? (i := 829) (by decide +kernel))) rfl, z_mem (List.mem_append_left _ (List.mem_of_getElem? (i := 49) (by decide +kernel))) rfl, z_mem (List.mem_append_right _ (List.mem_of_getElem? (i := 7) (by decide +kernel))) rfl, ⟨by decide, by decide, by decide +kernel⟩, by decide, by decide, rfl⟩
theorem Y_X4_need : z_YV yX4_need cX4_need 3 (some .int) 2 5 := ⟨z_mem (List.mem_append_right _ (List.mem_of_getElem? (i := 834) (by decide +kernel))) rfl, z_mem (List.mem_append_right _ (List.mem_of_getElem? (i := 832) (by decide +kernel))) rfl, z_mem (List.mem_append_right _ (List.mem_of_getElem? (i := 833) (by decide +kernel))) rfl, z_mem (List.mem_append_right _ (List.mem_of_getElem? (i := 7) (by decide +kernel))) rfl, ⟨by decide, by decide, by decide +kernel⟩, by decide, by decide, rfl⟩
theorem Y_X4_below : z_YV yX4_below cX4_below 1 (some .int) 0 5 := ⟨z_mem (List.mem_append_right _ (List.mem_of_getElem? (i := 838) (by decide +kernel))) rfl, z_mem (List.mem_append_right _ (List.mem_of_getElem? (i := 836) (by decide +kernel))) rfl, z_mem (List.mem_append_right _ (List.mem_of_getElem? (i := 837) (by decide +kernel))) rfl, z_mem (List.mem_append_right _ (List.mem_of_getElem? (i := 7) (by decide +kernel))) rfl, ⟨by decide, by decide, by decide +kernel⟩, by decide, by decide, rfl⟩
theorem Y_X4_orders : z_YV yX4_orders cX4_orders 4 none 0 5 := ⟨z_mem (List.mem_append_right _ (List.mem_of_getElem? (i := 842) (by decide +kernel))) rfl, z_mem (List.mem_append_right _ (List.mem_of_getElem? (i := 841) (by decide +kernel))) rfl, z_mem (List.mem_append_left _ (List.mem_of_getElem? (i := 50) (by decide +kernel))) rfl, z_mem (List.mem_append_right _ (List.mem_of_getElem? (i := 7) (by decide +kernel))) rfl, ⟨by decide, by decide, by decide +kernel⟩, by decide, by decide, rfl⟩
theorem Y_X4_behind : z_YV yX4_behind cX4_behind 5 (some .int) 2 5 := ⟨z_mem (List.mem_append_right _ (List.mem_of_getElem? (i := 846) (by decide +kernel))) rfl, z_mem (List.mem_append_right _ (List.mem_of_getElem? (i := 845) (by decide +kernel))) rfl, z_mem (List.mem_append_left _ (List.mem_of_getElem? (i := 51) (by decide +kernel))) rfl, z_mem (List.mem_append_right _ (List.mem_of_getElem? (i := 7) (by decide +kernel))) rfl, ⟨by decide, by decide, by decide +kernel⟩, by decide, by decide, rfl⟩
theorem Y_X4_mayFollow : z_YV yX4_mayFollow cX4_mayFollow 3 (some .boolean) 2 5 := ⟨z_mem (List.mem_append_right _ (List.mem_of_getElem? (i := 850) (by decide +kernel))) rfl, z_mem (List.mem_append_right _ (List.mem_of_getElem? (i := 849) (by decide +kernel))) rfl, z_mem (List.mem_append_left _ (List.mem_of_getElem? (i := 52) (by decide +kernel))) rfl, z_mem (List.mem_append_right _ (List.mem_of_getElem? (i := 7) (by decide +kernel))) rfl, ⟨by decide, by decide, by decide +kernel⟩, by decide, by decide, rfl⟩
theorem Y_X4_order : z_YV yX4_order cX4_order 5 (some .int) 1 5 := ⟨z_mem (List.mem_append_right _ (List.mem_of_getElem? (i := 854) (by decide +kernel))) rfl, z_mem (List.mem_append_right _ (List.mem_of_getElem? (i := 852) (by decide +kernel))) rfl, z_mem (List.mem_append_right _ (List.mem_of_getElem? (i := 853) (by decide +kernel))) rfl, z_mem (List.mem_append_right _ (List.mem_of_getElem? (i := 7) (by decide +kernel))) rfl, ⟨by decide, by decide, by decide +kernel⟩, by decide, by decide, rfl⟩
theorem Y_X4_above : z_YV yX4_above cX4_above 1 (some .int) 0 5 := ⟨z_mem (List.mem_append_right _ (List.mem_of_getElem? (i := 858) (by decide +kernel))) rfl, z_mem (List.mem_append_right _ (List.mem_of_getElem? (i := 856) (by decide +kernel))) rfl, z_mem (List.mem_append_right _ (List.mem_of_getElem? (i := 857) (by decide +kernel))) rfl, z_mem (List.mem_append_right _ (List.mem_of_getElem? (i := 7) (by decide +kernel))) rfl, ⟨by decide, by decide, by decide +kernel⟩, by decide, by decide, rfl⟩
theorem Y_X4_groups : z_YV yX4_groups cX4_groups 4 none 0 5 := ⟨z_mem (List.mem_append_right _ (List.mem_of_getElem? (i := 862) (by decide +kernel))) rfl, z_mem (List.mem_append_right _ (List.mem_of_getElem? (i := 861) (by decide +kernel))) rfl, z_mem (List.mem_append_left _ (List.mem_of_getElem? (i := 53) (by decide +kernel))) rfl, z_mem (List.mem_append_right _ (List.mem_of_getElem? (i := 7) (by decide +kernel))) rfl, ⟨by decide, by decide, by decide +kernel⟩, by decide, by decide, rfl⟩
theorem Y_X4_goTogether : z_YV yX4_goTogether cX4_goTogether 3 (some .boolean) 2 5 := ⟨z_mem (List.mem_append_right _ (List.mem_of_getElem? (i := 866) (by decide +kernel))) rfl, z_mem (List.mem_append_right _ (List.mem_of_getElem? (i := 865) (by decide +kernel))) rfl, z_mem (List.mem_append_left _ (List.mem_of_getElem? (i := 54) (by decide +kernel))) rfl, z_mem (List.mem_append_right _ (List.mem_of_getElem? (i := 7) (by decide +kernel))) rfl, ⟨by decide, by decide, by decide +kernel⟩, by decide, by decide, rfl⟩
theorem Y_X4_group : z_YV yX4_group cX4_group 5 (some .int) 1 5 := ⟨z_mem (List.mem_append_right _ (List.mem_of_getElem? (i := 870) (by decide +kernel))) rfl, z_mem (List.mem_append_right _ (List.mem_of_getElem? (i := 868) (by decide +kernel))) rfl, z_mem (List.mem_append_right _ (List.mem_of_getElem? (i := 869) (by decide +kernel))) rfl, z_mem (List.mem_append_right _ (List.mem_of_getElem? (i := 7) (by decide +kernel))) rfl, ⟨by decide, by decide, by decide +kernel⟩, by decide, by decide, rfl⟩
theorem Y_X4_least : z_YV yX4_least cX4_least 1 (some .int) 0 5 := ⟨z_mem (List.mem_append_right _ (List.mem_of_getElem? (i := 874) (by decide +kernel))) rfl, z_mem (List.mem_append_right _ (List.mem_of_getElem? (i := 872) (by decide +kernel))) rfl, z_mem (List.mem_append_right _ (List.mem_of_getElem? (i := 873) (by decide +kernel))) rfl, z_mem (List.mem_append_right _ (List.mem_of_getElem? (i := 7) (by decide +kernel))) rfl, ⟨by decide, by decide, by decide +kernel⟩, by decide, by decide, rfl⟩
theorem Y_X4_planSize : z_YV yX4_planSize cX4_planSize 2 (some .int) 0 5 := ⟨z_mem (List.mem_append_right _ (List.mem_of_getElem? (i := 878) (by decide +kernel))) rfl, z_mem (List.mem_append_right _ (List.mem_of_getElem? (i := 877) (by decide +kernel))) rfl, z_mem (List.mem_append_left _ (List.mem_of_getElem? (i := 55) (by decide +kernel))) rfl, z_mem (List.mem_append_right _ (List.mem_of_getElem? (i := 7) (by decide +kernel))) rfl, ⟨by decide, by decide, by decide +kernel⟩, by decide, by decide, rfl⟩
theorem Y_X4_begin : z_YV yX4_begin cX4_begin 5 (some .boolean) 0 5 := ⟨z_mem (List.mem_append_right _ (List.mem_of_getElem? (i := 882) (by decide +kernel))) rfl, z_mem (List.mem_append_right _ (List.mem_of_getElem? (i := 881) (by decide +kernel))) rfl, z_mem (List.mem_append_left _ (List.mem_of_getElem? (i := 56) (by decide +kernel))) rfl, z_mem (List.mem_append_right _ (List.mem_of_getElem? (i := 7) (by decide +kernel))) rfl, ⟨by decide, by decide, by decide +kernel⟩, by decide, by decide, rfl⟩
theorem Y_X4_servedBy : z_YV yX4_servedBy cX4_servedBy 8 (some .boolean) 2 5 := ⟨z_mem (List.mem_append_right _ (List.mem_of_getElem? (i := 886) (by decide +kernel))) rfl, z_mem (List.mem_append_right _ (List.mem_of_getElem? (i := 885) (by decide +kernel))) rfl, z_mem (List.mem_append_left _ (List.mem_of_getElem? (i := 57) (by decide +kernel))) rfl, z_mem (List.mem_append_right _ (List.mem_of_getElem? (i := 7) (by decide +kernel))) rfl, ⟨by decide, by decide, by decide +kernel⟩, by decide, by decide, rfl⟩
theorem Y_X4_isPlan : z_YV yX4_isPlan cX4_isPlan 5 (some .boolean) 1 5 := ⟨z_mem (List.mem_append_right _ (List.mem_of_getElem? (i := 890) (by decide +kernel))) rfl, z_mem (List.mem_append_right _ (List.mem_of_getElem? (i := 889) (by decide +kernel))) rfl, z_mem (List.mem_append_left _ (List.mem_of_getElem? (i := 58) (by decide +kernel))) rfl, z_mem (List.mem_append_right _ (List.mem_of_getElem? (i := 7) (by decide +kernel))) rfl, ⟨by decide, by decide, by decide +kernel⟩, by decide, by decide, rfl⟩
theorem Y_X4_step : z_YV yX4_step cX4_step 4 (some .boolean) 1 5 := ⟨z_mem (List.mem_append_right _ (List.mem_of_getElem? (i := 894) (by decide +kernel))) rfl, z_mem (List.mem_append_right _ (List.mem_of_getElem? (i := 893) (by decide +kernel))) rfl, z_mem (List.mem_append_left _ (List.mem_of_getElem? (i := 59) (by decide +kernel))) rfl, z_mem (List.mem_append_right _ (List.mem_of_getElem? (i := 7) (by decide +kernel))) rfl, ⟨by decide, by decide, by decide +kernel⟩, by decide, by decide, rfl⟩
theorem Y_X4_with : z_YV yX4_with cX4_with 7 (some .int) 2 5 := ⟨z_mem (List.mem_append_right _ (List.mem_of_getElem? (i := 898) (by decide +kernel))) rfl, z_mem (List.mem_append_right _ (List.mem_of_getElem? (i := 897) (by decide +kernel))) rfl, z_mem (List.mem_append_left _ (List.mem_of_getElem? (i := 60) (by decide +kernel))) rfl, z_mem (List.mem_append_right _ (List.mem_of_getElem? (i := 7) (by decide +kernel))) rfl, ⟨by decide, by decide, by decide +kernel⟩, by decide, by decide, rfl⟩
theorem Y_X4_planned : z_YV yX4_planned cX4_planned 3 (some .int) 1 5 := ⟨z_mem (List.mem_append_right _ (List.mem_of_getElem? (i := 907) (by decide +kernel))) rfl, z_mem (List.mem_append_right _ (List.mem_of_getElem? (i := 905) (by decide +kernel))) rfl, z_mem (List.mem_append_right _ (List.mem_of_getElem? (i := 906) (by decide +kernel))) rfl, z_mem (List.mem_append_right _ (List.mem_of_getElem? (i := 7) (by decide +kernel))) rfl, ⟨by decide, by decide, by decide +kernel⟩, by decide, by decide, rfl⟩
theorem Y_X4_plan : z_YV yX4_plan cX4_plan 9 (some .int) 4 5 := ⟨z_mem (List.mem_append_right _ (List.mem_of_getElem? (i := 911) (by decide +kernel))) rfl, z_mem (List.mem_append_right _ (List.mem_of_getElem? (i := 909) (by decide +kernel))) rfl, z_mem (List.mem_append_right _ (List.mem_of_getElem? (i := 910) (by decide +kernel))) rfl, z_mem (List.mem_append_right _ (List.mem_of_getElem? (i := 7) (by decide +kernel))) rfl, ⟨by decide, by decide, by decide +kernel⟩, by decide, by decide, rfl⟩
theorem Y_X4_goOn : z_YV yX4_goOn cX4_goOn 3 (some .int) 0 5 := ⟨z_mem (List.mem_append_right _ (List.mem_of_getElem? (i := 915) (by decide +kernel))) rfl, z_mem (List.mem_append_right _ (List.mem_of_getElem? (i := 913) (by decide +kernel))) rfl, z_mem (List.mem_append_right _ (List.mem_of_getElem? (i := 914) (by decide +kernel))) rfl, z_mem (List.mem_append_right _ (List.mem_of_getElem? (i := 7) (by decide +kernel))) rfl, ⟨by decide, by decide, by decide +kernel⟩, by decide, by decide, rfl⟩
theorem Y_X4_next : z_YV yX4_next cX4_next 9 (some .int) 0 5 := ⟨z_mem (List.mem_append_right _ (List.mem_of_getElem? (i := 919) (by decide +kernel))) rfl, z_mem (List.mem_append_right _ (List.mem_of_getElem? (i := 918) (by decide +kernel))) rfl, z_mem (List.mem_append_left _ (List.mem_of_getElem? (i := 61) (by decide +kernel))) rfl, z_mem (List.mem_append_right _ (List.mem_of_getElem? (i := 7) (by decide +kernel))) rfl, ⟨by decide, by decide, by decide +kernel⟩, by decide, by decide, rfl⟩
theorem Y_X4_finish : z_YV yX4_finish cX4_finish 3 (some .int) 0 5 := ⟨z_mem (List.mem_append_right _ (List.mem_of_getElem? (i := 923) (by decide +kernel))) rfl, z_mem (List.mem_append_right _ (List.mem_of_getElem? (i := 921) (by decide +kernel))) rfl, z_mem (List.mem_append_right _ (List.mem_of_getElem? (i := 922) (by decide +kernel))) rfl, z_mem (List.mem_append_right _ (List.mem_of_getElem? (i := 7) (by decide +kernel))) rfl, ⟨by decide, by decide, by decide +kernel⟩, by decide, by decide, rfl⟩
theorem Y_X4_count : z_YV yX4_count cX4_count 4 (some .int) 1 5 := ⟨z_mem (List.mem_append_right _ (List.mem_of_getElem? (i := 928) (by decide +kernel))) rfl, z_mem (List.mem_append_right _ (List.mem_of_getElem? (i := 926) (by decide +kernel))) rfl, z_mem (List.mem_append_right _ (List.mem_of_getElem? (i := 927) (by decide +kernel))) rfl, z_mem (List.mem_append_right _ (List.mem_of_getElem? (i := 7) (by decide +kernel))) rfl, ⟨by decide, by decide, by decide +kernel⟩, by decide, by decide, rfl⟩
theorem k_nK : ∀ U, z_Nw U → va_Nw (.methodLinkNest RX0 29 yX3_isIn RX3) U := fun _ h => h.2.1
theorem k_nN : ∀ U, z_Nw U → va_Nw (.methodLinkNest RX2 66 yX3_isIn RX3) U := fun _ h => h.2.2.1
theorem f0_Jx4a65c_39 : Cond.fieldLink RJx4a65c 39 "java/util/ArrayList" "DEFAULTCAPACITY_EMPTY_ELEMENTDATA" "[Ljava/lang/Object;" ∈ z_tbl := z_mem (List.mem_append_right _ (List.mem_of_getElem? (i := 37) (by decide +kernel))) rfl
end
section
/-! NUMBERS AS NATURALS, and rows that speak of them -/
theorem q_tb (n : Nat) : (nI n).toBitVec = BitVec.ofNat 32 n := rfl
theorem q_inj {a b : Int32} (h : a.toBitVec = b.toBitVec) : a = b := Int32.toBitVec_inj.mp h
theorem q_and (a b : Nat) : nI a &&& nI b = nI (a &&& b) := q_inj (by
  rw [Int32.toBitVec_and, q_tb, q_tb, q_tb]
  apply BitVec.eq_of_getLsbD_eq
  intro i hi
  simp [BitVec.getLsbD_ofNat, hi])
theorem q_or (a b : Nat) : nI a ||| nI b = nI (a ||| b) := q_inj (by
  rw [Int32.toBitVec_or, q_tb, q_tb, q_tb]
  apply BitVec.eq_of_getLsbD_eq
  intro i hi
  simp [BitVec.getLsbD_ofNat, hi])
theorem q_xor (a b : Nat) : nI a ^^^ nI b = nI (a ^^^ b) := q_inj (by
  rw [Int32.toBitVec_xor, q_tb, q_tb, q_tb]
  apply BitVec.eq_of_getLsbD_eq
  intro i hi
  simp [BitVec.getLsbD_ofNat, hi])
theorem q_sl : ∀ n, n < 32 → ((nI n &&& 31).toBitVec.smod 32).toNat = n := by decide +kernel
theorem q_su : ∀ n, n < 32 → (((nI n).toUInt32 &&& Int32.toUInt32 31).toBitVec % 32).toNat = n := by decide +kernel
theorem q_mod (n : Nat) : nI n = nI (n % 2 ^ 32) := q_inj (by
  rw [q_tb, q_tb]
  apply BitVec.eq_of_toNat_eq
  rw [BitVec.toNat_ofNat, BitVec.toNat_ofNat, Nat.mod_mod])
theorem q_of (x : Int32) : ∃ n, n < 2 ^ 32 ∧ x = nI n := ⟨x.toBitVec.toNat, x.toBitVec.isLt, q_inj (by rw [q_tb]; simp)⟩
theorem q_tn {n : Nat} (h : n < 2 ^ 32) : (nI n).toBitVec.toNat = n := pk_tn h
theorem q_shl (a : Nat) {k : Nat} (hk : k < 32) : nI a <<< (nI k &&& 31) = nI (a * 2 ^ k) := by
  apply q_inj
  apply BitVec.eq_of_toNat_eq
  rw [pk_shl (nI a) (nI k &&& 31) k (q_sl k hk), q_tb, q_tb, BitVec.toNat_ofNat, BitVec.toNat_ofNat, Nat.mod_mul_mod]
theorem q_shl1 {k : Nat} (hk : k < 32) : nI 1 <<< (nI k &&& 31) = nI (2 ^ k) := by rw [q_shl 1 hk, Nat.one_mul]
theorem q_shr {a k : Nat} (ha : a < 2 ^ 31) (hk : k < 32) : nI a >>> (nI k &&& 31) = nI (a / 2 ^ k) := pk_shrN ha _ k (q_sl k hk)
theorem q_ushr {a k : Nat} (ha : a < 2 ^ 32) (hk : k < 32) : ((nI a).toUInt32 >>> ((nI k).toUInt32 &&& Int32.toUInt32 31)).toInt32 = nI (a / 2 ^ k) := pk_ushrN ha _ k (q_su k hk)
theorem q_tbn (a k : Nat) : a / 2 ^ k % 2 = (a.testBit k).toNat := by
  rw [Nat.toNat_testBit]
theorem q_a1 (a : Nat) : a &&& 1 = a % 2 := Nat.and_two_pow_sub_one_eq_mod a 1
theorem q_bit {a k : Nat} (ha : a < 2 ^ 31) (hk : k < 32) : nI a >>> (nI k &&& 31) &&& nI 1 = nI (a.testBit k).toNat := by
  rw [q_shr ha hk, q_and, q_a1, q_tbn]
/-- the bits of a that b has not -/
def q_df (a b : Nat) : Nat := a ^^^ (a &&& b)
theorem q_df_bit (a b k : Nat) : (q_df a b).testBit k = (a.testBit k && !b.testBit k) := by
  unfold q_df
  rw [Nat.testBit_xor, Nat.testBit_and]
  cases a.testBit k <;> cases b.testBit k <;> rfl
theorem q_dif (a b : Nat) : nI a &&& (nI b ^^^ -1) = nI (q_df a b) := q_inj (by
  rw [Int32.toBitVec_and, Int32.toBitVec_xor, q_tb, q_tb, q_tb]
  apply BitVec.eq_of_getLsbD_eq
  intro i hi
  have h1 : (Int32.toBitVec (-1)).getLsbD i = true := by
    have : ∀ i, i < 32 → (Int32.toBitVec (-1)).getLsbD i = true := by decide +kernel
    exact this i hi
  simp only [BitVec.getLsbD_and, BitVec.getLsbD_xor, BitVec.getLsbD_ofNat, hi, decide_true, Bool.true_and, h1, q_df_bit]
  cases a.testBit i <;> cases b.testBit i <;> rfl)
theorem q_lt2 {a k : Nat} (h : ∀ i, k ≤ i → a.testBit i = false) : a < 2 ^ k := Nat.lt_pow_two_of_testBit a h
theorem q_hi {a k i : Nat} (h : a < 2 ^ k) (hi : k ≤ i) : a.testBit i = false := Nat.testBit_lt_two_pow (Nat.lt_of_lt_of_le h (Nat.pow_le_pow_right (by decide) hi))
theorem q_xor_lt {a b k : Nat} (ha : a < 2 ^ k) (hb : b < 2 ^ k) : a ^^^ b < 2 ^ k := Nat.xor_lt_two_pow ha hb
theorem q_and_lt {a b k : Nat} (ha : a < 2 ^ k) : a &&& b < 2 ^ k := q_lt2 fun i hi => by rw [Nat.testBit_and, q_hi ha hi]; rfl
theorem q_or_lt {a b k : Nat} (ha : a < 2 ^ k) (hb : b < 2 ^ k) : a ||| b < 2 ^ k := Nat.or_lt_two_pow ha hb
theorem q_df_lt {a b k : Nat} (ha : a < 2 ^ k) : q_df a b < 2 ^ k := q_lt2 fun i hi => by rw [q_df_bit, q_hi ha hi]; rfl
theorem q_eqN {a b : Nat} (ha : a < 2 ^ 32) (hb : b < 2 ^ 32) (h : nI a = nI b) : a = b := by
  have : (nI a).toBitVec.toNat = (nI b).toBitVec.toNat := by rw [h]
  rwa [q_tn ha, q_tn hb] at this
/-! longs -/
theorem q_ltb (n : Nat) : (lN n).toBitVec = BitVec.ofNat 64 n := rfl
theorem q_linj {a b : Int64} (h : a.toBitVec = b.toBitVec) : a = b := Int64.toBitVec_inj.mp h
theorem q_land (a b : Nat) : lN a &&& lN b = lN (a &&& b) := q_linj (by
  rw [Int64.toBitVec_and, q_ltb, q_ltb, q_ltb]
  apply BitVec.eq_of_getLsbD_eq
  intro i hi
  simp [BitVec.getLsbD_ofNat, hi])
theorem q_lor (a b : Nat) : lN a ||| lN b = lN (a ||| b) := q_linj (by
  rw [Int64.toBitVec_or, q_ltb, q_ltb, q_ltb]
  apply BitVec.eq_of_getLsbD_eq
  intro i hi
  simp [BitVec.getLsbD_ofNat, hi])
theorem q_lxor (a b : Nat) : lN a ^^^ lN b = lN (a ^^^ b) := q_linj (by
  rw [Int64.toBitVec_xor, q_ltb, q_ltb, q_ltb]
  apply BitVec.eq_of_getLsbD_eq
  intro i hi
  simp [BitVec.getLsbD_ofNat, hi])
theorem q_lc : ∀ k, k < 64 → ((nI k).toInt64 &&& 63) = lN k := by decide +kernel
theorem q_lsm : ∀ k, k < 64 → (BitVec.ofNat 64 k).smod 64 = BitVec.ofNat 64 k := by decide +kernel
theorem q_lshl (n : Nat) {k : Nat} (hk : k < 64) : lN n <<< ((nI k).toInt64 &&& 63) = lN (n * 2 ^ k) := by
  rw [q_lc k hk]
  apply q_linj
  rw [Int64.toBitVec_shiftLeft, q_ltb, q_ltb, q_ltb, q_lsm k hk]
  apply BitVec.eq_of_toNat_eq
  rw [BitVec.shiftLeft_eq', BitVec.toNat_shiftLeft, BitVec.toNat_ofNat, BitVec.toNat_ofNat, BitVec.toNat_ofNat, Nat.shiftLeft_eq, Nat.mod_eq_of_lt (show k < 2 ^ 64 by omega), Nat.mod_mul_mod]
theorem q_lshl1 {k : Nat} (hk : k < 64) : lN 1 <<< ((nI k).toInt64 &&& 63) = lN (2 ^ k) := by rw [q_lshl 1 hk, Nat.one_mul]
theorem q_lshr {a k : Nat} (ha : a < 2 ^ 62) (hk : k < 64) : lN a >>> ((nI k).toInt64 &&& 63) = lN (a / 2 ^ k) := by
  rw [q_lc k hk]
  have hd : a / 2 ^ k ≤ a := Nat.div_le_self _ _
  have hD : ((lN k).toBitVec.smod 64).toNat = k := by
    rw [q_ltb, q_lsm k hk, BitVec.toNat_ofNat, Nat.mod_eq_of_lt (by omega)]
  apply Int64.toInt_inj.mp
  have e : (lN a >>> lN k).toInt = (lN a).toInt >>> k := by
    have := hD
    conv => rhs; rw [← this]
    exact BitVec.toInt_sshiftRight ..
  have h1 : (lN a).toInt = (a : Int) := lg_ofNat_toInt (by omega)
  have h2 : (lN (a / 2 ^ k)).toInt = ((a / 2 ^ k : Nat) : Int) := lg_ofNat_toInt (by omega)
  rw [e, Int.shiftRight_eq_div_pow, h1, h2]
  rfl
theorem q_lbit {a k : Nat} (ha : a < 2 ^ 62) (hk : k < 64) : lN a >>> ((nI k).toInt64 &&& 63) &&& lN 1 = lN (a.testBit k).toNat := by
  rw [q_lshr ha hk, q_land, q_a1, q_tbn]
theorem q_ltn {n : Nat} (h : n < 2 ^ 64) : (lN n).toBitVec.toNat = n := by rw [q_ltb, BitVec.toNat_ofNat, Nat.mod_eq_of_lt h]
theorem q_leqN {a b : Nat} (ha : a < 2 ^ 64) (hb : b < 2 ^ 64) (h : lN a = lN b) : a = b := by
  have : (lN a).toBitVec.toNat = (lN b).toBitVec.toNat := by rw [h]
  rwa [q_ltn ha, q_ltn hb] at this

section ZNUM
variable {y : MethodName} {cc : ByteArray} {nL d : Nat} {ret : Option FieldType} {K : zK} {pc : Nat} {ls : zL} {st : List Value} {h : zH} {I : zI} {J : zJ} {kc ks : Nat}
/-- the top by other words -/
theorem v_top {x x2 : Int32} (e : x = x2) (k : z_V K pc ls (.int x2 :: st) h I J kc ks) : z_V K pc ls (.int x :: st) h I J kc ks := e ▸ k
theorem v_topl {x x2 : Int64} (e : x = x2) (k : z_V K pc ls (.long x2 :: st) h I J kc ks) : z_V K pc ls (.long x :: st) h I J kc ks := e ▸ k
/-- the store by other words -/
theorem v_st {h2 : zH} {I2 : zI} {J2 : zJ} (e1 : h = h2) (e2 : I = I2) (e3 : J = J2) (k : z_V K pc ls st h2 I2 J2 kc ks) : z_V K pc ls st h I J kc ks := by
  subst e1 e2 e3
  exact k
/-- the whole row by other words, all of them by what they are -/
theorem v_eq {ls2 : zL} {st2 : List Value} (e1 : ls = ls2) (e2 : st = st2) (k : z_V K pc ls2 st2 h I J kc ks) : z_V K pc ls st h I J kc ks := by
  subst e1 e2
  exact k
theorem v_inc (E : z_E y cc nL ret d K) {i x : Nat} (hd : decode cc pc = .ok (.iinc i 1, 3)) (hg : z_at ls i = some (.int (nI x))) (hn : i < nL) (k : z_V K (pc + 3) (z_set i (.int (nI (x + 1))) ls) st h I J kc ks) : z_V K pc ls st h I J kc ks :=
  v_iinc E hd hg (nI_1 x) hn k
theorem v_iaddN (E : z_E y cc nL ret d K) {a b : Nat} (hd : decode cc pc = .ok (.iadd, 1))  (k : z_V K (pc + 1) ls (.int (nI (a + b)) :: st) h I J kc ks) : z_V K pc ls (.int (nI b) :: .int (nI a) :: st) h I J kc ks := v_iadd E hd (v_top (nI_add a b) k)
theorem v_isubN (E : z_E y cc nL ret d K) {a b : Nat} (hd : decode cc pc = .ok (.isub, 1)) (hab : b ≤ a) (k : z_V K (pc + 1) ls (.int (nI (a - b)) :: st) h I J kc ks) : z_V K pc ls (.int (nI b) :: .int (nI a) :: st) h I J kc ks := v_isub E hd (v_top (pk_sub hab) k)
theorem v_imulN (E : z_E y cc nL ret d K) {a b : Nat} (hd : decode cc pc = .ok (.imul, 1))  (k : z_V K (pc + 1) ls (.int (nI (a * b)) :: st) h I J kc ks) : z_V K pc ls (.int (nI b) :: .int (nI a) :: st) h I J kc ks := v_imul E hd (v_top (pk_mul a b) k)
theorem v_iandN (E : z_E y cc nL ret d K) {a b : Nat} (hd : decode cc pc = .ok (.iand, 1))  (k : z_V K (pc + 1) ls (.int (nI (a &&& b)) :: st) h I J kc ks) : z_V K pc ls (.int (nI b) :: .int (nI a) :: st) h I J kc ks := v_iand E hd (v_top (q_and a b) k)
theorem v_iorN (E : z_E y cc nL ret d K) {a b : Nat} (hd : decode cc pc = .ok (.ior, 1))  (k : z_V K (pc + 1) ls (.int (nI (a ||| b)) :: st) h I J kc ks) : z_V K pc ls (.int (nI b) :: .int (nI a) :: st) h I J kc ks := v_ior E hd (v_top (q_or a b) k)
theorem v_ixorN (E : z_E y cc nL ret d K) {a b : Nat} (hd : decode cc pc = .ok (.ixor, 1))  (k : z_V K (pc + 1) ls (.int (nI (a ^^^ b)) :: st) h I J kc ks) : z_V K pc ls (.int (nI b) :: .int (nI a) :: st) h I J kc ks := v_ixor E hd (v_top (q_xor a b) k)
theorem v_ishlN (E : z_E y cc nL ret d K) {a b : Nat} (hd : decode cc pc = .ok (.ishl, 1)) (hb : b < 32) (k : z_V K (pc + 1) ls (.int (nI (a * 2 ^ b)) :: st) h I J kc ks) : z_V K pc ls (.int (nI b) :: .int (nI a) :: st) h I J kc ks := v_ishl E hd (v_top (q_shl a hb) k)
theorem v_ishrN (E : z_E y cc nL ret d K) {a b : Nat} (hd : decode cc pc = .ok (.ishr, 1)) (ha : a < 2 ^ 31) (hb : b < 32) (k : z_V K (pc + 1) ls (.int (nI (a / 2 ^ b)) :: st) h I J kc ks) : z_V K pc ls (.int (nI b) :: .int (nI a) :: st) h I J kc ks := v_ishr E hd (v_top (q_shr ha hb) k)
theorem v_iushrN (E : z_E y cc nL ret d K) {a b : Nat} (hd : decode cc pc = .ok (.iushr, 1)) (ha : a < 2 ^ 32) (hb : b < 32) (k : z_V K (pc + 1) ls (.int (nI (a / 2 ^ b)) :: st) h I J kc ks) : z_V K pc ls (.int (nI b) :: .int (nI a) :: st) h I J kc ks := v_iushr E hd (v_top (q_ushr ha hb) k)
theorem v_landN (E : z_E y cc nL ret d K) {a b : Nat} (hd : decode cc pc = .ok (.land, 1))  (k : z_V K (pc + 1) ls (.long (lN (a &&& b)) :: st) h I J kc ks) : z_V K pc ls (.long (lN b) :: .long (lN a) :: st) h I J kc ks := v_land E hd (v_topl (q_land a b) k)
theorem v_lorN (E : z_E y cc nL ret d K) {a b : Nat} (hd : decode cc pc = .ok (.lor, 1))  (k : z_V K (pc + 1) ls (.long (lN (a ||| b)) :: st) h I J kc ks) : z_V K pc ls (.long (lN b) :: .long (lN a) :: st) h I J kc ks := v_lor E hd (v_topl (q_lor a b) k)
theorem v_lxorN (E : z_E y cc nL ret d K) {a b : Nat} (hd : decode cc pc = .ok (.lxor, 1))  (k : z_V K (pc + 1) ls (.long (lN (a ^^^ b)) :: st) h I J kc ks) : z_V K pc ls (.long (lN b) :: .long (lN a) :: st) h I J kc ks := v_lxor E hd (v_topl (q_lxor a b) k)
theorem v_lshlN (E : z_E y cc nL ret d K) {a b : Nat} (hd : decode cc pc = .ok (.lshl, 1)) (hb : b < 64) (k : z_V K (pc + 1) ls (.long (lN (a * 2 ^ b)) :: st) h I J kc ks) : z_V K pc ls (.int (nI b) :: .long (lN a) :: st) h I J kc ks := v_lshl E hd (v_topl (q_lshl a hb) k)
theorem v_lshrN (E : z_E y cc nL ret d K) {a b : Nat} (hd : decode cc pc = .ok (.lshr, 1)) (ha : a < 2 ^ 62) (hb : b < 64) (k : z_V K (pc + 1) ls (.long (lN (a / 2 ^ b)) :: st) h I J kc ks) : z_V K pc ls (.int (nI b) :: .long (lN a) :: st) h I J kc ks := v_lshr E hd (v_topl (q_lshr ha hb) k)
theorem v_icmp_eqN (E : z_E y cc nL ret d K) {a b : Nat} {off : Int} {tgt : Nat} (hd : decode cc pc = .ok (.if_icmp .eq off, 3)) (ht : (pc : Int) + off = (tgt : Int)) (ha : a < 2 ^ 31) (hb : b < 2 ^ 31) (kt : a = b → z_V K tgt ls st h I J kc ks) (kf : a ≠ b → z_V K (pc + 3) ls st h I J kc ks) : z_V K pc ls (.int (nI b) :: .int (nI a) :: st) h I J kc ks := v_icmp_eq E hd ht (fun q => kt ((nI_eq ha hb).mp q)) (fun q => kf (fun e => q ((nI_eq ha hb).mpr e)))
theorem v_icmp_neN (E : z_E y cc nL ret d K) {a b : Nat} {off : Int} {tgt : Nat} (hd : decode cc pc = .ok (.if_icmp .ne off, 3)) (ht : (pc : Int) + off = (tgt : Int)) (ha : a < 2 ^ 31) (hb : b < 2 ^ 31) (kt : a ≠ b → z_V K tgt ls st h I J kc ks) (kf : a = b → z_V K (pc + 3) ls st h I J kc ks) : z_V K pc ls (.int (nI b) :: .int (nI a) :: st) h I J kc ks := v_icmp_ne E hd ht (fun q => kt (fun e => q ((nI_eq ha hb).mpr e))) (fun q => kf ((nI_eq ha hb).mp q))
theorem v_icmp_ltN (E : z_E y cc nL ret d K) {a b : Nat} {off : Int} {tgt : Nat} (hd : decode cc pc = .ok (.if_icmp .lt off, 3)) (ht : (pc : Int) + off = (tgt : Int)) (ha : a < 2 ^ 31) (hb : b < 2 ^ 31) (kt : a < b → z_V K tgt ls st h I J kc ks) (kf : b ≤ a → z_V K (pc + 3) ls st h I J kc ks) : z_V K pc ls (.int (nI b) :: .int (nI a) :: st) h I J kc ks := v_icmp_lt E hd ht (fun q => kt ((nI_ltI ha hb).mp q)) (fun q => kf (Nat.not_lt.mp fun e => q ((nI_ltI ha hb).mpr e)))
theorem v_icmp_geN (E : z_E y cc nL ret d K) {a b : Nat} {off : Int} {tgt : Nat} (hd : decode cc pc = .ok (.if_icmp .ge off, 3)) (ht : (pc : Int) + off = (tgt : Int)) (ha : a < 2 ^ 31) (hb : b < 2 ^ 31) (kt : b ≤ a → z_V K tgt ls st h I J kc ks) (kf : a < b → z_V K (pc + 3) ls st h I J kc ks) : z_V K pc ls (.int (nI b) :: .int (nI a) :: st) h I J kc ks := v_icmp_ge E hd ht (fun q => kt ((nI_leI hb ha).mp q)) (fun q => kf (Nat.not_le.mp fun e => q ((nI_leI hb ha).mpr e)))
theorem v_icmp_gtN (E : z_E y cc nL ret d K) {a b : Nat} {off : Int} {tgt : Nat} (hd : decode cc pc = .ok (.if_icmp .gt off, 3)) (ht : (pc : Int) + off = (tgt : Int)) (ha : a < 2 ^ 31) (hb : b < 2 ^ 31) (kt : b < a → z_V K tgt ls st h I J kc ks) (kf : a ≤ b → z_V K (pc + 3) ls st h I J kc ks) : z_V K pc ls (.int (nI b) :: .int (nI a) :: st) h I J kc ks := v_icmp_gt E hd ht (fun q => kt ((nI_ltI hb ha).mp q)) (fun q => kf (Nat.not_lt.mp fun e => q ((nI_ltI hb ha).mpr e)))
theorem v_icmp_leN (E : z_E y cc nL ret d K) {a b : Nat} {off : Int} {tgt : Nat} (hd : decode cc pc = .ok (.if_icmp .le off, 3)) (ht : (pc : Int) + off = (tgt : Int)) (ha : a < 2 ^ 31) (hb : b < 2 ^ 31) (kt : a ≤ b → z_V K tgt ls st h I J kc ks) (kf : b < a → z_V K (pc + 3) ls st h I J kc ks) : z_V K pc ls (.int (nI b) :: .int (nI a) :: st) h I J kc ks := v_icmp_le E hd ht (fun q => kt ((nI_leI ha hb).mp q)) (fun q => kf (Nat.not_le.mp fun e => q ((nI_leI ha hb).mpr e)))
theorem v_if_eqN (E : z_E y cc nL ret d K) {a : Nat} {off : Int} {tgt : Nat} (hd : decode cc pc = .ok (.ifCond .eq off, 3)) (ht : (pc : Int) + off = (tgt : Int)) (ha : a < 2 ^ 31) (kt : a = 0 → z_V K tgt ls st h I J kc ks) (kf : 0 < a → z_V K (pc + 3) ls st h I J kc ks) : z_V K pc ls (.int (nI a) :: st) h I J kc ks := v_if_eq E hd ht (fun q => kt (q_eqN (by omega) (by decide) q)) (fun q => kf (Nat.pos_of_ne_zero fun e => q (by rw [e]; rfl)))
theorem v_if_neN (E : z_E y cc nL ret d K) {a : Nat} {off : Int} {tgt : Nat} (hd : decode cc pc = .ok (.ifCond .ne off, 3)) (ht : (pc : Int) + off = (tgt : Int)) (ha : a < 2 ^ 31) (kt : 0 < a → z_V K tgt ls st h I J kc ks) (kf : a = 0 → z_V K (pc + 3) ls st h I J kc ks) : z_V K pc ls (.int (nI a) :: st) h I J kc ks := v_if_ne E hd ht (fun q => kt (Nat.pos_of_ne_zero fun e => q (by rw [e]; rfl))) (fun q => kf (q_eqN (by omega) (by decide) q))
theorem v_if_gtN (E : z_E y cc nL ret d K) {a : Nat} {off : Int} {tgt : Nat} (hd : decode cc pc = .ok (.ifCond .gt off, 3)) (ht : (pc : Int) + off = (tgt : Int)) (ha : a < 2 ^ 31) (kt : 0 < a → z_V K tgt ls st h I J kc ks) (kf : a = 0 → z_V K (pc + 3) ls st h I J kc ks) : z_V K pc ls (.int (nI a) :: st) h I J kc ks := v_if_gt E hd ht (fun q => kt ((nI_ltI (a := 0) (by decide) ha).mp q)) (fun q => kf (Nat.eq_zero_of_not_pos fun e => q ((nI_ltI (a := 0) (by decide) ha).mpr e)))
theorem v_if_leN (E : z_E y cc nL ret d K) {a : Nat} {off : Int} {tgt : Nat} (hd : decode cc pc = .ok (.ifCond .le off, 3)) (ht : (pc : Int) + off = (tgt : Int)) (ha : a < 2 ^ 31) (kt : a = 0 → z_V K tgt ls st h I J kc ks) (kf : 0 < a → z_V K (pc + 3) ls st h I J kc ks) : z_V K pc ls (.int (nI a) :: st) h I J kc ks := v_if_le E hd ht (fun q => kt (Nat.le_zero.mp ((nI_leI (b := 0) ha (by decide)).mp q))) (fun q => kf (Nat.pos_of_ne_zero fun e => q (by rw [e]; decide)))
/-- a bit as a condition -/
theorem v_if_eqB (E : z_E y cc nL ret d K) {b : Bool} {off : Int} {tgt : Nat} (hd : decode cc pc = .ok (.ifCond .eq off, 3)) (ht : (pc : Int) + off = (tgt : Int)) (kt : b = false → z_V K tgt ls st h I J kc ks) (kf : b = true → z_V K (pc + 3) ls st h I J kc ks) : z_V K pc ls (.int (nI b.toNat) :: st) h I J kc ks := by
  refine v_if_eqN E hd ht (by cases b <;> decide) (fun q => kt ?_) (fun q => kf ?_) <;> cases b <;> simp_all
theorem v_if_neB (E : z_E y cc nL ret d K) {b : Bool} {off : Int} {tgt : Nat} (hd : decode cc pc = .ok (.ifCond .ne off, 3)) (ht : (pc : Int) + off = (tgt : Int)) (kt : b = true → z_V K tgt ls st h I J kc ks) (kf : b = false → z_V K (pc + 3) ls st h I J kc ks) : z_V K pc ls (.int (nI b.toNat) :: st) h I J kc ks := by
  refine v_if_neN E hd ht (by cases b <;> decide) (fun q => kt ?_) (fun q => kf ?_) <;> cases b <;> simp_all
/-- a counted loop, from its end back -/
theorem z_for {P : Nat → Prop} (N : Nat) (he : P N) (hs : ∀ k, k < N → P (k + 1) → P k) : ∀ k, k ≤ N → P k := by
  have key : ∀ n k, k + n = N → P k := by
    intro n
    induction n with
    | zero =>
      intro k hk
      have : k = N := by omega
      subst this
      exact he
    | succ n ih =>
      intro k hk
      exact hs k (by omega) (ih (k + 1) (by omega))
  exact fun k hk => key (N - k) k (by omega)
end ZNUM
end
section
/-! EXACT CONTRACTS: one answer, one store -/
def z_q (v : Option Value) (h : zH) (I : zI) (J : zJ) : zQ := fun r h' I' J' => r = v ∧ h' = h ∧ I' = I ∧ J' = J
theorem z_qq {v : Option Value} {h : zH} {I : zI} {J : zJ} : z_q v h I J v h I J := ⟨rfl, rfl, rfl, rfl⟩
theorem z_qv {v w : Option Value} {h : zH} {I : zI} {J : zJ} (e : w = v) : z_q v h I J w h I J := ⟨e, rfl, rfl, rfl⟩
theorem z_qi {v w : Int32} {h : zH} {I : zI} {J : zJ} (e : w = v) : z_q (some (.int v)) h I J (some (.int w)) h I J := ⟨by rw [e], rfl, rfl, rfl⟩
theorem z_ql {v w : Int64} {h : zH} {I : zI} {J : zJ} (e : w = v) : z_q (some (.long v)) h I J (some (.long w)) h I J := ⟨by rw [e], rfl, rfl, rfl⟩
section ZEX
variable {y : MethodName} {cc : ByteArray} {nL d : Nat} {ret : Option FieldType} {K : zK} {pc : Nat} {ls : zL} {st : List Value} {h : zH} {I : zI} {J : zJ} {kc ks : Nat}
variable {idx np ci a : Nat} {y2 : MethodName} {cc2 : ByteArray} {nL2 : Nat} {ret2 : Option FieldType} {As stk : List Value} {h2 : zH} {I2 : zI} {J2 : zJ} {v : Value}
theorem v_callV1 (E : z_E y cc nL ret (d + 1) K) (hd : decode cc pc = .ok (.invokevirtual idx, 3)) (hlk : Cond.methodLink y.cls idx y2 ∈ z_tbl) (hY : z_YV y2 cc2 nL2 ret2 np ci) (hM : z_C y2 cc2 nL2 ret2 d (.ref a :: As) h I J 0 0 (z_q (some v) h2 I2 J2)) (hT : (h.2.1 a).1 = ci) (hn : As.length = np) (hst : stk = As.reverse ++ .ref a :: st) (hw : (st.map fun v => v.category).sum ≤ 8) (k : z_V K (pc + 3) ls (v :: st) h2 I2 J2 kc ks) : z_V K pc ls stk h I J kc ks :=
  v_callV (kc := kc) (ks := ks) (c1 := 0) (s1 := 0) E hd hlk hY hM hT hn hst hw (fun r h' I' J' hq => by obtain ⟨rfl, rfl, rfl, rfl⟩ := hq; exact k)
theorem v_callV0 (E : z_E y cc nL ret (d + 1) K) (hd : decode cc pc = .ok (.invokevirtual idx, 3)) (hlk : Cond.methodLink y.cls idx y2 ∈ z_tbl) (hY : z_YV y2 cc2 nL2 ret2 np ci) (hM : z_C y2 cc2 nL2 ret2 d (.ref a :: As) h I J 0 0 (z_q none h2 I2 J2)) (hT : (h.2.1 a).1 = ci) (hn : As.length = np) (hst : stk = As.reverse ++ .ref a :: st) (hw : (st.map fun v => v.category).sum ≤ 8) (k : z_V K (pc + 3) ls st h2 I2 J2 kc ks) : z_V K pc ls stk h I J kc ks :=
  v_callV (kc := kc) (ks := ks) (c1 := 0) (s1 := 0) E hd hlk hY hM hT hn hst hw (fun r h' I' J' hq => by obtain ⟨rfl, rfl, rfl, rfl⟩ := hq; exact k)
theorem v_callS1 (E : z_E y cc nL ret (d + 1) K) (hd : decode cc pc = .ok (.invokestatic idx, 3)) (hlk : Cond.methodLink y.cls idx y2 ∈ z_tbl) (hY : z_YS y2 cc2 nL2 ret2 np) (hM : z_C y2 cc2 nL2 ret2 d As h I J 0 0 (z_q (some v) h2 I2 J2)) (hn : As.length = np) (hst : stk = As.reverse ++ st) (hw : (st.map fun v => v.category).sum ≤ 8) (k : z_V K (pc + 3) ls (v :: st) h2 I2 J2 kc ks) : z_V K pc ls stk h I J kc ks :=
  v_callS (kc := kc) (ks := ks) (c1 := 0) (s1 := 0) E hd hlk hY hM hn hst hw (fun r h' I' J' hq => by obtain ⟨rfl, rfl, rfl, rfl⟩ := hq; exact k)
theorem v_callN1 {host : String} (E : z_E y cc nL ret (d + 1) K) (hd : decode cc pc = .ok (.invokestatic idx, 3)) (hlk : ∀ U, z_Nw U → va_Nw (.methodLinkNest y.cls idx y2 host) U) (hY : z_YS y2 cc2 nL2 ret2 np) (hM : z_C y2 cc2 nL2 ret2 d As h I J 0 0 (z_q (some v) h2 I2 J2)) (hn : As.length = np) (hst : stk = As.reverse ++ st) (hw : (st.map fun v => v.category).sum ≤ 8) (k : z_V K (pc + 3) ls (v :: st) h2 I2 J2 kc ks) : z_V K pc ls stk h I J kc ks :=
  v_callN (kc := kc) (ks := ks) (c1 := 0) (s1 := 0) E hd hlk hY hM hn hst hw (fun r h' I' J' hq => by obtain ⟨rfl, rfl, rfl, rfl⟩ := hq; exact k)
theorem v_callI0 {c1 s1 : Nat} (E : z_E y cc nL ret (d + 1) K) (hd : decode cc pc = .ok (.invokespecial idx, 3)) (hlk : Cond.methodLink y.cls idx y2 ∈ z_tbl) (hY : z_YI y2 cc2 nL2 np) (hM : z_C y2 cc2 nL2 none d (.ref a :: As) h I J c1 s1 (z_q none h2 I2 J2)) (hn : As.length = np) (hst : stk = As.reverse ++ .ref a :: st) (hw : (st.map fun v => v.category).sum ≤ 8) (k : z_V K (pc + 3) ls st h2 I2 J2 kc ks) : z_V K pc ls stk h I J (kc + c1) (ks + s1) :=
  v_callI (kc := kc) (ks := ks) (c1 := c1) (s1 := s1) E hd hlk hY hM hn hst hw (fun r h' I' J' hq => by obtain ⟨rfl, rfl, rfl, rfl⟩ := hq; exact k)
end ZEX
end
section
/-! THE JDK's SMALL FUNCTIONS over masks below 1024 -/
section ZE2
variable {y : MethodName} {cc : ByteArray} {nL d : Nat} {ret : Option FieldType} {K : zK} {pc : Nat} {ls : zL} {st : List Value} {h : zH} {I : zI} {J : zJ} {kc ks : Nat}
/-- reads with the value by other words -/
theorem v_ialoadE (E : z_E y cc nL ret d K) {a n j : Nat} {i x : Int32} (hd : decode cc pc = .ok (.iaload, 1)) (hT : h.2.1 a = (10, n)) (hi : i = nI j) (hj : j < n) (hn : n < 2 ^ 31) (e : I a j = x) (k : z_V K (pc + 1) ls (.int x :: st) h I J kc ks) : z_V K pc ls (.int i :: .ref a :: st) h I J kc ks := v_iaload E hd hT hi hj hn (v_top e k)
theorem v_baloadE (E : z_E y cc nL ret d K) {a n j : Nat} {i x : Int32} (hd : decode cc pc = .ok (.baload, 1)) (hT : h.2.1 a = (12, n)) (hi : i = nI j) (hj : j < n) (hn : n < 2 ^ 31) (e : I a j = x) (k : z_V K (pc + 1) ls (.int x :: st) h I J kc ks) : z_V K pc ls (.int i :: .ref a :: st) h I J kc ks := v_baload E hd hT hi hj hn (v_top e k)
theorem v_laloadE (E : z_E y cc nL ret d K) {a n j : Nat} {i : Int32} {x : Int64} (hd : decode cc pc = .ok (.laload, 1)) (hT : h.2.1 a = (11, n)) (hi : i = nI j) (hj : j < n) (hn : n < 2 ^ 31) (e : J a j = x) (k : z_V K (pc + 1) ls (.long x :: st) h I J kc ks) : z_V K pc ls (.int i :: .ref a :: st) h I J kc ks := v_laload E hd hT hi hj hn (v_topl e k)
theorem v_getIE (E : z_E y cc nL ret d K) {idx ci k a : Nat} {x : Int32} (hf : z_Fl y.cls idx ci k) (hd : decode cc pc = .ok (.getfield idx, 3)) (hT : (h.2.1 a).1 = ci) (hk : z_kd (z_ty ci k) = 0) (e : I a k = x) (kk : z_V K (pc + 3) ls (.int x :: st) h I J kc ks) : z_V K pc ls (.ref a :: st) h I J kc ks := v_getI E hf hd hT hk (v_top e kk)
theorem v_getJE (E : z_E y cc nL ret d K) {idx ci k a : Nat} {x : Int64} (hf : z_Fl y.cls idx ci k) (hd : decode cc pc = .ok (.getfield idx, 3)) (hT : (h.2.1 a).1 = ci) (hk : z_kd (z_ty ci k) = 1) (e : J a k = x) (kk : z_V K (pc + 3) ls (.long x :: st) h I J kc ks) : z_V K pc ls (.ref a :: st) h I J kc ks := v_getJ E hf hd hT hk (v_topl e kk)
end ZE2
/-- how many bits a mask below 1024 has -/
def q_pop (m : Nat) : Nat := ((List.range 10).filter (fun i => m.testBit i)).length
/-- its lowest bit, its highest bit -/
def q_low (m : Nat) : Nat := m ^^^ (m &&& (m - 1))
def q_ctz (m : Nat) : Nat := Nat.log2 (q_low m)
def q_top (m : Nat) : Nat := 2 ^ Nat.log2 m
def q_bc (x : Int32) : Int32 :=
  let u (a : Int32) (k : Int32) : Int32 := (a.toUInt32 >>> (k.toUInt32 &&& Int32.toUInt32 31)).toInt32
  let a := x - (u x (nI 1) &&& 1431655765)
  let b := (a &&& 858993459) + (u a (nI 2) &&& 858993459)
  let c := (b + u b (nI 4)) &&& 252645135
  let e := c + u c (nI 8)
  let f := e + u e (nI 16)
  f &&& nI 63
theorem q_bc_ok : ∀ m, m < 1024 → q_bc (nI m) = nI (q_pop m) := by decide +kernel
theorem q_low_ok : ∀ m, m < 1024 → nI m &&& -(nI m) = nI (q_low m) := by decide +kernel
def q_l3 (n i : Nat) : Nat := n - i / 2
def q_l2 (n i : Nat) : Nat := if i < 4 then q_l3 n i else q_l3 (n - 2) (i / 4)
def q_l1 (n i : Nat) : Nat := if i < 16 then q_l2 n i else q_l2 (n - 4) (i / 16)
def q_l0 (n i : Nat) : Nat := if i < 256 then q_l1 n i else q_l1 (n - 8) (i / 256)
theorem q_nlz_ok : ∀ m, m < 1024 → 0 < m → q_l0 31 m = 31 - Nat.log2 m := by decide +kernel
theorem q_top_ok : ∀ m, m < 1024 → 0 < m → nI m &&& (Int32.toUInt32 (-2147483648) >>> ((nI (31 - Nat.log2 m)).toUInt32 &&& Int32.toUInt32 31)).toInt32 = nI (q_top m) := by decide +kernel
def q_t3 (n i : Nat) : Nat := n + i / 2
def q_t2 (n i : Nat) : Nat := if i ≤ 4 then q_t3 n i else q_t3 (n + 2) (i / 4)
def q_t1 (n i : Nat) : Nat := if i ≤ 16 then q_t2 n i else q_t2 (n + 4) (i / 16)
def q_t0 (n i : Nat) : Nat := if i ≤ 256 then q_t1 n i else q_t1 (n + 8) (i / 256)
theorem q_ctz_ok : ∀ m, m < 1024 → 0 < m → (if m &&& 1 = 1 then 0 else q_t0 1 (q_low m - 1)) = q_ctz m := by decide +kernel
theorem q_ctz_in : ∀ m, m < 1024 → 0 < m → (nI m ^^^ -1) &&& (nI m - nI 1) = nI (q_low m - 1) ∧ q_low m < 1024 ∧ ((m &&& 1 = 1) ↔ q_low m - 1 = 0) := by decide +kernel
theorem q_dec8 (n : Nat) (h : 8 ≤ n) : nI n + Int32.ofInt (-8) = nI (n - 8) := by
  rw [show Int32.ofInt (-8) = -(nI 8) by decide, ← Int32.sub_eq_add_neg, pk_sub h]
theorem q_dec4 (n : Nat) (h : 4 ≤ n) : nI n + Int32.ofInt (-4) = nI (n - 4) := by
  rw [show Int32.ofInt (-4) = -(nI 4) by decide, ← Int32.sub_eq_add_neg, pk_sub h]
theorem q_dec2 (n : Nat) (h : 2 ≤ n) : nI n + Int32.ofInt (-2) = nI (n - 2) := by
  rw [show Int32.ofInt (-2) = -(nI 2) by decide, ← Int32.sub_eq_add_neg, pk_sub h]
theorem m_bitCount (d : Nat) (h : zH) (I : zI) (J : zJ) (m : Nat) (hm : m < 1024) : z_C yJ6_bitCount_0f7a4 cJ6_bitCount_0f7a4 1 (some .int) d [.int (nI m)] h I J 0 0 (z_q (some (.int (nI (q_pop m)))) h I J) := by
  refine z_C.of (by decide) (Nat.le_of_ble_eq_true rfl) fun K E X => ?_
  refine v_iload_n E dJ6_bitCount_0f7a4_0 rfl ?_
  refine v_iload_n E dJ6_bitCount_0f7a4_1 rfl ?_
  refine v_iconst (v := nI 1) E dJ6_bitCount_0f7a4_2 (by decide) ?_
  refine v_iushr E dJ6_bitCount_0f7a4_3 ?_
  refine v_ldc_w E dJ6_bitCount_0f7a4_4 n_J6_265 ?_
  refine v_iand E dJ6_bitCount_0f7a4_7 ?_
  refine v_isub E dJ6_bitCount_0f7a4_8 ?_
  refine v_istore_n E dJ6_bitCount_0f7a4_9 (by decide) ?_
  refine v_iload_n E dJ6_bitCount_0f7a4_10 rfl ?_
  refine v_ldc_w E dJ6_bitCount_0f7a4_11 n_J6_266 ?_
  refine v_iand E dJ6_bitCount_0f7a4_14 ?_
  refine v_iload_n E dJ6_bitCount_0f7a4_15 rfl ?_
  refine v_iconst (v := nI 2) E dJ6_bitCount_0f7a4_16 (by decide) ?_
  refine v_iushr E dJ6_bitCount_0f7a4_17 ?_
  refine v_ldc_w E dJ6_bitCount_0f7a4_18 n_J6_266 ?_
  refine v_iand E dJ6_bitCount_0f7a4_21 ?_
  refine v_iadd E dJ6_bitCount_0f7a4_22 ?_
  refine v_istore_n E dJ6_bitCount_0f7a4_23 (by decide) ?_
  refine v_iload_n E dJ6_bitCount_0f7a4_24 rfl ?_
  refine v_iload_n E dJ6_bitCount_0f7a4_25 rfl ?_
  refine v_iconst (v := nI 4) E dJ6_bitCount_0f7a4_26 (by decide) ?_
  refine v_iushr E dJ6_bitCount_0f7a4_27 ?_
  refine v_iadd E dJ6_bitCount_0f7a4_28 ?_
  refine v_ldc_w E dJ6_bitCount_0f7a4_29 n_J6_267 ?_
  refine v_iand E dJ6_bitCount_0f7a4_32 ?_
  refine v_istore_n E dJ6_bitCount_0f7a4_33 (by decide) ?_
  refine v_iload_n E dJ6_bitCount_0f7a4_34 rfl ?_
  refine v_iload_n E dJ6_bitCount_0f7a4_35 rfl ?_
  refine v_bipush (v := nI 8) E dJ6_bitCount_0f7a4_36 (by decide) ?_
  refine v_iushr E dJ6_bitCount_0f7a4_38 ?_
  refine v_iadd E dJ6_bitCount_0f7a4_39 ?_
  refine v_istore_n E dJ6_bitCount_0f7a4_40 (by decide) ?_
  refine v_iload_n E dJ6_bitCount_0f7a4_41 rfl ?_
  refine v_iload_n E dJ6_bitCount_0f7a4_42 rfl ?_
  refine v_bipush (v := nI 16) E dJ6_bitCount_0f7a4_43 (by decide) ?_
  refine v_iushr E dJ6_bitCount_0f7a4_45 ?_
  refine v_iadd E dJ6_bitCount_0f7a4_46 ?_
  refine v_istore_n E dJ6_bitCount_0f7a4_47 (by decide) ?_
  refine v_iload_n E dJ6_bitCount_0f7a4_48 rfl ?_
  refine v_bipush (v := nI 63) E dJ6_bitCount_0f7a4_49 (by decide) ?_
  refine v_iand E dJ6_bitCount_0f7a4_51 ?_
  exact v_iret E X dJ6_bitCount_0f7a4_52 (z_qi (q_bc_ok m hm))
theorem m_lowestOneBit (d : Nat) (h : zH) (I : zI) (J : zJ) (m : Nat) (hm : m < 1024) : z_C yJ6_lowestOneBit_0f7a4 cJ6_lowestOneBit_0f7a4 1 (some .int) d [.int (nI m)] h I J 0 0 (z_q (some (.int (nI (q_low m)))) h I J) := by
  refine z_C.of (by decide) (Nat.le_of_ble_eq_true rfl) fun K E X => ?_
  refine v_iload_n E dJ6_lowestOneBit_0f7a4_0 rfl ?_
  refine v_iload_n E dJ6_lowestOneBit_0f7a4_1 rfl ?_
  refine v_ineg E dJ6_lowestOneBit_0f7a4_2 ?_
  refine v_iand E dJ6_lowestOneBit_0f7a4_3 ?_
  exact v_iret E X dJ6_lowestOneBit_0f7a4_4 (z_qi (q_low_ok m hm))
theorem m_nlz (d : Nat) (h : zH) (I : zI) (J : zJ) (m : Nat) (hm : m < 1024) (h0 : 0 < m) : z_C yJ6_numberOfLeadingZeros_0f7a4 cJ6_numberOfLeadingZeros_0f7a4 2 (some .int) d [.int (nI m)] h I J 0 0 (z_q (some (.int (nI (31 - Nat.log2 m)))) h I J) := by
  rw [← q_nlz_ok m hm h0]
  refine z_C.of (by decide) (Nat.le_of_ble_eq_true rfl) fun K E X => ?_
  have t3 : ∀ n i, i / 2 ≤ n → i < 65536 → q_l3 n i = q_l0 31 m → z_V K 73 [(0, .int (nI i)), (1, .int (nI n))] [] h I J 0 0 := by
    intro n i h1 h2 h3
    refine v_iload_n E dJ6_numberOfLeadingZeros_0f7a4_73 rfl ?_
    refine v_iload_n E dJ6_numberOfLeadingZeros_0f7a4_74 rfl ?_
    refine v_iconst (v := nI 1) E dJ6_numberOfLeadingZeros_0f7a4_75 (by decide) ?_
    refine v_iushrN E dJ6_numberOfLeadingZeros_0f7a4_76 (by omega) (by omega) ?_
    refine v_isubN E dJ6_numberOfLeadingZeros_0f7a4_77 (by omega) ?_
    exact v_iret E X dJ6_numberOfLeadingZeros_0f7a4_78 (z_qi (by rw [← h3]; rfl))
  have t2 : ∀ n i, 10 ≤ n → i < 16 → q_l2 n i = q_l0 31 m → z_V K 61 [(0, .int (nI i)), (1, .int (nI n))] [] h I J 0 0 := by
    intro n i h1 h2 h3
    refine v_iload_n E dJ6_numberOfLeadingZeros_0f7a4_61 rfl ?_
    refine v_iconst (v := nI 4) E dJ6_numberOfLeadingZeros_0f7a4_62 (by decide) ?_
    refine v_icmp_ltN (tgt := 73) E dJ6_numberOfLeadingZeros_0f7a4_63 (by decide) (by omega) (by omega) (fun c => ?_) (fun c => ?_)
    · exact t3 n i (by omega) (by omega) (by rw [← h3]; unfold q_l2; rw [if_pos c])
    · refine v_iinc (v := nI (n - 2)) E dJ6_numberOfLeadingZeros_0f7a4_66 rfl (q_dec2 n (by omega)) (by decide) ?_
      refine v_iload_n E dJ6_numberOfLeadingZeros_0f7a4_69 rfl ?_
      refine v_iconst (v := nI 2) E dJ6_numberOfLeadingZeros_0f7a4_70 (by decide) ?_
      refine v_iushrN E dJ6_numberOfLeadingZeros_0f7a4_71 (by omega) (by omega) ?_
      refine v_istore_n E dJ6_numberOfLeadingZeros_0f7a4_72 (by decide) ?_
      exact t3 (n - 2) (i / 4) (by omega) (by omega) (by rw [← h3]; unfold q_l2; rw [if_neg (by omega)])
  have t1 : ∀ n i, 20 ≤ n → i < 256 → q_l1 n i = q_l0 31 m → z_V K 48 [(0, .int (nI i)), (1, .int (nI n))] [] h I J 0 0 := by
    intro n i h1 h2 h3
    refine v_iload_n E dJ6_numberOfLeadingZeros_0f7a4_48 rfl ?_
    refine v_bipush (v := nI 16) E dJ6_numberOfLeadingZeros_0f7a4_49 (by decide) ?_
    refine v_icmp_ltN (tgt := 61) E dJ6_numberOfLeadingZeros_0f7a4_51 (by decide) (by omega) (by omega) (fun c => ?_) (fun c => ?_)
    · exact t2 n i (by omega) (by omega) (by rw [← h3]; unfold q_l1; rw [if_pos c])
    · refine v_iinc (v := nI (n - 4)) E dJ6_numberOfLeadingZeros_0f7a4_54 rfl (q_dec4 n (by omega)) (by decide) ?_
      refine v_iload_n E dJ6_numberOfLeadingZeros_0f7a4_57 rfl ?_
      refine v_iconst (v := nI 4) E dJ6_numberOfLeadingZeros_0f7a4_58 (by decide) ?_
      refine v_iushrN E dJ6_numberOfLeadingZeros_0f7a4_59 (by omega) (by omega) ?_
      refine v_istore_n E dJ6_numberOfLeadingZeros_0f7a4_60 (by decide) ?_
      exact t2 (n - 4) (i / 16) (by omega) (by omega) (by rw [← h3]; unfold q_l1; rw [if_neg (by omega)])
  refine v_iload_n E dJ6_numberOfLeadingZeros_0f7a4_0 rfl ?_
  refine v_if_gtN (tgt := 15) E dJ6_numberOfLeadingZeros_0f7a4_1 (by decide) (by omega) (fun c => ?_) (fun c => ?_)
  · refine v_bipush (v := nI 31) E dJ6_numberOfLeadingZeros_0f7a4_15 (by decide) ?_
    refine v_istore_n E dJ6_numberOfLeadingZeros_0f7a4_17 (by decide) ?_
    refine v_iload_n E dJ6_numberOfLeadingZeros_0f7a4_18 rfl ?_
    refine v_ldc_w E dJ6_numberOfLeadingZeros_0f7a4_19 n_J6_264 ?_
    refine v_top (show (65536 : Int32) = nI 65536 by decide) ?_
    refine v_icmp_ltN (tgt := 33) E dJ6_numberOfLeadingZeros_0f7a4_22 (by decide) (by omega) (by omega) (fun c2 => ?_) (fun c2 => ?_)
    · refine v_iload_n E dJ6_numberOfLeadingZeros_0f7a4_33 rfl ?_
      refine v_sipush (v := nI 256) E dJ6_numberOfLeadingZeros_0f7a4_34 (by decide) ?_
      refine v_icmp_ltN (tgt := 48) E dJ6_numberOfLeadingZeros_0f7a4_37 (by decide) (by omega) (by omega) (fun c3 => ?_) (fun c3 => ?_)
      · exact t1 31 m (by omega) c3 (by unfold q_l0; rw [if_pos c3])
      · refine v_iinc (v := nI (31 - 8)) E dJ6_numberOfLeadingZeros_0f7a4_40 rfl (q_dec8 31 (by omega)) (by decide) ?_
        refine v_iload_n E dJ6_numberOfLeadingZeros_0f7a4_43 rfl ?_
        refine v_bipush (v := nI 8) E dJ6_numberOfLeadingZeros_0f7a4_44 (by decide) ?_
        refine v_iushrN E dJ6_numberOfLeadingZeros_0f7a4_46 (by omega) (by omega) ?_
        refine v_istore_n E dJ6_numberOfLeadingZeros_0f7a4_47 (by decide) ?_
        exact t1 (31 - 8) (m / 256) (by omega) (by omega) (by unfold q_l0; rw [if_neg (by omega)])
    · exact absurd c2 (by omega)
  · exact absurd c (by omega)
theorem m_highestOneBit (d : Nat) (h : zH) (I : zI) (J : zJ) (m : Nat) (hm : m < 1024) (h0 : 0 < m) : z_C yJ6_highestOneBit_0f7a4 cJ6_highestOneBit_0f7a4 1 (some .int) (d + 1) [.int (nI m)] h I J 0 0 (z_q (some (.int (nI (q_top m)))) h I J) := by
  refine z_C.of (by decide) (Nat.le_of_ble_eq_true rfl) fun K E X => ?_
  refine v_iload_n E dJ6_highestOneBit_0f7a4_0 rfl ?_
  refine v_ldc E dJ6_highestOneBit_0f7a4_1 n_J6_127 ?_
  refine v_iload_n E dJ6_highestOneBit_0f7a4_3 rfl ?_
  refine v_callS1 E dJ6_highestOneBit_0f7a4_4 k_J6_51 Y_J6_numberOfLeadingZeros_0f7a4 (m_nlz d h I J m hm h0) rfl rfl (Nat.le_of_ble_eq_true rfl) ?_
  refine v_iushr E dJ6_highestOneBit_0f7a4_7 ?_
  refine v_iand E dJ6_highestOneBit_0f7a4_8 ?_
  exact v_iret E X dJ6_highestOneBit_0f7a4_9 (z_qi (q_top_ok m hm h0))
theorem m_ctz (d : Nat) (h : zH) (I : zI) (J : zJ) (m : Nat) (hm : m < 1024) (h0 : 0 < m) : z_C yJ6_numberOfTrailingZeros_0f7a4 cJ6_numberOfTrailingZeros_0f7a4 2 (some .int) d [.int (nI m)] h I J 0 0 (z_q (some (.int (nI (q_ctz m)))) h I J) := by
  rw [← q_ctz_ok m hm h0]
  obtain ⟨e1, e2, e3⟩ := q_ctz_in m hm h0
  generalize hr : (if m &&& 1 = 1 then 0 else q_t0 1 (q_low m - 1)) = r
  refine z_C.of (by decide) (Nat.le_of_ble_eq_true rfl) fun K E X => ?_
  have t3 : ∀ n i, n < 1000 → i < 65536 → q_t3 n i = r → z_V K 74 [(0, .int (nI i)), (1, .int (nI n))] [] h I J 0 0 := by
    intro n i h1 h2 h3
    refine v_iload_n E dJ6_numberOfTrailingZeros_0f7a4_74 rfl ?_
    refine v_iload_n E dJ6_numberOfTrailingZeros_0f7a4_75 rfl ?_
    refine v_iconst (v := nI 1) E dJ6_numberOfTrailingZeros_0f7a4_76 (by decide) ?_
    refine v_iushrN E dJ6_numberOfTrailingZeros_0f7a4_77 (by omega) (by omega) ?_
    refine v_iaddN E dJ6_numberOfTrailingZeros_0f7a4_78 ?_
    exact v_iret E X dJ6_numberOfTrailingZeros_0f7a4_79 (z_qi (by rw [← h3]; rfl))
  have t2 : ∀ n i, n < 900 → i < 65536 → q_t2 n i = r → z_V K 62 [(0, .int (nI i)), (1, .int (nI n))] [] h I J 0 0 := by
    intro n i h1 h2 h3
    refine v_iload_n E dJ6_numberOfTrailingZeros_0f7a4_62 rfl ?_
    refine v_iconst (v := nI 4) E dJ6_numberOfTrailingZeros_0f7a4_63 (by decide) ?_
    refine v_icmp_leN (tgt := 74) E dJ6_numberOfTrailingZeros_0f7a4_64 (by decide) (by omega) (by omega) (fun c => ?_) (fun c => ?_)
    · exact t3 n i (by omega) (by omega) (by rw [← h3]; unfold q_t2; rw [if_pos c])
    · refine v_iinc (v := nI (n + 2)) E dJ6_numberOfTrailingZeros_0f7a4_67 rfl (nI_add n 2) (by decide) ?_
      refine v_iload_n E dJ6_numberOfTrailingZeros_0f7a4_70 rfl ?_
      refine v_iconst (v := nI 2) E dJ6_numberOfTrailingZeros_0f7a4_71 (by decide) ?_
      refine v_iushrN E dJ6_numberOfTrailingZeros_0f7a4_72 (by omega) (by omega) ?_
      refine v_istore_n E dJ6_numberOfTrailingZeros_0f7a4_73 (by decide) ?_
      exact t3 (n + 2) (i / 4) (by omega) (by omega) (by rw [← h3]; unfold q_t2; rw [if_neg (by omega)])
  have t1 : ∀ n i, n < 800 → i < 65536 → q_t1 n i = r → z_V K 49 [(0, .int (nI i)), (1, .int (nI n))] [] h I J 0 0 := by
    intro n i h1 h2 h3
    refine v_iload_n E dJ6_numberOfTrailingZeros_0f7a4_49 rfl ?_
    refine v_bipush (v := nI 16) E dJ6_numberOfTrailingZeros_0f7a4_50 (by decide) ?_
    refine v_icmp_leN (tgt := 62) E dJ6_numberOfTrailingZeros_0f7a4_52 (by decide) (by omega) (by omega) (fun c => ?_) (fun c => ?_)
    · exact t2 n i (by omega) (by omega) (by rw [← h3]; unfold q_t1; rw [if_pos c])
    · refine v_iinc (v := nI (n + 4)) E dJ6_numberOfTrailingZeros_0f7a4_55 rfl (nI_add n 4) (by decide) ?_
      refine v_iload_n E dJ6_numberOfTrailingZeros_0f7a4_58 rfl ?_
      refine v_iconst (v := nI 4) E dJ6_numberOfTrailingZeros_0f7a4_59 (by decide) ?_
      refine v_iushrN E dJ6_numberOfTrailingZeros_0f7a4_60 (by omega) (by omega) ?_
      refine v_istore_n E dJ6_numberOfTrailingZeros_0f7a4_61 (by decide) ?_
      exact t2 (n + 4) (i / 16) (by omega) (by omega) (by rw [← h3]; unfold q_t1; rw [if_neg (by omega)])
  refine v_iload_n E dJ6_numberOfTrailingZeros_0f7a4_0 rfl ?_
  refine v_iconst (v := -1) E dJ6_numberOfTrailingZeros_0f7a4_1 (by decide) ?_
  refine v_ixor E dJ6_numberOfTrailingZeros_0f7a4_2 ?_
  refine v_iload_n E dJ6_numberOfTrailingZeros_0f7a4_3 rfl ?_
  refine v_iconst (v := nI 1) E dJ6_numberOfTrailingZeros_0f7a4_4 (by decide) ?_
  refine v_isub E dJ6_numberOfTrailingZeros_0f7a4_5 ?_
  refine v_iand E dJ6_numberOfTrailingZeros_0f7a4_6 ?_
  refine v_top e1 ?_
  refine v_istore_n E dJ6_numberOfTrailingZeros_0f7a4_7 (by decide) ?_
  refine v_iload_n E dJ6_numberOfTrailingZeros_0f7a4_8 rfl ?_
  refine v_if_gtN (tgt := 17) E dJ6_numberOfTrailingZeros_0f7a4_9 (by decide) (by omega) (fun c => ?_) (fun c => ?_)
  · refine v_iconst (v := nI 1) E dJ6_numberOfTrailingZeros_0f7a4_17 (by decide) ?_
    refine v_istore_n E dJ6_numberOfTrailingZeros_0f7a4_18 (by decide) ?_
    refine v_iload_n E dJ6_numberOfTrailingZeros_0f7a4_19 rfl ?_
    refine v_ldc_w E dJ6_numberOfTrailingZeros_0f7a4_20 n_J6_264 ?_
    refine v_top (show (65536 : Int32) = nI 65536 by decide) ?_
    have hr2 : q_t0 1 (q_low m - 1) = r := by rw [← hr, if_neg (fun z => by have := e3.mp z; omega)]
    refine v_icmp_leN (tgt := 34) E dJ6_numberOfTrailingZeros_0f7a4_23 (by decide) (by omega) (by omega) (fun c2 => ?_) (fun c2 => ?_)
    · refine v_iload_n E dJ6_numberOfTrailingZeros_0f7a4_34 rfl ?_
      refine v_sipush (v := nI 256) E dJ6_numberOfTrailingZeros_0f7a4_35 (by decide) ?_
      refine v_icmp_leN (tgt := 49) E dJ6_numberOfTrailingZeros_0f7a4_38 (by decide) (by omega) (by omega) (fun c3 => ?_) (fun c3 => ?_)
      · exact t1 1 (q_low m - 1) (by omega) (by omega) (by rw [← hr2]; unfold q_t0; rw [if_pos c3])
      · refine v_iinc (v := nI (1 + 8)) E dJ6_numberOfTrailingZeros_0f7a4_41 rfl (nI_add 1 8) (by decide) ?_
        refine v_iload_n E dJ6_numberOfTrailingZeros_0f7a4_44 rfl ?_
        refine v_bipush (v := nI 8) E dJ6_numberOfTrailingZeros_0f7a4_45 (by decide) ?_
        refine v_iushrN E dJ6_numberOfTrailingZeros_0f7a4_47 (by omega) (by omega) ?_
        refine v_istore_n E dJ6_numberOfTrailingZeros_0f7a4_48 (by decide) ?_
        exact t1 (1 + 8) ((q_low m - 1) / 256) (by omega) (by omega) (by rw [← hr2]; unfold q_t0; rw [if_neg (by omega)])
    · exact absurd c2 (by omega)
  · refine v_iload_n E dJ6_numberOfTrailingZeros_0f7a4_12 rfl ?_
    refine v_bipush (v := nI 32) E dJ6_numberOfTrailingZeros_0f7a4_13 (by decide) ?_
    refine v_iandN E dJ6_numberOfTrailingZeros_0f7a4_15 ?_
    exact v_iret E X dJ6_numberOfTrailingZeros_0f7a4_16 (z_qi (by rw [← hr, if_pos (e3.mpr c), c]; rfl))
section ZMM
variable {y : MethodName} {cc : ByteArray} {nL d : Nat} {ret : Option FieldType} {K : zK} {pc : Nat} {ls : zL} {st : List Value} {h : zH} {I : zI} {J : zJ} {kc ks : Nat}
theorem v_maxN (E : z_E y cc nL ret (d + 1) K) {idx a b : Nat} (hd : decode cc pc = .ok (.invokestatic idx, 3)) (hlk : Cond.methodLink y.cls idx yJ9_max_7cf53 ∈ z_tbl) (ha : a < 2 ^ 31) (hb9 : b < 2 ^ 31) (hw : (st.map fun v => v.category).sum ≤ 8) (k : z_V K (pc + 3) ls (.int (nI (max a b)) :: st) h I J kc ks) : z_V K pc ls (.int (nI b) :: .int (nI a) :: st) h I J kc ks := by
  obtain ⟨⟨p, l, e, R, s, m, args, below, meth, c⟩, Qf, G, mc, ms⟩ := K
  obtain ⟨hx, hb, hml, hr, hlocks, hin, hown, hts, hK, hSt, hbase, ht0, hRc, hRs, hfr, hlo⟩ := E
  intro H locs la hP hS hl hkc hks
  have e9 : (if nI a < nI b then nI b else nI a) = nI (max a b) := by
    by_cases hab : a < b
    · rw [if_pos ((nI_ltI ha hb9).mpr hab), Nat.max_eq_right (by omega)]
    · rw [if_neg (fun z => hab ((nI_ltI ha hb9).mp z)), Nat.max_eq_left (by omega)]
  refine va_mmax hx hb hl.1.symm hown (hts _ hlk) (hts _ (z_mem (by decide +kernel) rfl)) (hts _ (z_mem (by decide +kernel) rfl)) (hts _ (z_mem (by decide +kernel) rfl)) (by omega) (by rw [z_catsum]; omega) (by rw [hRc]; omega) (by rw [hRs]; omega) hd ?_
  rw [e9]
  exact k H locs la hP hS hl hkc hks
theorem v_minN (E : z_E y cc nL ret (d + 1) K) {idx a b : Nat} (hd : decode cc pc = .ok (.invokestatic idx, 3)) (hlk : Cond.methodLink y.cls idx yJ9_min_7cf53 ∈ z_tbl) (ha : a < 2 ^ 31) (hb9 : b < 2 ^ 31) (hw : (st.map fun v => v.category).sum ≤ 8) (k : z_V K (pc + 3) ls (.int (nI (min a b)) :: st) h I J kc ks) : z_V K pc ls (.int (nI b) :: .int (nI a) :: st) h I J kc ks := by
  obtain ⟨⟨p, l, e, R, s, m, args, below, meth, c⟩, Qf, G, mc, ms⟩ := K
  obtain ⟨hx, hb, hml, hr, hlocks, hin, hown, hts, hK, hSt, hbase, ht0, hRc, hRs, hfr, hlo⟩ := E
  intro H locs la hP hS hl hkc hks
  have e9 : (if nI b < nI a then nI b else nI a) = nI (min a b) := by
    by_cases hab : b < a
    · rw [if_pos ((nI_ltI hb9 ha).mpr hab), Nat.min_eq_right (by omega)]
    · rw [if_neg (fun z => hab ((nI_ltI hb9 ha).mp z)), Nat.min_eq_left (by omega)]
  refine va_mmin hx hb hl.1.symm hown (hts _ hlk) (hts _ (z_mem (by decide +kernel) rfl)) (hts _ (z_mem (by decide +kernel) rfl)) (hts _ (z_mem (by decide +kernel) rfl)) (by omega) (by rw [z_catsum]; omega) (by rw [hRc]; omega) (by rw [hRs]; omega) hd ?_
  rw [e9]
  exact k H locs la hP hS hl hkc hks
end ZMM
theorem m_isIn (d : Nat) (h : zH) (I : zI) (J : zJ) (p m : Nat) (hp : p < 32) (hm : m < 2 ^ 31) : z_C yX3_isIn cX3_isIn 2 (some .boolean) d [.int (nI p), .int (nI m)] h I J 0 0 (z_q (some (.int (nI (m.testBit p).toNat))) h I J) := by
  refine z_C.of (by decide) (Nat.le_of_ble_eq_true rfl) fun K E X => ?_
  refine v_iload_n E dX3_isIn_0 rfl ?_
  refine v_iload_n E dX3_isIn_1 rfl ?_
  refine v_ishrN E dX3_isIn_2 (by omega) (by omega) ?_
  refine v_iconst (v := nI 1) E dX3_isIn_3 (by decide) ?_
  refine v_iandN E dX3_isIn_4 ?_
  refine v_top (show nI (m / 2 ^ p &&& 1) = nI (m.testBit p).toNat by rw [q_a1, q_tbn]) ?_
  refine v_if_eqB (tgt := 12) E dX3_isIn_5 (by decide)  (fun c => ?_) (fun c => ?_)
  · refine v_iconst (v := nI 0) E dX3_isIn_12 (by decide) ?_
    exact v_zret E X dX3_isIn_13 (by first | exact Or.inl rfl | exact Or.inr rfl) (z_qi (by rw [c]; rfl))
  · refine v_iconst (v := nI 1) E dX3_isIn_8 (by decide) ?_
    refine v_goto (tgt := 13) E dX3_isIn_9 (by decide) ?_
    exact v_zret E X dX3_isIn_13 (by first | exact Or.inl rfl | exact Or.inr rfl) (z_qi (by rw [c]; rfl))
theorem m_oneIf (d : Nat) (h : zH) (I : zI) (J : zJ) (b : Bool) : z_C yX3_oneIf cX3_oneIf 1 (some .int) d [.int (nI b.toNat)] h I J 0 0 (z_q (some (.int (nI b.toNat))) h I J) := by
  refine z_C.of (by decide) (Nat.le_of_ble_eq_true rfl) fun K E X => ?_
  refine v_iload_n E dX3_oneIf_0 rfl ?_
  refine v_if_eqB (tgt := 8) E dX3_oneIf_1 (by decide)  (fun c => ?_) (fun c => ?_)
  · refine v_iconst (v := nI 0) E dX3_oneIf_8 (by decide) ?_
    exact v_iret E X dX3_oneIf_9 (z_qi (by rw [c]; rfl))
  · refine v_iconst (v := nI 1) E dX3_oneIf_4 (by decide) ?_
    refine v_goto (tgt := 9) E dX3_oneIf_5 (by decide) ?_
    exact v_iret E X dX3_oneIf_9 (z_qi (by rw [c]; rfl))
end
section
/-! SUMS OF ROWS: exclusive ors of masks below 1024 -/
/-- the exclusive or of f over the bits of m below k -/
def l_to (f : Nat → Nat) (m : Nat) : Nat → Nat
  | 0 => 0
  | k + 1 => if m.testBit k then l_to f m k ^^^ f k else l_to f m k
def l_in (f : Nat → Nat) (m : Nat) : Nat := l_to f m 10
theorem l_x4 (a b c e : Nat) : (a ^^^ b) ^^^ (c ^^^ e) = (a ^^^ c) ^^^ (b ^^^ e) := by
  rw [Nat.xor_assoc, Nat.xor_assoc, ← Nat.xor_assoc b c e, Nat.xor_comm b c, Nat.xor_assoc c b e]
theorem l_xx (a b : Nat) : (a ^^^ b) ^^^ b = a := by rw [Nat.xor_assoc, Nat.xor_self, Nat.xor_zero]
theorem l_xl (a b : Nat) : a ^^^ (a ^^^ b) = b := by rw [← Nat.xor_assoc, Nat.xor_self, Nat.zero_xor]
theorem l_x0 {a b : Nat} (h : a ^^^ b = 0) : a = b := by
  have := congrArg (fun z => z ^^^ b) h
  simp only [Nat.zero_xor] at this
  rwa [l_xx] at this
theorem l_to_xor (f : Nat → Nat) (m m' : Nat) : ∀ k, l_to f (m ^^^ m') k = l_to f m k ^^^ l_to f m' k
  | 0 => by simp [l_to]
  | k + 1 => by
    simp only [l_to, l_to_xor f m m' k, Nat.testBit_xor]
    cases m.testBit k <;> cases m'.testBit k
    · rfl
    · simp [Nat.xor_assoc]
    · simp
      rw [Nat.xor_assoc, Nat.xor_comm (l_to f m' k) (f k), ← Nat.xor_assoc]
    · simp
      rw [l_x4, Nat.xor_self, Nat.xor_zero]
theorem l_in_xor (f : Nat → Nat) (m m' : Nat) : l_in f (m ^^^ m') = l_in f m ^^^ l_in f m' := l_to_xor f m m' 10
theorem l_to_zero (f : Nat → Nat) : ∀ k, l_to f 0 k = 0
  | 0 => rfl
  | k + 1 => by simp [l_to, l_to_zero f k]
theorem l_in_zero (f : Nat → Nat) : l_in f 0 = 0 := l_to_zero f 10
theorem l_to_lt {f : Nat → Nat} {m n : Nat} : ∀ k, (∀ p, p < k → f p < 2 ^ n) → l_to f m k < 2 ^ n
  | 0, _ => Nat.two_pow_pos n
  | k + 1, h => by
    have ih := l_to_lt (m := m) k (fun p hp => h p (by omega))
    simp only [l_to]
    split
    · exact q_xor_lt ih (h k (by omega))
    · exact ih
theorem l_in_lt {f : Nat → Nat} {m : Nat} (h : ∀ p, p < 10 → f p < 1024) : l_in f m < 1024 := l_to_lt (n := 10) 10 h
theorem l_to_congr {f g : Nat → Nat} {m : Nat} : ∀ k, (∀ p, p < k → f p = g p) → l_to f m k = l_to g m k
  | 0, _ => rfl
  | k + 1, h => by
    simp only [l_to, l_to_congr k (fun p hp => h p (by omega)), h k (by omega)]
theorem l_in_congr {f g : Nat → Nat} {m : Nat} (h : ∀ p, p < 10 → f p = g p) : l_in f m = l_in g m := l_to_congr 10 h
theorem l_to_add {f g : Nat → Nat} {m : Nat} : ∀ k, l_to (fun p => f p ^^^ g p) m k = l_to f m k ^^^ l_to g m k
  | 0 => by simp [l_to]
  | k + 1 => by
    simp only [l_to, l_to_add k]
    split
    · rw [l_x4]
    · rfl
theorem l_in_add {f g : Nat → Nat} {m : Nat} : l_in (fun p => f p ^^^ g p) m = l_in f m ^^^ l_in g m := l_to_add 10
theorem l_to_pow {m : Nat} : ∀ k, l_to (fun p => 2 ^ p) m k = m % 2 ^ k
  | 0 => by rw [Nat.pow_zero, Nat.mod_one]; rfl
  | k + 1 => by
    simp only [l_to, l_to_pow k]
    apply Nat.eq_of_testBit_eq
    intro i
    cases hm : m.testBit k
    · simp only [Bool.false_eq_true, if_false, Nat.testBit_mod_two_pow]
      by_cases h : i = k
      · subst h
        simp [hm]
      · by_cases h2 : i < k
        · simp [h2, Nat.lt_succ_of_lt h2]
        · simp [h2, show ¬ i < k + 1 by omega]
    · simp only [if_true, Nat.testBit_xor, Nat.testBit_mod_two_pow, Nat.testBit_two_pow]
      by_cases h : i = k
      · subst h
        simp [hm]
      · by_cases h2 : i < k
        · simp [h2, Nat.lt_succ_of_lt h2, Ne.symm h]
        · simp [h2, show ¬ i < k + 1 by omega, Ne.symm h]
theorem l_in_pow {m : Nat} (h : m < 1024) : l_in (fun p => 2 ^ p) m = m := by
  unfold l_in
  rw [l_to_pow]
  exact Nat.mod_eq_of_lt h
theorem l_to_bit {f : Nat → Nat} {k : Nat} : ∀ n, k < n → l_to f (2 ^ k) n = f k
  | n + 1, h => by
    simp only [l_to, Nat.testBit_two_pow]
    by_cases e : k = n
    · subst e
      have : ∀ j, j ≤ k → l_to f (2 ^ k) j = 0 := by
        intro j
        induction j with
        | zero => intro _; rfl
        | succ j ih =>
          intro hj
          simp only [l_to, Nat.testBit_two_pow, ih (by omega)]
          rw [if_neg (by simp; omega)]
      simp [this k (Nat.le_refl _)]
    · rw [if_neg (by simp [e])]
      exact l_to_bit n (by omega)
theorem l_in_bit {f : Nat → Nat} {k : Nat} (h : k < 10) : l_in f (2 ^ k) = f k := l_to_bit 10 h
/-- what rows make: the newest row first -/
def l_sp : List Nat → Nat → Bool
  | [], m => m == 0
  | r :: rs, m => l_sp rs m || l_sp rs (m ^^^ r)
theorem l_sp_0 : ∀ rs, l_sp rs 0 = true
  | [] => rfl
  | r :: rs => by simp [l_sp, l_sp_0 rs]
theorem l_sp_xor : ∀ {rs : List Nat} {a b : Nat}, l_sp rs a = true → l_sp rs b = true → l_sp rs (a ^^^ b) = true
  | [], a, b, ha, hb => by
    simp only [l_sp, beq_iff_eq] at *
    subst ha hb
    rfl
  | r :: rs, a, b, ha, hb => by
    simp only [l_sp, Bool.or_eq_true] at *
    rcases ha with ha | ha <;> rcases hb with hb | hb
    · exact Or.inl (l_sp_xor ha hb)
    · exact Or.inr (by rw [Nat.xor_assoc]; exact l_sp_xor ha hb)
    · exact Or.inr (by rw [Nat.xor_assoc, Nat.xor_comm b r, ← Nat.xor_assoc]; exact l_sp_xor ha hb)
    · have h := l_sp_xor ha hb
      rw [l_x4, Nat.xor_self, Nat.xor_zero] at h
      exact Or.inl h
theorem l_sp_x {rs : List Nat} {a b : Nat} (ha : l_sp rs a = true) : l_sp rs (a ^^^ b) = l_sp rs b := by
  cases hb : l_sp rs b with
  | true => exact l_sp_xor ha hb
  | false =>
    cases h : l_sp rs (a ^^^ b) with
    | false => rfl
    | true =>
      have := l_sp_xor ha h
      rw [l_xl] at this
      rw [this] at hb
      cases hb
theorem l_sp_cons {r : Nat} {rs : List Nat} {m : Nat} (h : l_sp rs m = true) : l_sp (r :: rs) m = true := by simp [l_sp, h]
theorem l_sp_head {r : Nat} {rs : List Nat} : l_sp (r :: rs) r = true := by simp [l_sp, l_sp_0]
theorem l_sp_old {r : Nat} {rs : List Nat} (h : l_sp rs r = true) (m : Nat) : l_sp (r :: rs) m = l_sp rs m := by
  simp only [l_sp]
  rw [Nat.xor_comm, l_sp_x h, Bool.or_self]
theorem l_sp_lt : ∀ {rs : List Nat} {n m : Nat}, (∀ r ∈ rs, r < 2 ^ n) → l_sp rs m = true → m < 2 ^ n
  | [], n, m, _, h => by
    simp only [l_sp, beq_iff_eq] at h
    subst h
    exact Nat.two_pow_pos n
  | r :: rs, n, m, hr, h => by
    simp only [l_sp, Bool.or_eq_true] at h
    rcases h with h | h
    · exact l_sp_lt (fun x hx => hr x (List.mem_cons_of_mem _ hx)) h
    · have h1 := l_sp_lt (fun x hx => hr x (List.mem_cons_of_mem _ hx)) h
      have h2 := q_xor_lt h1 (hr r List.mem_cons_self)
      rwa [l_xx] at h2
/-- what a listener keeps: the rests, the rows by which, the rank; after a row more -/
def l_kf (f : Nat → Nat) (m : Nat) : Nat → Nat := fun p => if f p &&& q_top (l_in f m) = 0 then f p else f p ^^^ l_in f m
def l_kb (f b : Nat → Nat) (m row : Nat) : Nat → Nat := fun p => if f p &&& q_top (l_in f m) = 0 then b p else b p ^^^ (l_in b m ^^^ row)
def l_nf (f : Nat → Nat) (m : Nat) : Nat → Nat := if l_in f m = 0 then f else l_kf f m
def l_nb (f b : Nat → Nat) (m row : Nat) : Nat → Nat := if l_in f m = 0 then b else l_kb f b m row
def l_f : List Nat → Nat → Nat
  | [] => fun p => 2 ^ p
  | r :: rs => l_nf (l_f rs) r
def l_b : List Nat → Nat → Nat
  | [] => fun _ => 0
  | r :: rs => l_nb (l_f rs) (l_b rs) r (2 ^ rs.length)
/-- the set of the new rows, how many there are -/
def l_nw : List Nat → Nat
  | [] => 0
  | r :: rs => if l_sp rs r then l_nw rs else l_nw rs ||| 2 ^ rs.length
def l_rk : List Nat → Nat
  | [] => 0
  | r :: rs => if l_sp rs r then l_rk rs else l_rk rs + 1
theorem q_top_bit {g : Nat} (h : g ≠ 0) : g.testBit (Nat.log2 g) = true := by
  rw [Nat.testBit_log2 h]
theorem q_top_and (a g : Nat) : (a &&& q_top g = 0) ↔ a.testBit (Nat.log2 g) = false := by
  unfold q_top
  constructor
  · intro h
    have : (a &&& 2 ^ Nat.log2 g).testBit (Nat.log2 g) = false := by rw [h]; simp
    simpa [Nat.testBit_and, Nat.testBit_two_pow] using this
  · intro h
    apply Nat.eq_of_testBit_eq
    intro i
    rw [Nat.testBit_and, Nat.testBit_two_pow]
    by_cases e : Nat.log2 g = i
    · subst e
      simp [h]
    · simp [e]
theorem l_kg_to (f f' : Nat → Nat) (g t m : Nat) (hf : ∀ p, f' p = if (f p).testBit t then f p ^^^ g else f p) : ∀ k, l_to f' m k = if (l_to f m k).testBit t then l_to f m k ^^^ g else l_to f m k
  | 0 => by simp [l_to]
  | k + 1 => by
    have ih := l_kg_to f f' g t m hf k
    have hk := hf k
    have e1 : l_to f' m (k + 1) = if m.testBit k then l_to f' m k ^^^ f' k else l_to f' m k := rfl
    have e2 : l_to f m (k + 1) = if m.testBit k then l_to f m k ^^^ f k else l_to f m k := rfl
    rw [e1, e2, ih, hk]
    generalize l_to f m k = A
    generalize f k = B
    generalize m.testBit k = c
    cases c
    · rfl
    · simp only [if_true, Nat.testBit_xor]
      cases A.testBit t <;> cases B.testBit t
      · rfl
      · simp only [Bool.false_eq_true, if_false, if_true, Bool.false_xor, Nat.xor_assoc]
      · simp only [Bool.false_eq_true, if_false, if_true, Bool.xor_false]
        rw [Nat.xor_assoc, Nat.xor_comm g, ← Nat.xor_assoc]
      · simp only [if_true, Bool.xor_self, Bool.false_eq_true, if_false]
        rw [l_x4, Nat.xor_self, Nat.xor_zero]
theorem l_kf_eq (f : Nat → Nat) (r p : Nat) : l_kf f r p = if (f p).testBit (Nat.log2 (l_in f r)) then f p ^^^ l_in f r else f p := by
  unfold l_kf
  by_cases h : f p &&& q_top (l_in f r) = 0
  · rw [if_pos h, if_neg (by rw [(q_top_and _ _).mp h]; decide)]
  · rw [if_neg h, if_pos]
    cases hb : (f p).testBit (Nat.log2 (l_in f r)) with
    | true => rfl
    | false => exact absurd ((q_top_and _ _).mpr hb) h
theorem l_kf_in (f : Nat → Nat) (r m : Nat) : l_in (l_kf f r) m = if (l_in f m).testBit (Nat.log2 (l_in f r)) then l_in f m ^^^ l_in f r else l_in f m := l_kg_to f (l_kf f r) (l_in f r) (Nat.log2 (l_in f r)) m (l_kf_eq f r) 10
theorem l_kf_lt {f : Nat → Nat} {r : Nat} (h : ∀ p, p < 10 → f p < 1024) : ∀ p, p < 10 → l_kf f r p < 1024 := by
  intro p hp
  unfold l_kf
  split
  · exact h p hp
  · exact q_xor_lt (k := 10) (h p hp) (l_in_lt h)
/-- what holds of the rests: a mask and its rest differ by a sum of rows; sums of rows have no rest -/
theorem l_inv : ∀ (rs : List Nat), (∀ r ∈ rs, r < 1024) → (∀ p, p < 10 → l_f rs p < 1024) ∧ (∀ m, m < 1024 → l_sp rs (m ^^^ l_in (l_f rs) m) = true) ∧ ∀ m, l_sp rs m = true → l_in (l_f rs) m = 0
  | [], _ => by
    refine ⟨fun p hp => ?_, fun m hm => ?_, fun m hm => ?_⟩
    · exact Nat.pow_lt_pow_right (by decide) hp
    · show ((m ^^^ l_in (fun p => 2 ^ p) m) == 0) = true
      rw [l_in_pow hm, Nat.xor_self]
      rfl
    · simp only [l_sp, beq_iff_eq] at hm
      subst hm
      exact l_in_zero _
  | r :: rs, hr => by
    obtain ⟨h1, h2, h3⟩ := l_inv rs (fun x hx => hr x (List.mem_cons_of_mem _ hx))
    have hr1 := hr r List.mem_cons_self
    by_cases hg : l_in (l_f rs) r = 0
    · have hs : l_sp rs r = true := by
        have := h2 r hr1
        rwa [hg, Nat.xor_zero] at this
      have e : l_f (r :: rs) = l_f rs := by
        show l_nf (l_f rs) r = _
        unfold l_nf
        rw [if_pos hg]
      refine ⟨by rw [e]; exact h1, fun m hm => by rw [e]; exact l_sp_cons (h2 m hm), fun m hm => ?_⟩
      rw [l_sp_old hs] at hm
      rw [e]
      exact h3 m hm
    · have e : l_f (r :: rs) = l_kf (l_f rs) r := by
        show l_nf (l_f rs) r = _
        unfold l_nf
        rw [if_neg hg]
      have hgs : l_sp (r :: rs) (l_in (l_f rs) r) = true := by
        have := h2 r hr1
        simp only [l_sp, Bool.or_eq_true]
        exact Or.inr (by rw [Nat.xor_comm]; exact this)
      refine ⟨by rw [e]; exact l_kf_lt h1, fun m hm => ?_, fun m hm => ?_⟩
      · rw [e, l_kf_in]
        split
        · rw [← Nat.xor_assoc]
          exact l_sp_xor (l_sp_cons (h2 m hm)) hgs
        · exact l_sp_cons (h2 m hm)
      · rw [e, l_kf_in]
        simp only [l_sp, Bool.or_eq_true] at hm
        rcases hm with hm | hm
        · rw [h3 m hm]
          simp
        · have h4 := h3 _ hm
          rw [l_in_xor] at h4
          rw [l_x0 h4, if_pos (q_top_bit hg), Nat.xor_self]
theorem l_f_lt {rs : List Nat} (hr : ∀ r ∈ rs, r < 1024) : ∀ p, p < 10 → l_f rs p < 1024 := (l_inv rs hr).1
theorem l_f_sp {rs : List Nat} (hr : ∀ r ∈ rs, r < 1024) {m : Nat} (hm : m < 1024) : l_in (l_f rs) m = 0 ↔ l_sp rs m = true := by
  constructor
  · intro h
    have := (l_inv rs hr).2.1 m hm
    rwa [h, Nat.xor_zero] at this
  · exact (l_inv rs hr).2.2 m
theorem l_f_out {rs : List Nat} (hr : ∀ r ∈ rs, r < 1024) {p : Nat} (hp : p < 10) : l_f rs p = 0 ↔ l_sp rs (2 ^ p) = true := by
  rw [← l_f_sp hr (Nat.pow_lt_pow_right (by decide) hp), l_in_bit hp]
theorem l_f_with {rs : List Nat} (hr : ∀ r ∈ rs, r < 1024) {p m : Nat} (hp : p < 10) (hm : m < 1024) : (l_f rs p = 0 ∨ l_f rs p = l_in (l_f rs) m) ↔ l_sp (m :: rs) (2 ^ p) = true := by
  have h2 : 2 ^ p < 2 ^ 10 := Nat.pow_lt_pow_right (by decide) hp
  simp only [l_sp, Bool.or_eq_true]
  rw [l_f_out hr hp, ← l_f_sp hr (q_xor_lt (k := 10) h2 hm), l_in_xor, l_in_bit hp]
  constructor
  · rintro (h | h)
    · exact Or.inl h
    · exact Or.inr (by rw [h, Nat.xor_self])
  · rintro (h | h)
    · exact Or.inl h
    · exact Or.inr (l_x0 h)
/-- the exclusive or of the rows of a set -/
def l_xb : List Nat → Nat → Nat
  | [], _ => 0
  | r :: rs, b => if b.testBit rs.length then l_xb rs b ^^^ r else l_xb rs b
theorem l_xb_xor : ∀ (rs : List Nat) (b c : Nat), l_xb rs (b ^^^ c) = l_xb rs b ^^^ l_xb rs c
  | [], _, _ => by simp [l_xb]
  | r :: rs, b, c => by
    simp only [l_xb, l_xb_xor rs b c, Nat.testBit_xor]
    cases b.testBit rs.length <;> cases c.testBit rs.length
    · rfl
    · simp [Nat.xor_assoc]
    · simp
      rw [Nat.xor_assoc, Nat.xor_comm (l_xb rs c) r, ← Nat.xor_assoc]
    · simp
      rw [l_x4, Nat.xor_self, Nat.xor_zero]
theorem l_xb_0 : ∀ rs, l_xb rs 0 = 0
  | [] => rfl
  | r :: rs => by simp [l_xb, l_xb_0 rs]
theorem l_xb_sp : ∀ (rs : List Nat) (b : Nat), l_sp rs (l_xb rs b) = true
  | [], _ => rfl
  | r :: rs, b => by
    simp only [l_xb]
    split
    · exact l_sp_xor (l_sp_cons (l_xb_sp rs b)) l_sp_head
    · exact l_sp_cons (l_xb_sp rs b)
theorem l_nw_lt : ∀ rs, l_nw rs < 2 ^ rs.length
  | [] => by decide
  | r :: rs => by
    simp only [l_nw, List.length_cons]
    have h := l_nw_lt rs
    have h2 : l_nw rs < 2 ^ (rs.length + 1) := Nat.lt_of_lt_of_le h (Nat.pow_le_pow_right (by decide) (by omega))
    split
    · exact h2
    · exact q_or_lt h2 (Nat.pow_lt_pow_right (by decide) (by omega))
/-- b has no bit that c has not -/
def l_le (b c : Nat) : Prop := ∀ k, b.testBit k = true → c.testBit k = true
theorem l_le_lt {b c n : Nat} (h : l_le b c) (hc : c < 2 ^ n) : b < 2 ^ n := q_lt2 fun i hi => by
  cases hb : b.testBit i with
  | false => rfl
  | true =>
    have := h i hb
    rw [q_hi hc hi] at this
    cases this
theorem l_le_xor {a b c : Nat} (ha : l_le a c) (hb : l_le b c) : l_le (a ^^^ b) c := by
  intro k hk
  rw [Nat.testBit_xor] at hk
  cases h1 : a.testBit k with
  | true => exact ha k h1
  | false =>
    rw [h1] at hk
    exact hb k (by simpa using hk)
theorem l_xb_uniq : ∀ (rs : List Nat) (c : Nat), l_le c (l_nw rs) → l_xb rs c = 0 → c = 0
  | [], c, h, _ => by
    have := l_le_lt (n := 0) h (l_nw_lt [])
    omega
  | r :: rs, c, h, hx => by
    by_cases hs : l_sp rs r = true
    · have hn : l_nw (r :: rs) = l_nw rs := by simp [l_nw, hs]
      rw [hn] at h
      have hlt := l_le_lt h (l_nw_lt rs)
      simp only [l_xb] at hx
      rw [q_hi hlt (Nat.le_refl _)] at hx
      exact l_xb_uniq rs c h (by simpa using hx)
    · have hs : l_sp rs r = false := by simpa using hs
      have hn : l_nw (r :: rs) = l_nw rs ||| 2 ^ rs.length := by simp [l_nw, hs]
      simp only [l_xb] at hx
      cases hc : c.testBit rs.length with
      | true =>
        rw [hc] at hx
        have e := l_x0 hx
        have := l_xb_sp rs c
        rw [e, hs] at this
        cases this
      | false =>
        rw [hc] at hx
        refine l_xb_uniq rs c (fun k hk => ?_) (by simpa using hx)
        have := h k hk
        rw [hn, Nat.testBit_or, Nat.testBit_two_pow] at this
        by_cases e : rs.length = k
        · subst e
          rw [hc] at hk
          cases hk
        · simpa [e] using this
theorem l_in_le {b : Nat → Nat} {c m : Nat} (h : ∀ p, p < 10 → l_le (b p) c) : l_le (l_in b m) c := by
  have : ∀ k, k ≤ 10 → l_le (l_to b m k) c := by
    intro k
    induction k with
    | zero =>
      intro _ i hi
      simp [l_to] at hi
    | succ k ih =>
      intro hk
      simp only [l_to]
      split
      · exact l_le_xor (ih (by omega)) (h k (by omega))
      · exact ih (by omega)
  exact this 10 (Nat.le_refl _)
theorem l_xb_in (rs : List Nat) (b : Nat → Nat) (m : Nat) : ∀ k, l_xb rs (l_to b m k) = l_to (fun p => l_xb rs (b p)) m k
  | 0 => l_xb_0 rs
  | k + 1 => by
    simp only [l_to]
    split
    · rw [l_xb_xor, l_xb_in rs b m k]
    · exact l_xb_in rs b m k
theorem l_xb_skip {r : Nat} {rs : List Nat} {c : Nat} (h : c < 2 ^ rs.length) : l_xb (r :: rs) c = l_xb rs c := by
  simp only [l_xb]
  rw [q_hi h (Nat.le_refl _)]
  simp
/-- the rows by which: new rows alone, and their sum is the piece and its rest -/
theorem l_b_inv : ∀ (rs : List Nat), (∀ r ∈ rs, r < 1024) → ∀ p, p < 10 → l_le (l_b rs p) (l_nw rs) ∧ l_xb rs (l_b rs p) = 2 ^ p ^^^ l_f rs p
  | [], _, p, _ => by
    refine ⟨fun k hk => ?_, ?_⟩
    · simp [l_b] at hk
    · show 0 = 2 ^ p ^^^ 2 ^ p
      rw [Nat.xor_self]
  | r :: rs, hr, p, hp => by
    have hrs : ∀ x ∈ rs, x < 1024 := fun x hx => hr x (List.mem_cons_of_mem _ hx)
    have ih := l_b_inv rs hrs
    have hr1 := hr r List.mem_cons_self
    by_cases hg : l_in (l_f rs) r = 0
    · have hs : l_sp rs r = true := (l_f_sp hrs hr1).mp hg
      have e1 : l_f (r :: rs) = l_f rs := by show l_nf (l_f rs) r = _; unfold l_nf; rw [if_pos hg]
      have e2 : l_b (r :: rs) = l_b rs := by show l_nb (l_f rs) (l_b rs) r _ = _; unfold l_nb; rw [if_pos hg]
      have hn : l_nw (r :: rs) = l_nw rs := by simp [l_nw, hs]
      rw [e1, e2, hn, l_xb_skip (l_le_lt (ih p hp).1 (l_nw_lt rs))]
      exact ih p hp
    · have hs : l_sp rs r = false := by
        cases h : l_sp rs r with
        | false => rfl
        | true => exact absurd ((l_f_sp hrs hr1).mpr h) hg
      have e1 : l_f (r :: rs) = l_kf (l_f rs) r := by show l_nf (l_f rs) r = _; unfold l_nf; rw [if_neg hg]
      have e2 : l_b (r :: rs) = l_kb (l_f rs) (l_b rs) r (2 ^ rs.length) := by show l_nb (l_f rs) (l_b rs) r _ = _; unfold l_nb; rw [if_neg hg]
      have hn : l_nw (r :: rs) = l_nw rs ||| 2 ^ rs.length := by simp [l_nw, hs]
      have hle : ∀ c, l_le c (l_nw rs) → l_le c (l_nw (r :: rs)) := by
        intro c hc k hk
        rw [hn, Nat.testBit_or, hc k hk]
        rfl
      have hbr : l_le (l_in (l_b rs) r) (l_nw rs) := l_in_le (fun q hq => (ih q hq).1)
      have hbl : l_in (l_b rs) r < 2 ^ rs.length := l_le_lt hbr (l_nw_lt rs)
      have hx : l_xb rs (l_in (l_b rs) r) = r ^^^ l_in (l_f rs) r := by
        unfold l_in
        rw [l_xb_in rs (l_b rs) r 10, l_to_congr (g := fun p => 2 ^ p ^^^ l_f rs p) 10 (fun q hq => (ih q hq).2), l_to_add]
        show l_in (fun p => 2 ^ p) r ^^^ _ = _
        rw [l_in_pow hr1]
      have hgb : l_xb (r :: rs) (l_in (l_b rs) r ^^^ 2 ^ rs.length) = l_in (l_f rs) r := by
        rw [l_xb_xor, l_xb_skip hbl, hx]
        have : l_xb (r :: rs) (2 ^ rs.length) = r := by
          simp only [l_xb, Nat.testBit_two_pow]
          simp
          have h0 : ∀ (xs : List Nat) (n : Nat), xs.length ≤ n → l_xb xs (2 ^ n) = 0 := by
            intro xs
            induction xs with
            | nil => intro n _; rfl
            | cons x xs ih2 =>
              intro n hn
              simp only [List.length_cons] at hn
              simp only [l_xb, Nat.testBit_two_pow]
              rw [if_neg (by simp; omega)]
              exact ih2 n (by omega)
          rw [h0 rs rs.length (Nat.le_refl _), Nat.zero_xor]
        rw [this, Nat.xor_comm r, l_xx]
      rw [e1, e2]
      unfold l_kf l_kb
      by_cases hb : l_f rs p &&& q_top (l_in (l_f rs) r) = 0
      · rw [if_pos hb, if_pos hb, l_xb_skip (l_le_lt (ih p hp).1 (l_nw_lt rs))]
        exact ⟨hle _ (ih p hp).1, (ih p hp).2⟩
      · rw [if_neg hb, if_neg hb]
        refine ⟨l_le_xor (hle _ (ih p hp).1) (l_le_xor (hle _ hbr) ?_), ?_⟩
        · intro k hk
          rw [Nat.testBit_two_pow] at hk
          have : rs.length = k := by simpa using hk
          subst this
          rw [hn, Nat.testBit_or, Nat.testBit_two_pow]
          simp
        · rw [l_xb_xor, hgb, l_xb_skip (l_le_lt (ih p hp).1 (l_nw_lt rs)), (ih p hp).2, Nat.xor_assoc]
/-- just one set of new rows has a given sum -/
theorem l_b_uniq {rs : List Nat} (hr : ∀ r ∈ rs, r < 1024) {p c : Nat} (hp : p < 10) (ho : l_sp rs (2 ^ p) = true) (hc : l_le c (l_nw rs)) (hx : l_xb rs c = 2 ^ p) : c = l_b rs p := by
  have h1 := l_b_inv rs hr p hp
  rw [(l_f_out hr hp).mpr ho, Nat.xor_zero] at h1
  have h2 := l_xb_uniq rs (c ^^^ l_b rs p) (l_le_xor hc h1.1) (by rw [l_xb_xor, hx, h1.2, Nat.xor_self])
  exact l_x0 h2
/-! the rank is at most ten: a bit dies with each new row -/
def l_cnt (P : Nat → Bool) : Nat → Nat
  | 0 => 0
  | k + 1 => l_cnt P k + (P k).toNat
theorem l_cnt_le (P : Nat → Bool) : ∀ k, l_cnt P k ≤ k
  | 0 => Nat.le_refl _
  | k + 1 => by
    have := l_cnt_le P k
    simp only [l_cnt]
    cases P k <;> simp <;> omega
theorem l_cnt_mono {P Q : Nat → Bool} (h : ∀ t, P t = true → Q t = true) : ∀ k, l_cnt P k ≤ l_cnt Q k
  | 0 => Nat.le_refl _
  | k + 1 => by
    have ih := l_cnt_mono h k
    simp only [l_cnt]
    cases hp : P k
    · simp; omega
    · rw [h k hp]; simp; omega
theorem l_cnt_more {P Q : Nat → Bool} (h : ∀ t, P t = true → Q t = true) {t0 : Nat} (h1 : P t0 = false) (h2 : Q t0 = true) : ∀ k, t0 < k → l_cnt P k + 1 ≤ l_cnt Q k
  | k + 1, hk => by
    simp only [l_cnt]
    by_cases e : t0 = k
    · subst e
      have := l_cnt_mono h t0
      rw [h1, h2]
      simp
      omega
    · have ih := l_cnt_more h h1 h2 k (by omega)
      cases hp : P k
      · simp; omega
      · rw [h k hp]; simp; omega
def l_dead (f : Nat → Nat) (t : Nat) : Bool := (List.range 10).all (fun p => !(f p).testBit t)
theorem l_dead_iff {f : Nat → Nat} {t : Nat} : l_dead f t = true ↔ ∀ p, p < 10 → (f p).testBit t = false := by
  simp [l_dead]
theorem l_dead_in {f : Nat → Nat} {t m : Nat} (h : l_dead f t = true) : (l_in f m).testBit t = false := by
  have hd := l_dead_iff.mp h
  have : ∀ k, k ≤ 10 → (l_to f m k).testBit t = false := by
    intro k
    induction k with
    | zero => intro _; simp [l_to]
    | succ k ih =>
      intro hk
      simp only [l_to]
      split
      · rw [Nat.testBit_xor, ih (by omega), hd k (by omega)]
        rfl
      · exact ih (by omega)
  exact this 10 (Nat.le_refl _)
theorem l_rk_dead : ∀ (rs : List Nat), (∀ r ∈ rs, r < 1024) → l_rk rs ≤ l_cnt (l_dead (l_f rs)) 10
  | [], _ => Nat.zero_le _
  | r :: rs, hr => by
    have hrs : ∀ x ∈ rs, x < 1024 := fun x hx => hr x (List.mem_cons_of_mem _ hx)
    have ih := l_rk_dead rs hrs
    have hr1 := hr r List.mem_cons_self
    by_cases hg : l_in (l_f rs) r = 0
    · have hs : l_sp rs r = true := (l_f_sp hrs hr1).mp hg
      have e1 : l_f (r :: rs) = l_f rs := by show l_nf (l_f rs) r = _; unfold l_nf; rw [if_pos hg]
      simp only [l_rk, hs, if_true, e1]
      exact ih
    · have hs : l_sp rs r = false := by
        cases h : l_sp rs r with
        | false => rfl
        | true => exact absurd ((l_f_sp hrs hr1).mpr h) hg
      have e1 : l_f (r :: rs) = l_kf (l_f rs) r := by show l_nf (l_f rs) r = _; unfold l_nf; rw [if_neg hg]
      have hlt := l_in_lt (m := r) (l_f_lt hrs)
      have ht : Nat.log2 (l_in (l_f rs) r) < 10 := (Nat.log2_lt hg).mpr hlt
      have hbit := q_top_bit hg
      have hmono : ∀ t, l_dead (l_f rs) t = true → l_dead (l_kf (l_f rs) r) t = true := by
        intro t hd
        have hd2 := l_dead_in (m := r) hd
        rw [l_dead_iff] at hd ⊢
        intro p hp
        unfold l_kf
        split
        · exact hd p hp
        · rw [Nat.testBit_xor, hd p hp, hd2]
          rfl
      have h1 : l_dead (l_f rs) (Nat.log2 (l_in (l_f rs) r)) = false := by
        cases h : l_dead (l_f rs) (Nat.log2 (l_in (l_f rs) r)) with
        | false => rfl
        | true =>
          have := l_dead_in (m := r) h
          rw [hbit] at this
          cases this
      have h2 : l_dead (l_kf (l_f rs) r) (Nat.log2 (l_in (l_f rs) r)) = true := by
        rw [l_dead_iff]
        intro p hp
        unfold l_kf
        split
        · rename_i h
          exact (q_top_and _ _).mp h
        · rename_i h
          rw [Nat.testBit_xor, hbit]
          cases hb : (l_f rs p).testBit (Nat.log2 (l_in (l_f rs) r)) with
          | true => rfl
          | false => exact absurd ((q_top_and _ _).mpr hb) h
      have := l_cnt_more hmono h1 h2 10 ht
      have e2 : l_rk (r :: rs) = l_rk rs + 1 := by simp [l_rk, hs]
      rw [e1, e2]
      omega
theorem l_rk_le {rs : List Nat} (hr : ∀ r ∈ rs, r < 1024) : l_rk rs ≤ 10 := Nat.le_trans (l_rk_dead rs hr) (l_cnt_le _ 10)
end
section
/-! OneCall$Knowledge -/
def zKn (h : zH) (a : Nat) : Prop := (h.2.1 a).1 = 1 ∧ h.2.1 (a + 1) = (10, 10) ∧ h.2.1 (a + 2) = (11, 10) ∧ h.2.2 a 0 = some (a + 1) ∧ h.2.2 a 1 = some (a + 2)
def kI (I : zI) (a : Nat) (f : Nat → Nat) (rk : Nat) : Prop := (∀ p, p < 10 → I (a + 1) p = nI (f p)) ∧ I a 2 = nI rk
def kJ (J : zJ) (a : Nat) (b : Nat → Nat) : Prop := ∀ p, p < 10 → J (a + 2) p = lN (b p)
theorem m_restOf (d : Nat) (h : zH) (I : zI) (J : zJ) (a : Nat) (hk : zKn h a) (f : Nat → Nat) (hf : ∀ p, p < 10 → I (a + 1) p = nI (f p)) (m : Nat) (hm : m < 1024) : z_C yX0_restOf cX0_restOf 4 (some .int) (d + 1) [.ref a, .int (nI m)] h I J 0 0 (z_q (some (.int (nI (l_in f m)))) h I J) := by
  refine z_C.of (by decide) (Nat.le_of_ble_eq_true rfl) fun K E X => ?_
  refine v_iconst (v := nI 0) E dX0_restOf_0 (by decide) ?_
  refine v_istore_n E dX0_restOf_1 (by decide) ?_
  refine v_iconst (v := nI 0) E dX0_restOf_2 (by decide) ?_
  refine v_istore_n E dX0_restOf_3 (by decide) ?_
  have loop : ∀ k, k ≤ 10 → z_V K 4 [(0, .ref a), (1, .int (nI m)), (2, .int (nI (l_to f m k))), (3, .int (nI k))] [] h I J 0 0 := by
    refine z_for 10 ?_ (fun k hk1 ih => ?_)
    · refine v_iload_n E dX0_restOf_4 rfl ?_
      refine v_bipush (v := nI 10) E dX0_restOf_5 (by decide) ?_
      refine v_icmp_geN (tgt := 33) E dX0_restOf_7 (by decide) (by omega) (by omega) (fun c => ?_) (fun c => ?_)
      · refine v_iload_n E dX0_restOf_33 rfl ?_
        exact v_iret E X dX0_restOf_34 z_qq
      · exact absurd c (by omega)
    · refine v_iload_n E dX0_restOf_4 rfl ?_
      refine v_bipush (v := nI 10) E dX0_restOf_5 (by decide) ?_
      refine v_icmp_geN (tgt := 33) E dX0_restOf_7 (by decide) (by omega) (by omega) (fun c => ?_) (fun c => ?_)
      · exact absurd c (by omega)
      · refine v_iload_n E dX0_restOf_10 rfl ?_
        refine v_iload_n E dX0_restOf_11 rfl ?_
        refine v_callN1 E dX0_restOf_12 k_nK Y_X3_isIn (m_isIn d h I J k m (by omega) (by omega)) rfl rfl (Nat.le_of_ble_eq_true rfl) ?_
        have e : l_to f m (k + 1) = if m.testBit k then l_to f m k ^^^ f k else l_to f m k := rfl
        refine v_if_eqB (tgt := 27) E dX0_restOf_15 (by decide)  (fun c2 => ?_) (fun c2 => ?_)
        · rw [c2] at e
          refine v_inc E dX0_restOf_27 rfl (by decide) ?_
          refine v_goto (tgt := 4) E dX0_restOf_30 (by decide) ?_
          rw [e] at ih
          exact ih
        · rw [c2] at e
          refine v_iload_n E dX0_restOf_18 rfl ?_
          refine v_aload_n E dX0_restOf_19 rfl ?_
          refine v_getR E f_X0_9 dX0_restOf_20 hk.1 rfl hk.2.2.2.1 ?_
          refine v_iload_n E dX0_restOf_23 rfl ?_
          refine v_ialoadE E dX0_restOf_24 hk.2.1 rfl hk1 (by decide) (hf k hk1) ?_
          refine v_ixorN E dX0_restOf_25 ?_
          refine v_istore_n E dX0_restOf_26 (by decide) ?_
          refine v_inc E dX0_restOf_27 rfl (by decide) ?_
          refine v_goto (tgt := 4) E dX0_restOf_30 (by decide) ?_
          rw [e] at ih
          exact ih
  exact loop 0 (by omega)
theorem m_rowsOf (d : Nat) (h : zH) (I : zI) (J : zJ) (a : Nat) (hk : zKn h a) (b : Nat → Nat) (hb : kJ J a b) (m : Nat) (hm : m < 1024) : z_C yX0_rowsOf cX0_rowsOf 5 (some .long) (d + 1) [.ref a, .int (nI m)] h I J 0 0 (z_q (some (.long (lN (l_in b m)))) h I J) := by
  refine z_C.of (by decide) (Nat.le_of_ble_eq_true rfl) fun K E X => ?_
  refine v_lconst (v := lN 0) E dX0_rowsOf_0 (by decide) ?_
  refine v_lstore_n E dX0_rowsOf_1 (by decide) ?_
  refine v_iconst (v := nI 0) E dX0_rowsOf_2 (by decide) ?_
  refine v_istore E dX0_rowsOf_3 (by decide) ?_
  have loop : ∀ k, k ≤ 10 → z_V K 5 [(0, .ref a), (1, .int (nI m)), (2, .long (lN (l_to b m k))), (4, .int (nI k))] [] h I J 0 0 := by
    refine z_for 10 ?_ (fun k hk1 ih => ?_)
    · refine v_iload E dX0_rowsOf_5 rfl ?_
      refine v_bipush (v := nI 10) E dX0_rowsOf_7 (by decide) ?_
      refine v_icmp_geN (tgt := 37) E dX0_rowsOf_9 (by decide) (by omega) (by omega) (fun c => ?_) (fun c => ?_)
      · refine v_lload_n E dX0_rowsOf_37 rfl ?_
        exact v_lret E X dX0_rowsOf_38 z_qq
      · exact absurd c (by omega)
    · refine v_iload E dX0_rowsOf_5 rfl ?_
      refine v_bipush (v := nI 10) E dX0_rowsOf_7 (by decide) ?_
      refine v_icmp_geN (tgt := 37) E dX0_rowsOf_9 (by decide) (by omega) (by omega) (fun c => ?_) (fun c => ?_)
      · exact absurd c (by omega)
      · refine v_iload E dX0_rowsOf_12 rfl ?_
        refine v_iload_n E dX0_rowsOf_14 rfl ?_
        refine v_callN1 E dX0_rowsOf_15 k_nK Y_X3_isIn (m_isIn d h I J k m (by omega) (by omega)) rfl rfl (Nat.le_of_ble_eq_true rfl) ?_
        have e : l_to b m (k + 1) = if m.testBit k then l_to b m k ^^^ b k else l_to b m k := rfl
        refine v_if_eqB (tgt := 31) E dX0_rowsOf_18 (by decide)  (fun c2 => ?_) (fun c2 => ?_)
        · rw [c2] at e
          refine v_inc E dX0_rowsOf_31 rfl (by decide) ?_
          refine v_goto (tgt := 5) E dX0_rowsOf_34 (by decide) ?_
          rw [e] at ih
          exact ih
        · rw [c2] at e
          refine v_lload_n E dX0_rowsOf_21 rfl ?_
          refine v_aload_n E dX0_rowsOf_22 rfl ?_
          refine v_getR E f_X0_15 dX0_rowsOf_23 hk.1 rfl hk.2.2.2.2 ?_
          refine v_iload E dX0_rowsOf_26 rfl ?_
          refine v_laloadE E dX0_rowsOf_28 hk.2.2.1 rfl hk1 (by decide) (hb k hk1) ?_
          refine v_lxorN E dX0_rowsOf_29 ?_
          refine v_lstore_n E dX0_rowsOf_30 (by decide) ?_
          refine v_inc E dX0_rowsOf_31 rfl (by decide) ?_
          refine v_goto (tgt := 5) E dX0_rowsOf_34 (by decide) ?_
          rw [e] at ih
          exact ih
  exact loop 0 (by omega)
/-- the pieces whose rest is 0 or g -/
def l_wo (f : Nat → Nat) (g : Nat) : Nat → Nat
  | 0 => 0
  | k + 1 => if f k = 0 ∨ f k = g then l_wo f g k ||| 2 ^ k else l_wo f g k
theorem l_wo_bit (f : Nat → Nat) (g i : Nat) : ∀ k, (l_wo f g k).testBit i = (decide (i < k) && decide (f i = 0 ∨ f i = g))
  | 0 => by simp [l_wo]
  | k + 1 => by
    have ih := l_wo_bit f g i k
    simp only [l_wo]
    by_cases hi : i = k
    · subst hi
      by_cases hc : f i = 0 ∨ f i = g
      · rw [if_pos hc, Nat.testBit_or, Nat.testBit_two_pow]
        simp [hc]
      · rw [if_neg hc, ih]
        simp [hc]
    · by_cases hc : f k = 0 ∨ f k = g
      · rw [if_pos hc, Nat.testBit_or, Nat.testBit_two_pow, ih]
        by_cases h2 : i < k
        · simp [h2, Nat.lt_succ_of_lt h2, Ne.symm hi]
        · simp [h2, show ¬ i < k + 1 by omega, Ne.symm hi]
      · rw [if_neg hc, ih]
        by_cases h2 : i < k
        · simp [h2, Nat.lt_succ_of_lt h2]
        · simp [h2, show ¬ i < k + 1 by omega]
theorem l_wo_lt (f : Nat → Nat) (g k : Nat) : l_wo f g k < 2 ^ k := q_lt2 fun i hi => by
  rw [l_wo_bit]
  simp [show ¬ i < k by omega]
theorem m_workedOutWith (d : Nat) (h : zH) (I : zI) (J : zJ) (a : Nat) (hk : zKn h a) (f : Nat → Nat) (hf : ∀ p, p < 10 → I (a + 1) p = nI (f p)) (hl : ∀ p, p < 10 → f p < 1024) (g : Nat) (hg : g < 1024) : z_C yX0_workedOutWith cX0_workedOutWith 4 (some .int) d [.ref a, .int (nI g)] h I J 0 0 (z_q (some (.int (nI (l_wo f g 10)))) h I J) := by
  refine z_C.of (by decide) (Nat.le_of_ble_eq_true rfl) fun K E X => ?_
  refine v_iconst (v := nI 0) E dX0_workedOutWith_0 (by decide) ?_
  refine v_istore_n E dX0_workedOutWith_1 (by decide) ?_
  refine v_iconst (v := nI 0) E dX0_workedOutWith_2 (by decide) ?_
  refine v_istore_n E dX0_workedOutWith_3 (by decide) ?_
  have loop : ∀ k, k ≤ 10 → z_V K 4 [(0, .ref a), (1, .int (nI g)), (2, .int (nI (l_wo f g k))), (3, .int (nI k))] [] h I J 0 0 := by
    refine z_for 10 ?_ (fun k hk1 ih => ?_)
    · refine v_iload_n E dX0_workedOutWith_4 rfl ?_
      refine v_bipush (v := nI 10) E dX0_workedOutWith_5 (by decide) ?_
      refine v_icmp_geN (tgt := 41) E dX0_workedOutWith_7 (by decide) (by omega) (by omega) (fun c => ?_) (fun c => ?_)
      · refine v_iload_n E dX0_workedOutWith_41 rfl ?_
        exact v_iret E X dX0_workedOutWith_42 z_qq
      · exact absurd c (by omega)
    · have hlk := hl k hk1
      have put : (f k = 0 ∨ f k = g) → z_V K 29 [(0, .ref a), (1, .int (nI g)), (2, .int (nI (l_wo f g k))), (3, .int (nI k))] [] h I J 0 0 := by
        intro hc
        have e : l_wo f g (k + 1) = l_wo f g k ||| 1 * 2 ^ k := by rw [Nat.one_mul]; simp only [l_wo]; rw [if_pos hc]
        rw [e] at ih
        refine v_iload_n E dX0_workedOutWith_29 rfl ?_
        refine v_iconst (v := nI 1) E dX0_workedOutWith_30 (by decide) ?_
        refine v_iload_n E dX0_workedOutWith_31 rfl ?_
        refine v_ishlN E dX0_workedOutWith_32 (by omega) ?_
        refine v_iorN E dX0_workedOutWith_33 ?_
        refine v_istore_n E dX0_workedOutWith_34 (by decide) ?_
        refine v_inc E dX0_workedOutWith_35 rfl (by decide) ?_
        refine v_goto (tgt := 4) E dX0_workedOutWith_38 (by decide) ?_
        exact ih
      refine v_iload_n E dX0_workedOutWith_4 rfl ?_
      refine v_bipush (v := nI 10) E dX0_workedOutWith_5 (by decide) ?_
      refine v_icmp_geN (tgt := 41) E dX0_workedOutWith_7 (by decide) (by omega) (by omega) (fun c => ?_) (fun c => ?_)
      · exact absurd c (by omega)
      · refine v_aload_n E dX0_workedOutWith_10 rfl ?_
        refine v_getR E f_X0_9 dX0_workedOutWith_11 hk.1 rfl hk.2.2.2.1 ?_
        refine v_iload_n E dX0_workedOutWith_14 rfl ?_
        refine v_ialoadE E dX0_workedOutWith_15 hk.2.1 rfl hk1 (by decide) (hf k hk1) ?_
        refine v_if_eqN (tgt := 29) E dX0_workedOutWith_16 (by decide) (by omega) (fun c1 => ?_) (fun c1 => ?_)
        · exact put (Or.inl c1)
        · refine v_aload_n E dX0_workedOutWith_19 rfl ?_
          refine v_getR E f_X0_9 dX0_workedOutWith_20 hk.1 rfl hk.2.2.2.1 ?_
          refine v_iload_n E dX0_workedOutWith_23 rfl ?_
          refine v_ialoadE E dX0_workedOutWith_24 hk.2.1 rfl hk1 (by decide) (hf k hk1) ?_
          refine v_iload_n E dX0_workedOutWith_25 rfl ?_
          refine v_icmp_neN (tgt := 35) E dX0_workedOutWith_26 (by decide) (by omega) (by omega) (fun c2 => ?_) (fun c2 => ?_)
          · have e : l_wo f g (k + 1) = l_wo f g k := by simp only [l_wo]; rw [if_neg (by omega)]
            rw [e] at ih
            refine v_inc E dX0_workedOutWith_35 rfl (by decide) ?_
            refine v_goto (tgt := 4) E dX0_workedOutWith_38 (by decide) ?_
            exact ih
          · exact put (Or.inr c2)
  exact loop 0 (by omega)
theorem m_workedOut (d : Nat) (h : zH) (I : zI) (J : zJ) (a : Nat) (hk : zKn h a) (f : Nat → Nat) (hf : ∀ p, p < 10 → I (a + 1) p = nI (f p)) (hl : ∀ p, p < 10 → f p < 1024) : z_C yX0_workedOut cX0_workedOut 1 (some .int) (d + 1) [.ref a] h I J 0 0 (z_q (some (.int (nI (l_wo f 0 10)))) h I J) := by
  refine z_C.of (by decide) (Nat.le_of_ble_eq_true rfl) fun K E X => ?_
  refine v_aload_n E dX0_workedOut_0 rfl ?_
  refine v_iconst (v := nI 0) E dX0_workedOut_1 (by decide) ?_
  refine v_callV1 E dX0_workedOut_2 k_X0_46 Y_X0_workedOutWith (m_workedOutWith d h I J a hk f hf hl 0 (by decide)) hk.1 rfl rfl (Nat.le_of_ble_eq_true rfl) ?_
  exact v_iret E X dX0_workedOut_5 z_qq
theorem m_isWorkedOut (d : Nat) (h : zH) (I : zI) (J : zJ) (a : Nat) (hk : zKn h a) (f : Nat → Nat) (hf : ∀ p, p < 10 → I (a + 1) p = nI (f p)) (hl : ∀ p, p < 10 → f p < 1024) (p : Nat) (hp : p < 10) : z_C yX0_isWorkedOut cX0_isWorkedOut 2 (some .boolean) d [.ref a, .int (nI p)] h I J 0 0 (z_q (some (.int (nI (decide (f p = 0)).toNat))) h I J) := by
  have hlp := hl p hp
  refine z_C.of (by decide) (Nat.le_of_ble_eq_true rfl) fun K E X => ?_
  refine v_iload_n E dX0_isWorkedOut_0 rfl ?_
  refine v_if_lt (tgt := 23) E dX0_isWorkedOut_1 (by decide)  (fun c => ?_) (fun c => ?_)
  · exact absurd c (nI_pos (by omega))
  · refine v_iload_n E dX0_isWorkedOut_4 rfl ?_
    refine v_bipush (v := nI 10) E dX0_isWorkedOut_5 (by decide) ?_
    refine v_icmp_geN (tgt := 23) E dX0_isWorkedOut_7 (by decide) (by omega) (by omega) (fun c1 => ?_) (fun c1 => ?_)
    · exact absurd c1 (by omega)
    · refine v_aload_n E dX0_isWorkedOut_10 rfl ?_
      refine v_getR E f_X0_9 dX0_isWorkedOut_11 hk.1 rfl hk.2.2.2.1 ?_
      refine v_iload_n E dX0_isWorkedOut_14 rfl ?_
      refine v_ialoadE E dX0_isWorkedOut_15 hk.2.1 rfl hp (by decide) (hf p hp) ?_
      refine v_if_neN (tgt := 23) E dX0_isWorkedOut_16 (by decide) (by omega) (fun c2 => ?_) (fun c2 => ?_)
      · refine v_iconst (v := nI 0) E dX0_isWorkedOut_23 (by decide) ?_
        exact v_zret E X dX0_isWorkedOut_24 (by first | exact Or.inl rfl | exact Or.inr rfl) (z_qi (by rw [decide_eq_false (by omega)]; rfl))
      · refine v_iconst (v := nI 1) E dX0_isWorkedOut_19 (by decide) ?_
        refine v_goto (tgt := 24) E dX0_isWorkedOut_20 (by decide) ?_
        exact v_zret E X dX0_isWorkedOut_24 (by first | exact Or.inl rfl | exact Or.inr rfl) (z_qi (by rw [decide_eq_true c2]; rfl))
/-- what a call on the Knowledge at a leaves as it was -/
def kFr (a : Nat) (I : zI) (J : zJ) (I' : zI) (J' : zJ) : Prop := (∀ q, q ≠ a → q ≠ a + 1 → I' q = I q) ∧ ∀ q, q ≠ a + 2 → J' q = J q
theorem m_become (d : Nat) (h : zH) (I : zI) (J : zJ) (a b : Nat) (hk : zKn h a) (hb : zKn h b) (hab : b ≠ a) (hab1 : b ≠ a + 1) (f : Nat → Nat) (rk : Nat) (hf : kI I b f rk) : z_C yX0_become cX0_become 2 none (d + 1) [.ref a, .ref b] h I J 0 0 (fun r h' I' J' => r = none ∧ h' = h ∧ kI I' a f rk ∧ kFr a I J I' J') := by
  refine z_C.of (by decide) (Nat.le_of_ble_eq_true rfl) fun K E X => ?_
  refine v_aload_n E dX0_become_0 rfl ?_
  refine v_getR E f_X0_9 dX0_become_1 hb.1 rfl hb.2.2.2.1 ?_
  refine v_iconst (v := nI 0) E dX0_become_4 (by decide) ?_
  refine v_aload_n E dX0_become_5 rfl ?_
  refine v_getR E f_X0_9 dX0_become_6 hk.1 rfl hk.2.2.2.1 ?_
  refine v_iconst (v := nI 0) E dX0_become_9 (by decide) ?_
  refine v_bipush (v := nI 10) E dX0_become_10 (by decide) ?_
  refine v_copyI E dX0_become_12 k_X0_19 hb.2.1 hk.2.1 rfl (by decide) (Nat.le_of_ble_eq_true rfl) ?_
  refine v_aload_n E dX0_become_15 rfl ?_
  refine v_getR E f_X0_15 dX0_become_16 hb.1 rfl hb.2.2.2.2 ?_
  refine v_iconst (v := nI 0) E dX0_become_19 (by decide) ?_
  refine v_aload_n E dX0_become_20 rfl ?_
  refine v_getR E f_X0_15 dX0_become_21 hk.1 rfl hk.2.2.2.2 ?_
  refine v_iconst (v := nI 0) E dX0_become_24 (by decide) ?_
  refine v_bipush (v := nI 10) E dX0_become_25 (by decide) ?_
  refine v_copyJ E dX0_become_27 k_X0_19 hb.2.2.1 hk.2.2.1 rfl (by decide) (Nat.le_of_ble_eq_true rfl) ?_
  refine v_aload_n E dX0_become_30 rfl ?_
  refine v_aload_n E dX0_become_31 rfl ?_
  refine v_getIE E f_X0_25 dX0_become_32 hb.1 rfl (show z_w I (a + 1) _ b 2 = nI rk by rw [z_w_row hab1]; exact hf.2) ?_
  refine v_putI E f_X0_25 dX0_become_35 hk.1 rfl rfl rfl (by decide) ?_
  refine v_vret E X dX0_become_38 ⟨rfl, rfl, ⟨fun p hp => ?_, z_u_same⟩, ⟨fun q h1 h2 => ?_, fun q h1 => z_w_row h1⟩⟩
  · rw [z_u_row (by omega), z_w_same, pk_cpy_in (by omega) (by omega)]
    simpa using hf.1 p hp
  · rw [z_u_row h1, z_w_row h2]
end
section
/-! OneCall$Knowledge.learn -/
theorem q_top_lt {g : Nat} (h0 : g ≠ 0) (h : g < 1024) : q_top g < 1024 := Nat.lt_of_le_of_lt (Nat.log2_self_le h0) h
theorem m_learn (d : Nat) (h : zH) (I : zI) (J : zJ) (a : Nat) (hk : zKn h a) (f b : Nat → Nat) (rk : Nat) (hf : kI I a f rk) (hl : ∀ p, p < 10 → f p < 1024) (hb : kJ J a b) (m : Nat) (hm : m < 1024) (row : Nat) : z_C yX0_learn cX0_learn 9 (some .boolean) (d + 2) [.ref a, .int (nI m), .long (lN row)] h I J 0 0 (fun r h' I' J' => r = some (.int (nI (decide (l_in f m ≠ 0)).toNat)) ∧ h' = h ∧ kI I' a (l_nf f m) (rk + (decide (l_in f m ≠ 0)).toNat) ∧ kJ J' a (l_nb f b m row) ∧ kFr a I J I' J') := by
  have hg := l_in_lt (m := m) hl
  refine z_C.of (by decide) (Nat.le_of_ble_eq_true rfl) fun K E X => ?_
  refine v_aload_n E dX0_learn_0 rfl ?_
  refine v_iload_n E dX0_learn_1 rfl ?_
  refine v_callV1 E dX0_learn_2 k_X0_33 Y_X0_restOf (m_restOf d h I J a hk f hf.1 m hm) hk.1 rfl rfl (Nat.le_of_ble_eq_true rfl) ?_
  refine v_istore E dX0_learn_5 (by decide) ?_
  refine v_iload E dX0_learn_7 rfl ?_
  refine v_if_neN (tgt := 14) E dX0_learn_9 (by decide) (by omega) (fun c => ?_) (fun c => ?_)
  · refine v_aload_n E dX0_learn_14 rfl ?_
    refine v_iload_n E dX0_learn_15 rfl ?_
    refine v_callV1 E dX0_learn_16 k_X0_37 Y_X0_rowsOf (m_rowsOf d h I J a hk b hb m hm) hk.1 rfl rfl (Nat.le_of_ble_eq_true rfl) ?_
    have hne : l_in f m ≠ 0 := by omega
    have ht := q_top_lt hne hg
    refine v_lload_n E dX0_learn_19 rfl ?_
    refine v_lxorN E dX0_learn_20 ?_
    refine v_lstore E dX0_learn_21 (by decide) ?_
    refine v_iload E dX0_learn_23 rfl ?_
    refine v_callS1 E dX0_learn_25 k_X0_41 Y_J6_highestOneBit_0f7a4 (m_highestOneBit d h I J (l_in f m) hg c) rfl rfl (Nat.le_of_ble_eq_true rfl) ?_
    refine v_istore E dX0_learn_28 (by decide) ?_
    refine v_iconst (v := nI 0) E dX0_learn_30 (by decide) ?_
    refine v_istore E dX0_learn_31 (by decide) ?_
    have loop : ∀ k, k ≤ 10 → ∀ (I' : zI) (J' : zJ), (∀ p, p < k → I' (a + 1) p = nI (l_kf f m p)) → (∀ p, k ≤ p → p < 10 → I' (a + 1) p = nI (f p)) → (∀ p, p < k → J' (a + 2) p = lN (l_kb f b m row p)) → (∀ p, k ≤ p → p < 10 → J' (a + 2) p = lN (b p)) → (∀ q, q ≠ a + 1 → I' q = I q) → (∀ q, q ≠ a + 2 → J' q = J q) → z_V K 33 [(0, .ref a), (1, .int (nI m)), (2, .long (lN row)), (4, .int (nI (l_in f m))), (5, .long (lN (l_in b m ^^^ row))), (7, .int (nI (q_top (l_in f m)))), (8, .int (nI k))] [] h I' J' 0 0 := by
      refine z_for 10 ?_ (fun k hk1 ih => ?_)
      · intro I' J' h1 h2 h3 h4 h5 h6
        refine v_iload E dX0_learn_33 rfl ?_
        refine v_bipush (v := nI 10) E dX0_learn_35 (by decide) ?_
        refine v_icmp_geN (tgt := 83) E dX0_learn_37 (by decide) (by omega) (by omega) (fun c1 => ?_) (fun c1 => ?_)
        · refine v_aload_n E dX0_learn_83 rfl ?_
          refine v_dup E dX0_learn_84 rfl ?_
          refine v_getIE E f_X0_25 dX0_learn_85 hk.1 rfl (show I' a 2 = nI rk by rw [h5 a (by omega)]; exact hf.2) ?_
          refine v_iconst (v := nI 1) E dX0_learn_88 (by decide) ?_
          refine v_iaddN E dX0_learn_89 ?_
          refine v_putI E f_X0_25 dX0_learn_90 hk.1 rfl rfl rfl (by decide) ?_
          refine v_iconst (v := nI 1) E dX0_learn_93 (by decide) ?_
          refine v_zret E X dX0_learn_94 (by first | exact Or.inl rfl | exact Or.inr rfl) ⟨by rw [decide_eq_true hne]; rfl, rfl, ⟨fun p hp => ?_, ?_⟩, fun p hp => ?_, fun q q1 q2 => ?_, h6⟩
          · rw [z_u_row (by omega), h1 p hp]
            unfold l_nf
            rw [if_neg hne]
          · rw [z_u_same, decide_eq_true hne]
            rfl
          · rw [h3 p hp]
            unfold l_nb
            rw [if_neg hne]
          · rw [z_u_row q1, h5 q q2]
        · exact absurd c1 (by omega)
      · intro I' J' h1 h2 h3 h4 h5 h6
        have hlk := hl k hk1
        refine v_iload E dX0_learn_33 rfl ?_
        refine v_bipush (v := nI 10) E dX0_learn_35 (by decide) ?_
        refine v_icmp_geN (tgt := 83) E dX0_learn_37 (by decide) (by omega) (by omega) (fun c1 => ?_) (fun c1 => ?_)
        · exact absurd c1 (by omega)
        · refine v_aload_n E dX0_learn_40 rfl ?_
          refine v_getR E f_X0_9 dX0_learn_41 hk.1 rfl hk.2.2.2.1 ?_
          refine v_iload E dX0_learn_44 rfl ?_
          refine v_ialoadE E dX0_learn_46 hk.2.1 rfl hk1 (by decide) (h2 k (Nat.le_refl _) hk1) ?_
          refine v_iload E dX0_learn_47 rfl ?_
          refine v_iandN E dX0_learn_49 ?_
          have hal := q_and_lt (k := 10) (b := q_top (l_in f m)) hlk
          refine v_if_eqN (tgt := 77) E dX0_learn_50 (by decide) (by omega) (fun c2 => ?_) (fun c2 => ?_)
          · refine v_inc E dX0_learn_77 rfl (by decide) ?_
            refine v_goto (tgt := 33) E dX0_learn_80 (by decide) ?_
            refine ih I' J' (fun p hp => ?_) (fun p p1 p2 => h2 p (by omega) p2) (fun p hp => ?_) (fun p p1 p2 => h4 p (by omega) p2) h5 h6
            · by_cases e : p = k
              · subst e
                rw [h2 p (Nat.le_refl _) hk1]
                unfold l_kf
                rw [if_pos c2]
              · exact h1 p (by omega)
            · by_cases e : p = k
              · subst e
                rw [h4 p (Nat.le_refl _) hk1]
                unfold l_kb
                rw [if_pos c2]
              · exact h3 p (by omega)
          · refine v_aload_n E dX0_learn_53 rfl ?_
            refine v_getR E f_X0_9 dX0_learn_54 hk.1 rfl hk.2.2.2.1 ?_
            refine v_iload E dX0_learn_57 rfl ?_
            refine v_dup2 E dX0_learn_59 rfl rfl ?_
            refine v_ialoadE E dX0_learn_60 hk.2.1 rfl hk1 (by decide) (h2 k (Nat.le_refl _) hk1) ?_
            refine v_iload E dX0_learn_61 rfl ?_
            refine v_ixorN E dX0_learn_63 ?_
            refine v_iastore E dX0_learn_64 hk.2.1 rfl hk1 (by decide) ?_
            refine v_aload_n E dX0_learn_65 rfl ?_
            refine v_getR E f_X0_15 dX0_learn_66 hk.1 rfl hk.2.2.2.2 ?_
            refine v_iload E dX0_learn_69 rfl ?_
            refine v_dup2 E dX0_learn_71 rfl rfl ?_
            refine v_laloadE E dX0_learn_72 hk.2.2.1 rfl hk1 (by decide) (h4 k (Nat.le_refl _) hk1) ?_
            refine v_lload E dX0_learn_73 rfl ?_
            refine v_lxorN E dX0_learn_75 ?_
            refine v_lastore E dX0_learn_76 hk.2.2.1 rfl hk1 (by decide) ?_
            refine v_inc E dX0_learn_77 rfl (by decide) ?_
            refine v_goto (tgt := 33) E dX0_learn_80 (by decide) ?_
            have hkf : l_kf f m k = f k ^^^ l_in f m := by unfold l_kf; rw [if_neg (by omega)]
            have hkb : l_kb f b m row k = b k ^^^ (l_in b m ^^^ row) := by unfold l_kb; rw [if_neg (by omega)]
            refine ih _ _ (fun p hp => ?_) (fun p p1 p2 => ?_) (fun p hp => ?_) (fun p p1 p2 => ?_) (fun q hq => ?_) (fun q hq => ?_)
            · by_cases e : p = k
              · subst e
                rw [z_u_same, hkf]
              · rw [z_u_col e]
                exact h1 p (by omega)
            · rw [z_u_col (by omega)]
              exact h2 p (by omega) p2
            · by_cases e : p = k
              · subst e
                rw [z_u_same, hkb]
              · rw [z_u_col e]
                exact h3 p (by omega)
            · rw [z_u_col (by omega)]
              exact h4 p (by omega) p2
            · rw [z_u_row hq]
              exact h5 q hq
            · rw [z_u_row hq]
              exact h6 q hq
    exact loop 0 (by omega) I J (fun p hp => absurd hp (by omega)) (fun p _ hp => hf.1 p hp) (fun p hp => absurd hp (by omega)) (fun p _ hp => hb p hp) (fun _ _ => rfl) (fun _ _ => rfl)
  · refine v_iconst (v := nI 0) E dX0_learn_12 (by decide) ?_
    have hd : decide (l_in f m ≠ 0) = false := decide_eq_false (by omega)
    refine v_zret E X dX0_learn_13 (by first | exact Or.inl rfl | exact Or.inr rfl) ⟨by rw [hd]; rfl, rfl, ⟨fun p hp => ?_, ?_⟩, fun p hp => ?_, fun _ _ _ => rfl, fun _ _ => rfl⟩
    · rw [hf.1 p hp]
      unfold l_nf
      rw [if_pos c]
    · rw [hf.2, hd]
      rfl
    · rw [hb p hp]
      unfold l_nb
      rw [if_pos c]
end
section
/-! OneCall$Listener -/
/-- row k of rows given newest first -/
def l_row : List Nat → Nat → Nat
  | [], _ => 0
  | r :: rs, k => if k = rs.length then r else l_row rs k
theorem l_row_lt {rs : List Nat} (h : ∀ r ∈ rs, r < 1024) (k : Nat) : l_row rs k < 1024 := by
  induction rs with
  | nil => exact Nat.zero_lt_succ _
  | cons r rs ih =>
    simp only [l_row]
    split
    · exact h r List.mem_cons_self
    · exact ih (fun x hx => h x (List.mem_cons_of_mem _ hx))
theorem l_cons_lt {rs : List Nat} {m : Nat} (h : ∀ r ∈ rs, r < 1024) (hm : m < 1024) : ∀ r ∈ m :: rs, r < 1024 := by
  intro r hr
  rcases List.mem_cons.mp hr with rfl | hr
  · exact hm
  · exact h r hr
def zLs (h : zH) (a : Nat) : Prop := (h.2.1 a).1 = 2 ∧ h.2.1 (a + 1) = (10, 52) ∧ zKn h (a + 2) ∧ h.2.2 a 1 = some (a + 1) ∧ h.2.2 a 2 = some (a + 2)
/-- what the cells of a listener hold: kind, rows, how many it has, the pieces that it has, what it wants, the calls that it heard, whether it is off -/
def lsI (I : zI) (J : zJ) (a kd : Nat) (rs : List Nat) (hm hp wt hc : Nat) (off : Bool) : Prop :=
  I a 0 = nI kd ∧ I a 3 = nI rs.length ∧ I a 4 = nI hm ∧ I a 5 = nI hp ∧ I a 6 = nI wt ∧ J a 7 = lN hc ∧ I a 8 = nI off.toNat ∧ (∀ k, k < rs.length → I (a + 1) k = nI (l_row rs k)) ∧ kI I (a + 2) (l_f rs) (l_rk rs) ∧ kJ J (a + 2) (l_b rs)
/-- bounds that hold of every listener -/
def lsB (kd : Nat) (rs : List Nat) (hm hp wt : Nat) : Prop := kd < 5 ∧ (∀ r ∈ rs, r < 1024) ∧ rs.length ≤ 52 ∧ hm ≤ rs.length ∧ hp < 1024 ∧ wt < 1024
def lFr (a : Nat) (I : zI) (J : zJ) (I' : zI) (J' : zJ) : Prop := ∀ q, (q < a ∨ a + 4 < q) → I' q = I q ∧ J' q = J q
theorem m_mayHave (d : Nat) (h : zH) (I : zI) (J : zJ) (a : Nat) (hh : zLs h a) {kd : Nat} {rs : List Nat} {hm hp wt hc : Nat} {off : Bool} (hI : lsI I J a kd rs hm hp wt hc off) (hB : lsB kd rs hm hp wt) (m : Nat) (hm1 : m < 1024) : z_C yX1_mayHave cX1_mayHave 3 (some .boolean) (d + 1) [.ref a, .int (nI m)] h I J 0 0 (z_q (some (.int (nI (decide ((kd = 3 ∨ q_pop m = 1) ∧ ∀ k, k < hm → l_row rs k ≠ m)).toNat))) h I J) := by
  obtain ⟨i0, i3, i4, i5, i6, i7, i8, ir, ik, ij⟩ := hI
  obtain ⟨b0, b1, b2, b3, b4, b5⟩ := hB
  have hpop : q_pop m < 1024 := Nat.lt_of_le_of_lt (List.length_filter_le _ _) (by simp)
  refine z_C.of (by decide) (Nat.le_of_ble_eq_true rfl) fun K E X => ?_
  have tail : (kd = 3 ∨ q_pop m = 1) → z_V K 18 [(0, .ref a), (1, .int (nI m))] [] h I J 0 0 := by
    intro hc0
    refine v_iconst (v := nI 0) E dX1_mayHave_18 (by decide) ?_
    refine v_istore_n E dX1_mayHave_19 (by decide) ?_
    have loop : ∀ k, k ≤ hm → (∀ j, j < k → l_row rs j ≠ m) → z_V K 20 [(0, .ref a), (1, .int (nI m)), (2, .int (nI k))] [] h I J 0 0 := by
      refine z_for hm ?_ (fun k hk ih => ?_)
      · intro hall
        refine v_iload_n E dX1_mayHave_20 rfl ?_
        refine v_aload_n E dX1_mayHave_21 rfl ?_
        refine v_getIE E f_X1_32 dX1_mayHave_22 hh.1 rfl i4 ?_
        refine v_icmp_geN (tgt := 46) E dX1_mayHave_25 (by decide) (by omega) (by omega) (fun c => ?_) (fun c => ?_)
        · refine v_iconst (v := nI 1) E dX1_mayHave_46 (by decide) ?_
          exact v_zret E X dX1_mayHave_47 (by first | exact Or.inl rfl | exact Or.inr rfl) (z_qi (by rw [decide_eq_true ⟨hc0, hall⟩]; rfl))
        · exact absurd c (by omega)
      · intro hall
        have hlr := l_row_lt b1 k
        refine v_iload_n E dX1_mayHave_20 rfl ?_
        refine v_aload_n E dX1_mayHave_21 rfl ?_
        refine v_getIE E f_X1_32 dX1_mayHave_22 hh.1 rfl i4 ?_
        refine v_icmp_geN (tgt := 46) E dX1_mayHave_25 (by decide) (by omega) (by omega) (fun c => ?_) (fun c => ?_)
        · exact absurd c (by omega)
        · refine v_aload_n E dX1_mayHave_28 rfl ?_
          refine v_getR E f_X1_15 dX1_mayHave_29 hh.1 rfl hh.2.2.2.1 ?_
          refine v_iload_n E dX1_mayHave_32 rfl ?_
          refine v_ialoadE E dX1_mayHave_33 hh.2.1 rfl (by omega) (by decide) (ir k (by omega)) ?_
          refine v_iload_n E dX1_mayHave_34 rfl ?_
          refine v_icmp_neN (tgt := 40) E dX1_mayHave_35 (by decide) (by omega) (by omega) (fun c1 => ?_) (fun c1 => ?_)
          · refine v_inc E dX1_mayHave_40 rfl (by decide) ?_
            refine v_goto (tgt := 20) E dX1_mayHave_43 (by decide) ?_
            refine ih (fun j hj => ?_)
            by_cases e : j = k
            · subst e
              exact c1
            · exact hall j (by omega)
          · refine v_iconst (v := nI 0) E dX1_mayHave_38 (by decide) ?_
            exact v_zret E X dX1_mayHave_39 (by first | exact Or.inl rfl | exact Or.inr rfl) (z_qi (by rw [decide_eq_false (fun z => z.2 k hk c1)]; rfl))
    exact loop 0 (by omega) (fun j hj => absurd hj (by omega))
  refine v_aload_n E dX1_mayHave_0 rfl ?_
  refine v_getIE E f_X1_9 dX1_mayHave_1 hh.1 rfl i0 ?_
  refine v_iconst (v := nI 3) E dX1_mayHave_4 (by decide) ?_
  refine v_icmp_eqN (tgt := 18) E dX1_mayHave_5 (by decide) (by omega) (by omega) (fun c => ?_) (fun c => ?_)
  · exact tail (Or.inl c)
  · refine v_iload_n E dX1_mayHave_8 rfl ?_
    refine v_callS1 E dX1_mayHave_9 k_X1_26 Y_J6_bitCount_0f7a4 (m_bitCount d h I J m hm1) rfl rfl (Nat.le_of_ble_eq_true rfl) ?_
    refine v_iconst (v := nI 1) E dX1_mayHave_12 (by decide) ?_
    refine v_icmp_eqN (tgt := 18) E dX1_mayHave_13 (by decide) (by omega) (by omega) (fun c1 => ?_) (fun c1 => ?_)
    · exact tail (Or.inr c1)
    · refine v_iconst (v := nI 0) E dX1_mayHave_16 (by decide) ?_
      exact v_zret E X dX1_mayHave_17 (by first | exact Or.inl rfl | exact Or.inr rfl) (z_qi (by rw [decide_eq_false (fun z => z.1.elim c c1)]; rfl))
theorem m_isEven (d : Nat) (h : zH) (I : zI) (J : zJ) (a : Nat) (hh : zLs h a) {kd : Nat} {rs : List Nat} {hm hp wt hc : Nat} {off : Bool} (hI : lsI I J a kd rs hm hp wt hc off) (hB : lsB kd rs hm hp wt) (m : Nat) (hm1 : m < 1024) : z_C yX1_isEvenInAllRows cX1_isEvenInAllRows 3 (some .boolean) (d + 1) [.ref a, .int (nI m)] h I J 0 0 (z_q (some (.int (nI (decide (∀ k, k < rs.length → q_pop (l_row rs k &&& m) % 2 = 0)).toNat))) h I J) := by
  obtain ⟨i0, i3, i4, i5, i6, i7, i8, ir, ik, ij⟩ := hI
  obtain ⟨b0, b1, b2, b3, b4, b5⟩ := hB
  refine z_C.of (by decide) (Nat.le_of_ble_eq_true rfl) fun K E X => ?_
  refine v_iconst (v := nI 0) E dX1_isEvenInAllRows_0 (by decide) ?_
  refine v_istore_n E dX1_isEvenInAllRows_1 (by decide) ?_
  have loop : ∀ k, k ≤ rs.length → (∀ j, j < k → q_pop (l_row rs j &&& m) % 2 = 0) → z_V K 2 [(0, .ref a), (1, .int (nI m)), (2, .int (nI k))] [] h I J 0 0 := by
    refine z_for rs.length ?_ (fun k hk ih => ?_)
    · intro hall
      refine v_iload_n E dX1_isEvenInAllRows_2 rfl ?_
      refine v_aload_n E dX1_isEvenInAllRows_3 rfl ?_
      refine v_getIE E f_X1_46 dX1_isEvenInAllRows_4 hh.1 rfl i3 ?_
      refine v_icmp_geN (tgt := 34) E dX1_isEvenInAllRows_7 (by decide) (by omega) (by omega) (fun c => ?_) (fun c => ?_)
      · refine v_iconst (v := nI 1) E dX1_isEvenInAllRows_34 (by decide) ?_
        exact v_zret E X dX1_isEvenInAllRows_35 (by first | exact Or.inl rfl | exact Or.inr rfl) (z_qi (by rw [decide_eq_true hall]; rfl))
      · exact absurd c (by omega)
    · intro hall
      have hlr := q_and_lt (k := 10) (b := m) (l_row_lt b1 k)
      refine v_iload_n E dX1_isEvenInAllRows_2 rfl ?_
      refine v_aload_n E dX1_isEvenInAllRows_3 rfl ?_
      refine v_getIE E f_X1_46 dX1_isEvenInAllRows_4 hh.1 rfl i3 ?_
      refine v_icmp_geN (tgt := 34) E dX1_isEvenInAllRows_7 (by decide) (by omega) (by omega) (fun c => ?_) (fun c => ?_)
      · exact absurd c (by omega)
      · refine v_aload_n E dX1_isEvenInAllRows_10 rfl ?_
        refine v_getR E f_X1_15 dX1_isEvenInAllRows_11 hh.1 rfl hh.2.2.2.1 ?_
        refine v_iload_n E dX1_isEvenInAllRows_14 rfl ?_
        refine v_ialoadE E dX1_isEvenInAllRows_15 hh.2.1 rfl (by omega) (by decide) (ir k (by omega)) ?_
        refine v_iload_n E dX1_isEvenInAllRows_16 rfl ?_
        refine v_iandN E dX1_isEvenInAllRows_17 ?_
        refine v_callS1 E dX1_isEvenInAllRows_18 k_X1_26 Y_J6_bitCount_0f7a4 (m_bitCount d h I J _ hlr) rfl rfl (Nat.le_of_ble_eq_true rfl) ?_
        refine v_iconst (v := nI 1) E dX1_isEvenInAllRows_21 (by decide) ?_
        refine v_iandN E dX1_isEvenInAllRows_22 ?_
        refine v_top (show nI (q_pop (l_row rs k &&& m) &&& 1) = nI (q_pop (l_row rs k &&& m) % 2) by rw [q_a1]) ?_
        refine v_if_eqN (tgt := 28) E dX1_isEvenInAllRows_23 (by decide) (by omega) (fun c1 => ?_) (fun c1 => ?_)
        · refine v_inc E dX1_isEvenInAllRows_28 rfl (by decide) ?_
          refine v_goto (tgt := 2) E dX1_isEvenInAllRows_31 (by decide) ?_
          refine ih (fun j hj => ?_)
          by_cases e : j = k
          · subst e
            exact c1
          · exact hall j (by omega)
        · refine v_iconst (v := nI 0) E dX1_isEvenInAllRows_26 (by decide) ?_
          exact v_zret E X dX1_isEvenInAllRows_27 (by first | exact Or.inl rfl | exact Or.inr rfl) (z_qi (by rw [decide_eq_false (fun z => by have := z k hk; omega)]; rfl))
  exact loop 0 (by omega) (fun j hj => absurd hj (by omega))
/-- is a listener served that has worked out the pieces wo? -/
def l_sv (kd hp wt wo all : Nat) : Bool := if kd = 2 then decide (hp = all) || decide (q_df wo hp ≠ 0) else decide (q_df wt wo = 0)
theorem m_isServedWith (d : Nat) (h : zH) (I : zI) (J : zJ) (a : Nat) (hh : zLs h a) {kd hp wt : Nat} (i0 : I a 0 = nI kd) (i5 : I a 5 = nI hp) (i6 : I a 6 = nI wt) (b0 : kd < 5) (b4 : hp < 1024) (b5 : wt < 1024) (wo all : Nat) (hwo : wo < 1024) (hall : all < 1024) : z_C yX1_isServedWith cX1_isServedWith 3 (some .boolean) d [.ref a, .int (nI wo), .int (nI all)] h I J 0 0 (z_q (some (.int (nI (l_sv kd hp wt wo all).toNat))) h I J) := by
  have h1 := q_df_lt (k := 10) (b := hp) hwo
  have h2 := q_df_lt (k := 10) (b := wo) b5
  refine z_C.of (by decide) (Nat.le_of_ble_eq_true rfl) fun K E X => ?_
  refine v_aload_n E dX1_isServedWith_0 rfl ?_
  refine v_getIE E f_X1_9 dX1_isServedWith_1 hh.1 rfl i0 ?_
  refine v_iconst (v := nI 2) E dX1_isServedWith_4 (by decide) ?_
  refine v_icmp_neN (tgt := 33) E dX1_isServedWith_5 (by decide) (by omega) (by omega) (fun c => ?_) (fun c => ?_)
  · refine v_aload_n E dX1_isServedWith_33 rfl ?_
    refine v_getIE E f_X1_64 dX1_isServedWith_34 hh.1 rfl i6 ?_
    refine v_iload_n E dX1_isServedWith_37 rfl ?_
    refine v_iconst (v := -1) E dX1_isServedWith_38 (by decide) ?_
    refine v_ixor E dX1_isServedWith_39 ?_
    refine v_iand E dX1_isServedWith_40 ?_
    refine v_top (q_dif wt wo) ?_
    refine v_if_neN (tgt := 48) E dX1_isServedWith_41 (by decide) (by omega) (fun c1 => ?_) (fun c1 => ?_)
    · refine v_iconst (v := nI 0) E dX1_isServedWith_48 (by decide) ?_
      exact v_zret E X dX1_isServedWith_49 (by first | exact Or.inl rfl | exact Or.inr rfl) (z_qi (by unfold l_sv; rw [if_neg c, decide_eq_false (by omega)]; rfl))
    · refine v_iconst (v := nI 1) E dX1_isServedWith_44 (by decide) ?_
      refine v_goto (tgt := 49) E dX1_isServedWith_45 (by decide) ?_
      exact v_zret E X dX1_isServedWith_49 (by first | exact Or.inl rfl | exact Or.inr rfl) (z_qi (by unfold l_sv; rw [if_neg c, decide_eq_true c1]; rfl))
  · refine v_aload_n E dX1_isServedWith_8 rfl ?_
    refine v_getIE E f_X1_39 dX1_isServedWith_9 hh.1 rfl i5 ?_
    refine v_iload_n E dX1_isServedWith_12 rfl ?_
    refine v_icmp_eqN (tgt := 27) E dX1_isServedWith_13 (by decide) (by omega) (by omega) (fun c1 => ?_) (fun c1 => ?_)
    · refine v_iconst (v := nI 1) E dX1_isServedWith_27 (by decide) ?_
      refine v_goto (tgt := 32) E dX1_isServedWith_28 (by decide) ?_
      exact v_zret E X dX1_isServedWith_32 (by first | exact Or.inl rfl | exact Or.inr rfl) (z_qi (by unfold l_sv; rw [if_pos c, decide_eq_true c1]; rfl))
    · refine v_iload_n E dX1_isServedWith_16 rfl ?_
      refine v_aload_n E dX1_isServedWith_17 rfl ?_
      refine v_getIE E f_X1_39 dX1_isServedWith_18 hh.1 rfl i5 ?_
      refine v_iconst (v := -1) E dX1_isServedWith_21 (by decide) ?_
      refine v_ixor E dX1_isServedWith_22 ?_
      refine v_iand E dX1_isServedWith_23 ?_
      refine v_top (q_dif wo hp) ?_
      refine v_if_eqN (tgt := 31) E dX1_isServedWith_24 (by decide) (by omega) (fun c2 => ?_) (fun c2 => ?_)
      · refine v_iconst (v := nI 0) E dX1_isServedWith_31 (by decide) ?_
        exact v_zret E X dX1_isServedWith_32 (by first | exact Or.inl rfl | exact Or.inr rfl) (z_qi (by unfold l_sv; rw [if_pos c, decide_eq_false c1, decide_eq_false (by omega)]; rfl))
      · refine v_iconst (v := nI 1) E dX1_isServedWith_27 (by decide) ?_
        refine v_goto (tgt := 32) E dX1_isServedWith_28 (by decide) ?_
        exact v_zret E X dX1_isServedWith_32 (by first | exact Or.inl rfl | exact Or.inr rfl) (z_qi (by unfold l_sv; rw [if_pos c, decide_eq_false c1, decide_eq_true (by omega)]; rfl))
theorem m_isServedBy (d : Nat) (h : zH) (I : zI) (J : zJ) (a b : Nat) (hh : zLs h a) (hk : zKn h b) {kd hp wt : Nat} (i0 : I a 0 = nI kd) (i5 : I a 5 = nI hp) (i6 : I a 6 = nI wt) (b0 : kd < 5) (b4 : hp < 1024) (b5 : wt < 1024) (f : Nat → Nat) (hf : ∀ p, p < 10 → I (b + 1) p = nI (f p)) (hl : ∀ p, p < 10 → f p < 1024) (all : Nat) (hall : all < 1024) : z_C yX1_isServedBy cX1_isServedBy 3 (some .boolean) (d + 2) [.ref a, .ref b, .int (nI all)] h I J 0 0 (z_q (some (.int (nI (l_sv kd hp wt (l_wo f 0 10) all).toNat))) h I J) := by
  refine z_C.of (by decide) (Nat.le_of_ble_eq_true rfl) fun K E X => ?_
  refine v_aload_n E dX1_isServedBy_0 rfl ?_
  refine v_aload_n E dX1_isServedBy_1 rfl ?_
  refine v_callV1 E dX1_isServedBy_2 k_X1_53 Y_X0_workedOut (m_workedOut d h I J b hk f hf hl) hk.1 rfl rfl (Nat.le_of_ble_eq_true rfl) ?_
  refine v_iload_n E dX1_isServedBy_5 rfl ?_
  refine v_callV1 E dX1_isServedBy_6 k_X1_57 Y_X1_isServedWith (m_isServedWith (d + 1) h I J a hh i0 i5 i6 b0 b4 b5 (l_wo f 0 10) all (l_wo_lt f 0 10) hall) hh.1 rfl rfl (Nat.le_of_ble_eq_true rfl) ?_
  exact v_zret E X dX1_isServedBy_9 (by cases l_sv kd hp wt (l_wo f 0 10) all <;> first | exact Or.inl rfl | exact Or.inr rfl) z_qq
theorem m_wouldBe (d : Nat) (h : zH) (I : zI) (J : zJ) (a : Nat) (hh : zLs h a) {kd hp wt : Nat} (i0 : I a 0 = nI kd) (i5 : I a 5 = nI hp) (i6 : I a 6 = nI wt) (b0 : kd < 5) (b4 : hp < 1024) (b5 : wt < 1024) (f : Nat → Nat) (hf : ∀ p, p < 10 → I (a + 2 + 1) p = nI (f p)) (hl : ∀ p, p < 10 → f p < 1024) (g all : Nat) (hg : g < 1024) (hall : all < 1024) : z_C yX1_wouldBeServedBy cX1_wouldBeServedBy 3 (some .boolean) (d + 1) [.ref a, .int (nI g), .int (nI all)] h I J 0 0 (z_q (some (.int (nI (l_sv kd hp wt (l_wo f g 10) all).toNat))) h I J) := by
  refine z_C.of (by decide) (Nat.le_of_ble_eq_true rfl) fun K E X => ?_
  refine v_aload_n E dX1_wouldBeServedBy_0 rfl ?_
  refine v_aload_n E dX1_wouldBeServedBy_1 rfl ?_
  refine v_getR E f_X1_22 dX1_wouldBeServedBy_2 hh.1 rfl hh.2.2.2.2 ?_
  refine v_iload_n E dX1_wouldBeServedBy_5 rfl ?_
  refine v_callV1 E dX1_wouldBeServedBy_6 k_X1_61 Y_X0_workedOutWith (m_workedOutWith d h I J (a + 2) hh.2.2.1 f hf hl g hg) hh.2.2.1.1 rfl rfl (Nat.le_of_ble_eq_true rfl) ?_
  refine v_iload_n E dX1_wouldBeServedBy_9 rfl ?_
  refine v_callV1 E dX1_wouldBeServedBy_10 k_X1_57 Y_X1_isServedWith (m_isServedWith d h I J a hh i0 i5 i6 b0 b4 b5 (l_wo f g 10) all (l_wo_lt f g 10) hall) hh.1 rfl rfl (Nat.le_of_ble_eq_true rfl) ?_
  exact v_zret E X dX1_wouldBeServedBy_13 (by cases l_sv kd hp wt (l_wo f g 10) all <;> first | exact Or.inl rfl | exact Or.inr rfl) z_qq
theorem q_b01 (b : Bool) : nI b.toNat = 0 ∨ nI b.toNat = 1 := by cases b <;> first | exact Or.inl rfl | exact Or.inr rfl
/-- a row is new if its rest isn't 0 -/
theorem l_new {rs : List Nat} (hr : ∀ r ∈ rs, r < 1024) {m : Nat} (hm : m < 1024) : decide (l_in (l_f rs) m ≠ 0) = !l_sp rs m := by
  have h := l_f_sp hr hm
  cases hs : l_sp rs m with
  | true => exact decide_eq_false (fun z => z (h.mpr hs))
  | false => exact decide_eq_true (fun z => by rw [h.mp z] at hs; cases hs)
theorem l_rk_cons (rs : List Nat) (m : Nat) : l_rk (m :: rs) = l_rk rs + (!l_sp rs m).toNat := by
  simp only [l_rk]
  cases l_sp rs m <;> rfl
theorem m_addRow (d : Nat) (h : zH) (I : zI) (J : zJ) (a : Nat) (hh : zLs h a) {kd : Nat} {rs : List Nat} {hm hp wt hc : Nat} {off : Bool} (hI : lsI I J a kd rs hm hp wt hc off) (hB : lsB kd rs hm hp wt) (m : Nat) (hm1 : m < 1024) (h52 : rs.length < 52) : z_C yX1_addRow cX1_addRow 2 (some .boolean) (d + 3) [.ref a, .int (nI m)] h I J 0 0 (fun r h' I' J' => r = some (.int (nI (!l_sp rs m).toNat)) ∧ h' = h ∧ lsI I' J' a kd (m :: rs) hm hp wt hc off ∧ lFr a I J I' J') := by
  obtain ⟨i0, i3, i4, i5, i6, i7, i8, ir, ik, ij⟩ := hI
  obtain ⟨b0, b1, b2, b3, b4, b5⟩ := hB
  refine z_C.of (by decide) (Nat.le_of_ble_eq_true rfl) fun K E X => ?_
  refine v_aload_n E dX1_addRow_0 rfl ?_
  refine v_getIE E f_X1_46 dX1_addRow_1 hh.1 rfl i3 ?_
  refine v_aload_n E dX1_addRow_4 rfl ?_
  refine v_getR E f_X1_15 dX1_addRow_5 hh.1 rfl hh.2.2.2.1 ?_
  refine v_arraylength E dX1_addRow_8 hh.2.1 (by decide) (by decide) rfl ?_
  refine v_icmp_ltN (tgt := 14) E dX1_addRow_9 (by decide) (by omega) (by omega) (fun c => ?_) (fun c => ?_)
  · refine v_aload_n E dX1_addRow_14 rfl ?_
    refine v_getR E f_X1_15 dX1_addRow_15 hh.1 rfl hh.2.2.2.1 ?_
    refine v_aload_n E dX1_addRow_18 rfl ?_
    refine v_getIE E f_X1_46 dX1_addRow_19 hh.1 rfl i3 ?_
    refine v_iload_n E dX1_addRow_22 rfl ?_
    refine v_iastore E dX1_addRow_23 hh.2.1 rfl h52 (by decide) ?_
    refine v_aload_n E dX1_addRow_24 rfl ?_
    refine v_dup E dX1_addRow_25 rfl ?_
    refine v_getIE E f_X1_46 dX1_addRow_26 hh.1 rfl (show z_u I (a + 1) _ _ a 3 = nI rs.length by rw [z_u_row (by omega)]; exact i3) ?_
    refine v_iconst (v := nI 1) E dX1_addRow_29 (by decide) ?_
    refine v_iaddN E dX1_addRow_30 ?_
    refine v_putI E f_X1_46 dX1_addRow_31 hh.1 rfl rfl rfl (by decide) ?_
    refine v_aload_n E dX1_addRow_34 rfl ?_
    refine v_getR E f_X1_22 dX1_addRow_35 hh.1 rfl hh.2.2.2.2 ?_
    refine v_iload_n E dX1_addRow_38 rfl ?_
    refine v_lconst (v := lN 1) E dX1_addRow_39 (by decide) ?_
    refine v_aload_n E dX1_addRow_40 rfl ?_
    refine v_getIE E f_X1_46 dX1_addRow_41 hh.1 rfl z_u_same ?_
    refine v_iconst (v := nI 1) E dX1_addRow_44 (by decide) ?_
    refine v_isubN E dX1_addRow_45 (by omega) ?_
    refine v_lshlN E dX1_addRow_46 (by omega) ?_
    have kI2 : kI (z_u (z_u I (a + 1) rs.length (nI m)) a 3 (nI (rs.length + 1))) (a + 2) (l_f rs) (l_rk rs) := by
      refine ⟨fun p hp => ?_, ?_⟩
      · rw [z_u_row (by omega), z_u_row (by omega)]
        exact ik.1 p hp
      · rw [z_u_row (by omega), z_u_row (by omega)]
        exact ik.2
    refine v_callV E dX1_addRow_47 k_X1_49 Y_X0_learn (m_learn d h _ J (a + 2) hh.2.2.1 (l_f rs) (l_b rs) (l_rk rs) kI2 (l_f_lt b1) ij m hm1 _) hh.2.2.1.1 rfl rfl (Nat.le_of_ble_eq_true rfl) ?_
    rintro r h I' J' ⟨rfl, rfl, g1, g2, g3, g4⟩
    have hnew := l_new b1 hm1
    have e1 : 1 * 2 ^ (rs.length + 1 - 1) = 2 ^ rs.length := by simp
    rw [e1] at g2
    rw [hnew] at g1
    have row : ∀ q, q ≠ a + 2 → q ≠ a + 3 → q ≠ a → q ≠ a + 1 → I' q = I q := fun q q1 q2 q3 q4 => by rw [g3 q q1 q2, z_u_row q3, z_u_row q4]
    have ra : ∀ j, j ≠ 3 → I' a j = I a j := fun j hj => by rw [g3 a (by omega) (by omega), z_u_col hj, z_u_row (by omega)]
    refine v_zret E X dX1_addRow_50 (q_b01 _) ⟨by rw [hnew], rfl, ⟨?_, ?_, ?_, ?_, ?_, ?_, ?_, ?_, ?_, ?_⟩, ?_⟩
    · rw [ra 0 (by decide)]; exact i0
    · rw [g3 a (by omega) (by omega), z_u_same]; rfl
    · rw [ra 4 (by decide)]; exact i4
    · rw [ra 5 (by decide)]; exact i5
    · rw [ra 6 (by decide)]; exact i6
    · rw [g4 a (by omega)]; exact i7
    · rw [ra 8 (by decide)]; exact i8
    · intro k hk
      rw [g3 (a + 1) (by omega) (by omega), z_u_row (by omega)]
      by_cases e : k = rs.length
      · subst e
        rw [z_u_same]
        simp [l_row]
      · rw [z_u_col e]
        simp only [l_row, if_neg e]
        exact ir k (by simp only [List.length_cons] at hk; omega)
    · rw [l_rk_cons]
      exact g1
    · exact g2
    · intro q hq
      refine ⟨row q (by omega) (by omega) (by omega) (by omega), g4 q (by omega)⟩
  · exact absurd c (by omega)
theorem m_getSum (d : Nat) (h : zH) (I : zI) (J : zJ) (a : Nat) (hh : zLs h a) {kd : Nat} {rs : List Nat} {hm hp wt hc : Nat} {off : Bool} (hI : lsI I J a kd rs hm hp wt hc off) (hB : lsB kd rs hm hp wt) (m : Nat) (hm1 : m < 1024) (h52 : rs.length < 52) : z_C yX1_getSum cX1_getSum 2 none (d + 4) [.ref a, .int (nI m)] h I J 0 0 (fun r h' I' J' => r = none ∧ h' = h ∧ lsI I' J' a kd (m :: rs) (hm + 1) (if q_pop m = 1 then hp ||| m else hp) wt hc off ∧ lFr a I J I' J') := by
  have hpop : q_pop m < 1024 := Nat.lt_of_le_of_lt (List.length_filter_le _ _) (by simp)
  refine z_C.of (by decide) (Nat.le_of_ble_eq_true rfl) fun K E X => ?_
  refine v_aload_n E dX1_getSum_0 rfl ?_
  refine v_iload_n E dX1_getSum_1 rfl ?_
  refine v_callV E dX1_getSum_2 k_X1_35 Y_X1_addRow (m_addRow d h I J a hh hI hB m hm1 h52) hh.1 rfl rfl (Nat.le_of_ble_eq_true rfl) ?_
  rintro r h I' J' ⟨rfl, rfl, ⟨i0, i3, i4, i5, i6, i7, i8, ir, ik, ij⟩, hfr⟩
  refine v_pop E dX1_getSum_5 rfl ?_
  refine v_aload_n E dX1_getSum_6 rfl ?_
  refine v_dup E dX1_getSum_7 rfl ?_
  refine v_getIE E f_X1_32 dX1_getSum_8 hh.1 rfl i4 ?_
  refine v_iconst (v := nI 1) E dX1_getSum_11 (by decide) ?_
  refine v_iaddN E dX1_getSum_12 ?_
  refine v_putI E f_X1_32 dX1_getSum_13 hh.1 rfl rfl rfl (by decide) ?_
  refine v_iload_n E dX1_getSum_16 rfl ?_
  refine v_callS1 E dX1_getSum_17 k_X1_26 Y_J6_bitCount_0f7a4 (m_bitCount (d + 3) h _ J' m hm1) rfl rfl (Nat.le_of_ble_eq_true rfl) ?_
  refine v_iconst (v := nI 1) E dX1_getSum_20 (by decide) ?_
  refine v_icmp_neN (tgt := 34) E dX1_getSum_21 (by decide) (by omega) (by omega) (fun c => ?_) (fun c => ?_)
  · refine v_vret E X dX1_getSum_34 ⟨rfl, rfl, ⟨?_, ?_, ?_, ?_, ?_, ?_, ?_, ?_, ?_, ?_⟩, ?_⟩
    · rw [z_u_col (by decide)]; exact i0
    · rw [z_u_col (by decide)]; exact i3
    · rw [z_u_same]
    · rw [z_u_col (by decide), if_neg c]; exact i5
    · rw [z_u_col (by decide)]; exact i6
    · exact i7
    · rw [z_u_col (by decide)]; exact i8
    · intro k hk; rw [z_u_row (by omega)]; exact ir k hk
    · exact ⟨fun p hp => by rw [z_u_row (by omega)]; exact ik.1 p hp, by rw [z_u_row (by omega)]; exact ik.2⟩
    · exact ij
    · intro q hq
      exact ⟨by rw [z_u_row (by omega)]; exact (hfr q hq).1, (hfr q hq).2⟩
  · refine v_aload_n E dX1_getSum_24 rfl ?_
    refine v_dup E dX1_getSum_25 rfl ?_
    refine v_getIE E f_X1_39 dX1_getSum_26 hh.1 rfl (show z_u I' a 4 _ a 5 = nI hp by rw [z_u_col (by decide)]; exact i5) ?_
    refine v_iload_n E dX1_getSum_29 rfl ?_
    refine v_iorN E dX1_getSum_30 ?_
    refine v_putI E f_X1_39 dX1_getSum_31 hh.1 rfl rfl rfl (by decide) ?_
    refine v_vret E X dX1_getSum_34 ⟨rfl, rfl, ⟨?_, ?_, ?_, ?_, ?_, ?_, ?_, ?_, ?_, ?_⟩, ?_⟩
    · rw [z_u_col (by decide), z_u_col (by decide)]; exact i0
    · rw [z_u_col (by decide), z_u_col (by decide)]; exact i3
    · rw [z_u_col (by decide), z_u_same]
    · rw [z_u_same, if_pos c]
    · rw [z_u_col (by decide), z_u_col (by decide)]; exact i6
    · exact i7
    · rw [z_u_col (by decide), z_u_col (by decide)]; exact i8
    · intro k hk; rw [z_u_row (by omega), z_u_row (by omega)]; exact ir k hk
    · exact ⟨fun p hp => by rw [z_u_row (by omega), z_u_row (by omega)]; exact ik.1 p hp, by rw [z_u_row (by omega), z_u_row (by omega)]; exact ik.2⟩
    · exact ij
    · intro q hq
      exact ⟨by rw [z_u_row (by omega), z_u_row (by omega)]; exact (hfr q hq).1, (hfr q hq).2⟩
theorem m_hear (d : Nat) (h : zH) (I : zI) (J : zJ) (a : Nat) (hh : zLs h a) {kd : Nat} {rs : List Nat} {hm hp wt hc : Nat} {off : Bool} (hI : lsI I J a kd rs hm hp wt hc off) (hB : lsB kd rs hm hp wt) (m : Nat) (hm1 : m < 1024) (h52 : rs.length < 52) (call : Nat) (hcall : call < 40) : z_C yX1_hear cX1_hear 3 (some .boolean) (d + 4) [.ref a, .int (nI m), .int (nI call)] h I J 0 0 (fun r h' I' J' => r = some (.int (nI (!l_sp rs m).toNat)) ∧ h' = h ∧ lsI I' J' a kd (m :: rs) hm hp wt (hc ||| 2 ^ call) off ∧ lFr a I J I' J') := by
  obtain ⟨i0, i3, i4, i5, i6, i7, i8, ir, ik, ij⟩ := hI
  refine z_C.of (by decide) (Nat.le_of_ble_eq_true rfl) fun K E X => ?_
  refine v_aload_n E dX1_hear_0 rfl ?_
  refine v_dup E dX1_hear_1 rfl ?_
  refine v_getJE E f_X1_42 dX1_hear_2 hh.1 rfl i7 ?_
  refine v_lconst (v := lN 1) E dX1_hear_5 (by decide) ?_
  refine v_iload_n E dX1_hear_6 rfl ?_
  refine v_lshlN E dX1_hear_7 (by omega) ?_
  refine v_lorN E dX1_hear_8 ?_
  refine v_putJ E f_X1_42 dX1_hear_9 hh.1 rfl rfl rfl (by decide) ?_
  refine v_aload_n E dX1_hear_12 rfl ?_
  refine v_iload_n E dX1_hear_13 rfl ?_
  have hI2 : lsI I (z_u J a 7 (lN (hc ||| 1 * 2 ^ call))) a kd rs hm hp wt (hc ||| 2 ^ call) off := by
    refine ⟨i0, i3, i4, i5, i6, ?_, i8, ir, ik, fun p hp => ?_⟩
    · rw [z_u_same, Nat.one_mul]
    · rw [z_u_row (by omega)]
      exact ij p hp
  refine v_callV E dX1_hear_14 k_X1_35 Y_X1_addRow (m_addRow d h I _ a hh hI2 hB m hm1 h52) hh.1 rfl rfl (Nat.le_of_ble_eq_true rfl) ?_
  rintro r h I' J' ⟨rfl, rfl, g1, g2⟩
  refine v_zret E X dX1_hear_17 (q_b01 _) ⟨rfl, rfl, g1, fun q hq => ?_⟩
  have := g2 q hq
  rw [z_u_row (by omega)] at this
  exact this
end
section
/-! THE SHAPE of the law's heap: OneCall from place 1 on, OneCallModel from 17 on, then the listeners as they come; the list's row lies at 42 -/
def z_pl (l : Nat) : Nat := if l = 0 then 37 else 38 + 5 * l
def z_t0 (a : Nat) : Nat × Nat := match a with
  | 1 => (4, 0)
  | 2 => (11, 10)
  | 3 => (0, 0)
  | 4 => (10, 40)
  | 5 => (10, 40)
  | 6 => (10, 40)
  | 7 => (3, 0)
  | 8 => (10, 100)
  | 9 => (10, 100)
  | 10 => (10, 100)
  | 11 => (10, 10)
  | 12 => (10, 1024)
  | 13 => (1, 0)
  | 14 => (10, 10)
  | 15 => (11, 10)
  | 16 => (10, 5)
  | 17 => (5, 0)
  | 18 => (11, 10)
  | 19 => (10, 10)
  | 20 => (10, 10)
  | 21 => (10, 10)
  | 22 => (10, 120)
  | 23 => (12, 10)
  | 24 => (10, 40)
  | 25 => (10, 40)
  | 26 => (10, 56)
  | 27 => (12, 56)
  | 28 => (12, 10240)
  | 29 => (12, 1024)
  | 30 => (10, 10)
  | 31 => (10, 100)
  | 32 => (10, 100)
  | 33 => (10, 1024)
  | 34 => (12, 1024)
  | 35 => (10, 60)
  | 36 => (10, 6)
  | _ => (99, 0)
def z_r0 (nl a : Nat) : Nat → Option Nat := match a with
  | 1 => fun k => match k with
    | 0 => some 2
    | 2 => some 3
    | 3 => some 4
    | 4 => some 5
    | 5 => some 6
    | 7 => some 7
    | 8 => some 13
    | 9 => some 16
    | _ => none
  | 3 => fun k => match k with
    | 1 => if nl = 0 then some 0 else some 42
    | _ => none
  | 7 => fun k => match k with
    | 0 => some 8
    | 1 => some 9
    | 3 => some 10
    | 4 => some 11
    | 5 => some 12
    | _ => none
  | 13 => fun k => match k with
    | 0 => some 14
    | 1 => some 15
    | _ => none
  | 17 => fun k => match k with
    | 3 => some 18
    | 4 => some 19
    | 5 => some 20
    | 6 => some 21
    | 7 => some 22
    | 8 => some 23
    | 9 => some 24
    | 10 => some 25
    | 11 => some 26
    | 12 => some 27
    | 15 => some 28
    | 16 => some 29
    | 17 => some 30
    | 18 => some 31
    | 19 => some 32
    | 21 => some 33
    | 22 => some 34
    | 23 => some 35
    | 24 => some 36
    | _ => none
  | _ => fun _ => none
/-- kind and references of cell j of a listener whose first place is a - j -/
def z_lt (j : Nat) : Nat × Nat := match j with
  | 0 => (2, 0)
  | 1 => (10, 52)
  | 2 => (1, 0)
  | 3 => (10, 10)
  | _ => (11, 10)
def z_lr (j a : Nat) : Nat → Option Nat := match j with
  | 0 => fun k => match k with
    | 1 => some (a + 1)
    | 2 => some (a + 2)
    | _ => none
  | 2 => fun k => match k with
    | 0 => some (a + 1)
    | 1 => some (a + 2)
    | _ => none
  | _ => fun _ => none
/-- the listener's number and cell of a place from 37 on -/
def z_ln (a : Nat) : Nat := if a < 42 then 0 else (a - 38) / 5
def z_lj (a : Nat) : Nat := if a < 42 then a - 37 else (a - 38) % 5
def z_n (nl : Nat) : Nat := if nl = 0 then 36 else 37 + 5 * nl
def z_sT (nl a : Nat) : Nat × Nat := if a < 37 then z_t0 a else if a = 42 then (if nl = 0 then (99, 0) else (13, 10)) else if z_ln a < nl then z_lt (z_lj a) else (99, 0)
def z_sR (nl a : Nat) : Nat → Option Nat := if a < 37 then z_r0 nl a else if a = 42 then (if nl = 0 then fun _ => none else fun k => if k < nl then some (z_pl k) else none) else if z_ln a < nl then z_lr (z_lj a) a else fun _ => none
def z_s (nl : Nat) : zH := (z_n nl, z_sT nl, z_sR nl)
theorem z_pl_j (l : Nat) {j : Nat} (hj : j < 5) : ¬ z_pl l + j < 37 ∧ z_pl l + j ≠ 42 ∧ z_ln (z_pl l + j) = l ∧ z_lj (z_pl l + j) = j := by
  unfold z_pl z_ln z_lj
  by_cases h : l = 0
  · subst h
    simp only [if_true]
    refine ⟨by omega, by omega, by rw [if_pos (by omega)], by rw [if_pos (by omega)]; omega⟩
  · simp only [if_neg h]
    refine ⟨by omega, by omega, by rw [if_neg (by omega)]; omega, by rw [if_neg (by omega)]; omega⟩
theorem z_sT_l {nl l j : Nat} (hl : l < nl) (hj : j < 5) : z_sT nl (z_pl l + j) = z_lt j := by
  obtain ⟨h1, h2, h3, h4⟩ := z_pl_j l hj
  unfold z_sT
  rw [if_neg h1, if_neg h2, h3, if_pos hl, h4]
theorem z_sR_l {nl l j : Nat} (hl : l < nl) (hj : j < 5) : z_sR nl (z_pl l + j) = z_lr j (z_pl l + j) := by
  obtain ⟨h1, h2, h3, h4⟩ := z_pl_j l hj
  unfold z_sR
  rw [if_neg h1, if_neg h2, h3, if_pos hl, h4]
theorem z_ls {nl l : Nat} (hl : l < nl) : zLs (z_s nl) (z_pl l) := by
  refine ⟨?_, ?_, ⟨?_, ?_, ?_, ?_, ?_⟩, ?_, ?_⟩
  · exact congrArg Prod.fst (z_sT_l (j := 0) hl (by decide))
  · exact z_sT_l (j := 1) hl (by decide)
  · exact congrArg Prod.fst (z_sT_l (j := 2) hl (by decide))
  · exact z_sT_l (j := 3) hl (by decide)
  · exact z_sT_l (j := 4) hl (by decide)
  · exact congrFun (z_sR_l (j := 2) hl (by decide)) 0
  · exact congrFun (z_sR_l (j := 2) hl (by decide)) 1
  · exact congrFun (z_sR_l (j := 0) hl (by decide)) 1
  · exact congrFun (z_sR_l (j := 0) hl (by decide)) 2
theorem z_s13 (nl : Nat) : zKn (z_s nl) 13 := ⟨rfl, rfl, rfl, rfl, rfl⟩
theorem z_pl_ne {l l' : Nat} (h : l ≠ l') : z_pl l + 4 < z_pl l' ∨ z_pl l' + 4 < z_pl l := by
  unfold z_pl
  by_cases h1 : l = 0 <;> by_cases h2 : l' = 0
  · omega
  · rw [if_pos h1, if_neg h2]; omega
  · rw [if_neg h1, if_pos h2]; omega
  · rw [if_neg h1, if_neg h2]; omega
theorem z_pl_37 (l : Nat) : 37 ≤ z_pl l := by
  unfold z_pl
  split <;> omega
/-! the list -/
theorem m_size (d : Nat) (nl : Nat) (I : zI) (J : zJ) (hn : I 3 2 = nI nl) : z_C yJx4a65c_size_8abf5 cJx4a65c_size_8abf5 1 (some .int) d [.ref 3] (z_s nl) I J 0 0 (z_q (some (.int (nI nl))) (z_s nl) I J) := by
  refine z_C.of (by decide) (Nat.le_of_ble_eq_true rfl) fun K E X => ?_
  refine v_aload_n E dJx4a65c_size_8abf5_0 rfl ?_
  refine v_getIE E f_Jx4a65c_48 dJx4a65c_size_8abf5_1 rfl rfl hn ?_
  exact v_iret E X dJx4a65c_size_8abf5_4 z_qq
theorem m_check3 (d : Nat) (h : zH) (I : zI) (J : zJ) (l n : Nat) (hl : l < n) (hn : n < 2 ^ 31) : z_C yJ3_checkIndex_8e157 cJ3_checkIndex_8e157 3 (some .int) d [.int (nI l), .int (nI n), .null] h I J 0 0 (z_q (some (.int (nI l))) h I J) := by
  refine z_C.of (by decide) (Nat.le_of_ble_eq_true rfl) fun K E X => ?_
  refine v_iload_n E dJ3_checkIndex_8e157_0 rfl ?_
  refine v_if_lt (tgt := 9) E dJ3_checkIndex_8e157_1 (by decide)  (fun c => ?_) (fun c => ?_)
  · exact absurd c (nI_pos (by omega))
  · refine v_iload_n E dJ3_checkIndex_8e157_4 rfl ?_
    refine v_iload_n E dJ3_checkIndex_8e157_5 rfl ?_
    refine v_icmp_ltN (tgt := 16) E dJ3_checkIndex_8e157_6 (by decide) (by omega) (by omega) (fun c1 => ?_) (fun c1 => ?_)
    · refine v_iload_n E dJ3_checkIndex_8e157_16 rfl ?_
      exact v_iret E X dJ3_checkIndex_8e157_17 z_qq
    · exact absurd c1 (by omega)
theorem m_check (d : Nat) (h : zH) (I : zI) (J : zJ) (l n : Nat) (hl : l < n) (hn : n < 2 ^ 31) : z_C yJ15_checkIndex_7cf53 cJ15_checkIndex_7cf53 2 (some .int) (d + 1) [.int (nI l), .int (nI n)] h I J 0 0 (z_q (some (.int (nI l))) h I J) := by
  refine z_C.of (by decide) (Nat.le_of_ble_eq_true rfl) fun K E X => ?_
  refine v_iload_n E dJ15_checkIndex_7cf53_0 rfl ?_
  refine v_iload_n E dJ15_checkIndex_7cf53_1 rfl ?_
  refine v_null E dJ15_checkIndex_7cf53_2 ?_
  refine v_callS1 E dJ15_checkIndex_7cf53_3 k_J15_105 Y_J3_checkIndex_8e157 (m_check3 d h I J l n hl hn) rfl rfl (Nat.le_of_ble_eq_true rfl) ?_
  exact v_iret E X dJ15_checkIndex_7cf53_6 z_qq
theorem z_42 {nl l : Nat} (hl : l < nl) : z_sT nl 42 = (13, 10) ∧ z_sR nl 42 l = some (z_pl l) ∧ z_sR nl 3 1 = some 42 := by
  have h0 : nl ≠ 0 := by omega
  refine ⟨?_, ?_, ?_⟩
  · show (if nl = 0 then ((99, 0) : Nat × Nat) else (13, 10)) = _
    rw [if_neg h0]
  · show (if nl = 0 then (fun _ => none) else fun k => if k < nl then some (z_pl k) else none : Nat → Option Nat) l = _
    rw [if_neg h0]
    show (if l < nl then some (z_pl l) else none) = _
    rw [if_pos hl]
  · show (if nl = 0 then some 0 else some 42) = _
    rw [if_neg h0]
theorem m_elementData (d : Nat) (nl : Nat) (I : zI) (J : zJ) (l : Nat) (hl : l < nl) (h10 : nl ≤ 10) : z_C yJx4a65c_elementData_915e3 cJx4a65c_elementData_915e3 2 (some (.object "java/lang/Object")) d [.ref 3, .int (nI l)] (z_s nl) I J 0 0 (z_q (some (.ref (z_pl l))) (z_s nl) I J) := by
  obtain ⟨e1, e2, e3⟩ := z_42 hl
  refine z_C.of (by decide) (Nat.le_of_ble_eq_true rfl) fun K E X => ?_
  refine v_aload_n E dJx4a65c_elementData_915e3_0 rfl ?_
  refine v_getR E f_Jx4a65c_9 dJx4a65c_elementData_915e3_1 rfl rfl e3 ?_
  refine v_iload_n E dJx4a65c_elementData_915e3_4 rfl ?_
  refine v_aaload E dJx4a65c_elementData_915e3_5 e1 rfl (by omega) (by decide) e2 ?_
  exact v_aret E (by first | exact Or.inl ⟨_, rfl⟩ | exact Or.inr ⟨_, rfl⟩) X dJx4a65c_elementData_915e3_6 z_qq
theorem m_get (d : Nat) (nl : Nat) (I : zI) (J : zJ) (hn : I 3 2 = nI nl) (l : Nat) (hl : l < nl) (h10 : nl ≤ 10) : z_C yJx4a65c_get_915e3 cJx4a65c_get_915e3 2 (some (.object "java/lang/Object")) (d + 2) [.ref 3, .int (nI l)] (z_s nl) I J 0 0 (z_q (some (.ref (z_pl l))) (z_s nl) I J) := by
  refine z_C.of (by decide) (Nat.le_of_ble_eq_true rfl) fun K E X => ?_
  refine v_iload_n E dJx4a65c_get_915e3_0 rfl ?_
  refine v_aload_n E dJx4a65c_get_915e3_1 rfl ?_
  refine v_getIE E f_Jx4a65c_48 dJx4a65c_get_915e3_2 rfl rfl hn ?_
  refine v_callS1 E dJx4a65c_get_915e3_5 k_Jx4a65c_118 Y_J15_checkIndex_7cf53 (m_check d (z_s nl) I J l nl hl (by omega)) rfl rfl (Nat.le_of_ble_eq_true rfl) ?_
  refine v_pop E dJx4a65c_get_915e3_8 rfl ?_
  refine v_aload_n E dJx4a65c_get_915e3_9 rfl ?_
  refine v_iload_n E dJx4a65c_get_915e3_10 rfl ?_
  refine v_callV1 E dJx4a65c_get_915e3_11 k_Jx4a65c_123 Y_Jx4a65c_elementData_915e3 (m_elementData (d + 1) nl I J l hl h10) rfl rfl rfl (Nat.le_of_ble_eq_true rfl) ?_
  exact v_aret E (by first | exact Or.inl ⟨_, rfl⟩ | exact Or.inr ⟨_, rfl⟩) X dJx4a65c_get_915e3_14 z_qq
end
section
/-! WHAT A STATE IS: pieces; listeners (kind, what each wants, how many sums it has, which, off); calls (mask, by whom heard) -/
abbrev zS : Type := (Nat × (Nat → Int64)) × (Nat × (Nat → Nat) × (Nat → Nat) × (Nat → Nat) × (Nat → Nat → Nat) × (Nat → Bool)) × (Nat × (Nat → Nat) × (Nat → Nat))
abbrev s_np (s : zS) : Nat := s.1.1
abbrev s_pv (s : zS) : Nat → Int64 := s.1.2
abbrev s_nl (s : zS) : Nat := s.2.1.1
abbrev s_kd (s : zS) : Nat → Nat := s.2.1.2.1
abbrev s_wt (s : zS) : Nat → Nat := s.2.1.2.2.1
abbrev s_hm (s : zS) : Nat → Nat := s.2.1.2.2.2.1
abbrev s_hs (s : zS) : Nat → Nat → Nat := s.2.1.2.2.2.2.1
abbrev s_of (s : zS) : Nat → Bool := s.2.1.2.2.2.2.2
abbrev s_nc (s : zS) : Nat := s.2.2.1
abbrev s_cm (s : zS) : Nat → Nat := s.2.2.2.1
abbrev s_hb (s : zS) : Nat → Nat := s.2.2.2.2
/-- the rows that a listener has, then the calls that it heard, the newest first -/
def r_has (hs : Nat → Nat) : Nat → List Nat
  | 0 => []
  | k + 1 => hs k :: r_has hs k
def r_call (cm hb : Nat → Nat) (l : Nat) (base : List Nat) : Nat → List Nat
  | 0 => base
  | c + 1 => if (hb c).testBit l then cm c :: r_call cm hb l base c else r_call cm hb l base c
def s_base (s : zS) (l : Nat) : List Nat := r_has (s_hs s l) (s_hm s l)
/-- the rows of listener l when c calls had been said -/
def s_rowsAt (s : zS) (l c : Nat) : List Nat := r_call (s_cm s) (s_hb s) l (s_base s l) c
def s_rows (s : zS) (l : Nat) : List Nat := s_rowsAt s l (s_nc s)
/-- the pieces that a listener has as single ones; the calls that it heard -/
def q_hp (hs : Nat → Nat) : Nat → Nat
  | 0 => 0
  | k + 1 => if q_pop (hs k) = 1 then q_hp hs k ||| hs k else q_hp hs k
def q_hc (hb : Nat → Nat) (l : Nat) : Nat → Nat
  | 0 => 0
  | c + 1 => if (hb c).testBit l then q_hc hb l c ||| 2 ^ c else q_hc hb l c
def s_hp (s : zS) (l : Nat) : Nat := q_hp (s_hs s l) (s_hm s l)
def s_hc (s : zS) (l : Nat) : Nat := q_hc (s_hb s) l (s_nc s)
def s_hear (s : zS) (c : Nat) : Nat := l_cnt (fun l => (s_hb s c).testBit l) 10
def s_newc (s : zS) (c : Nat) : Nat := l_cnt (fun l => (s_hb s c).testBit l && !l_sp (s_rowsAt s l c) (s_cm s c)) 10
/-- what holds in every state -/
def s_wf (s : zS) : Prop := s_np s ≤ 10 ∧ s_nl s ≤ 10 ∧ s_nc s ≤ 40 ∧ (∀ l, s_kd s l < 5) ∧ (∀ l, s_wt s l < 2 ^ s_np s) ∧ (∀ l, s_hm s l ≤ 12) ∧ (∀ l k, k < s_hm s l → 0 < s_hs s l k ∧ s_hs s l k < 2 ^ s_np s) ∧ (∀ c, c < s_nc s → 0 < s_cm s c ∧ s_cm s c < 2 ^ s_np s ∧ s_hb s c < 2 ^ s_nl s) ∧ (∀ l, s_nl s ≤ l → s_wt s l = 0 ∧ s_hm s l = 0 ∧ s_of s l = false) ∧ ∀ l, s_kd s l = 2 → s_wt s l = 0
/-- what the class's cells hold -/
def cI (s : zS) (I : zI) (J : zJ) : Prop := I 1 1 = nI (s_np s) ∧ I 1 6 = nI (s_nc s) ∧ I 3 2 = nI (s_nl s) ∧ (∀ p, p < s_np s → J 2 p = s_pv s p) ∧ (∀ c, c < s_nc s → I 4 c = nI (s_cm s c)) ∧ (∀ c, c < 40 → I 5 c = nI (if c < s_nc s then s_hear s c else 0)) ∧ (∀ c, c < 40 → I 6 c = nI (if c < s_nc s then s_newc s c else 0)) ∧ ∀ l, l < s_nl s → lsI I J (z_pl l) (s_kd s l) (s_rows s l) (s_hm s l) (s_hp s l) (s_wt s l) (s_hc s l) (s_of s l)
theorem p2_10 {n m : Nat} (h : n ≤ 10) (hm : m < 2 ^ n) : m < 1024 := Nat.lt_of_lt_of_le hm (Nat.pow_le_pow_right (by decide) h)
theorem r_has_len (hs : Nat → Nat) : ∀ k, (r_has hs k).length = k
  | 0 => rfl
  | k + 1 => by simp [r_has, r_has_len hs k]
theorem r_has_mem {hs : Nat → Nat} {r : Nat} : ∀ {k : Nat}, r ∈ r_has hs k → ∃ j, j < k ∧ r = hs j
  | k + 1, h => by
    rcases List.mem_cons.mp h with h | h
    · exact ⟨k, by omega, h⟩
    · obtain ⟨j, h1, h2⟩ := r_has_mem h
      exact ⟨j, by omega, h2⟩
theorem r_call_mem {cm hb : Nat → Nat} {l r : Nat} {base : List Nat} : ∀ {c : Nat}, r ∈ r_call cm hb l base c → r ∈ base ∨ ∃ j, j < c ∧ r = cm j
  | 0, h => Or.inl h
  | c + 1, h => by
    simp only [r_call] at h
    split at h
    · rcases List.mem_cons.mp h with h | h
      · exact Or.inr ⟨c, by omega, h⟩
      · rcases r_call_mem h with h | ⟨j, h1, h2⟩
        · exact Or.inl h
        · exact Or.inr ⟨j, by omega, h2⟩
    · rcases r_call_mem h with h | ⟨j, h1, h2⟩
      · exact Or.inl h
      · exact Or.inr ⟨j, by omega, h2⟩
theorem r_call_len (cm hb : Nat → Nat) (l : Nat) (base : List Nat) : ∀ c, base.length ≤ (r_call cm hb l base c).length ∧ (r_call cm hb l base c).length ≤ base.length + c
  | 0 => ⟨Nat.le_refl _, Nat.le_refl _⟩
  | c + 1 => by
    have ih := r_call_len cm hb l base c
    simp only [r_call]
    split
    · simp only [List.length_cons]
      omega
    · omega
theorem s_rowsAt_mem {s : zS} (hw : s_wf s) {l c r : Nat} (hc : c ≤ s_nc s) (h : r ∈ s_rowsAt s l c) : 0 < r ∧ r < 2 ^ s_np s := by
  obtain ⟨w1, w2, w3, w4, w5, w6, w7, w8, w9, w10⟩ := hw
  rcases r_call_mem h with h | ⟨j, h1, h2⟩
  · obtain ⟨j, h1, h2⟩ := r_has_mem h
    rw [h2]
    exact w7 l j h1
  · rw [h2]
    exact ⟨(w8 j (by omega)).1, (w8 j (by omega)).2.1⟩
theorem s_rows_1024 {s : zS} (hw : s_wf s) (l : Nat) {c : Nat} (hc : c ≤ s_nc s) : ∀ r ∈ s_rowsAt s l c, r < 1024 := fun _ h => p2_10 hw.1 (s_rowsAt_mem hw hc h).2
theorem s_rows_len {s : zS} (hw : s_wf s) (l c : Nat) : s_hm s l ≤ (s_rowsAt s l c).length ∧ (s_rowsAt s l c).length ≤ s_hm s l + c := by
  have h := r_call_len (s_cm s) (s_hb s) l (s_base s l) c
  have e : (s_base s l).length = s_hm s l := r_has_len _ _
  rw [e] at h
  exact h
theorem q_hp_lt {hs : Nat → Nat} {n : Nat} : ∀ {k : Nat}, (∀ j, j < k → hs j < 2 ^ n) → q_hp hs k < 2 ^ n
  | 0, _ => Nat.two_pow_pos n
  | k + 1, h => by
    simp only [q_hp]
    split
    · exact q_or_lt (q_hp_lt (fun j hj => h j (by omega))) (h k (by omega))
    · exact q_hp_lt (fun j hj => h j (by omega))
theorem s_hp_lt {s : zS} (hw : s_wf s) (l : Nat) : s_hp s l < 2 ^ s_np s := q_hp_lt (fun j hj => (hw.2.2.2.2.2.2.1 l j hj).2)
theorem s_lsB {s : zS} (hw : s_wf s) (l : Nat) : lsB (s_kd s l) (s_rows s l) (s_hm s l) (s_hp s l) (s_wt s l) := by
  have hl := s_rows_len hw l (s_nc s)
  have hp := s_hp_lt hw l
  have h1 := s_rows_1024 hw l (Nat.le_refl (s_nc s))
  obtain ⟨w1, w2, w3, w4, w5, w6, w7, w8, w9, w10⟩ := hw
  have h6 := w6 l
  have hl1 := hl.1
  have hl2 := hl.2
  exact ⟨w4 l, h1, by show (s_rowsAt s l (s_nc s)).length ≤ 52; omega, hl.1, p2_10 w1 hp, p2_10 w1 (w5 l)⟩
/-! numbers out of the script -/
def z_isx (x : Int32) (n : Nat) : Bool := decide (¬ x < 0 ∧ x < nI n)
theorem z_isx_true {x : Int32} {n : Nat} (hn : n < 2 ^ 31) (h : z_isx x n = true) : ∃ j, j < n ∧ x = nI j := by
  obtain ⟨h1, h2⟩ := of_decide_eq_true h
  rcases pk_ix x hn with h3 | h3 | h3
  · exact absurd h3 h1
  · exact absurd h2 (Int32.not_lt.mpr h3)
  · exact h3
theorem z_isx_nI {j n : Nat} (hj : j < 2 ^ 31) (hn : n < 2 ^ 31) : z_isx (nI j) n = decide (j < n) := by
  unfold z_isx
  by_cases h : j < n
  · rw [decide_eq_true h, decide_eq_true ⟨nI_pos hj, (nI_ltI hj hn).mpr h⟩]
  · rw [decide_eq_false h, decide_eq_false (fun z => h ((nI_ltI hj hn).mp z.2))]
/-- a mask: not 0, and no bit from np on -/
def z_msk (x : Int32) (np : Nat) : Bool := decide (¬ x ≤ 0 ∧ x < nI (2 ^ np))
theorem z_msk_true {x : Int32} {np : Nat} (hn : np ≤ 10) (h : z_msk x np = true) : ∃ m, 0 < m ∧ m < 2 ^ np ∧ x = nI m := by
  obtain ⟨h1, h2⟩ := of_decide_eq_true h
  have hp : 2 ^ np < 2 ^ 31 := Nat.pow_lt_pow_right (by decide) (by omega)
  rcases pk_ix x hp with h3 | h3 | ⟨m, h3, h4⟩
  · exact absurd (Int32.le_of_lt h3) h1
  · exact absurd h2 (Int32.not_lt.mpr h3)
  · refine ⟨m, Nat.pos_of_ne_zero (fun e => h1 ?_), h3, h4⟩
    rw [h4, e]
    decide
theorem q_df_all {n np : Nat} : q_df n (2 ^ np - 1) = 0 ↔ n < 2 ^ np := by
  constructor
  · intro h
    apply q_lt2
    intro i hi
    have : (q_df n (2 ^ np - 1)).testBit i = false := by rw [h]; simp
    rw [q_df_bit, Nat.testBit_two_pow_sub_one] at this
    simpa [show ¬ i < np by omega] using this
  · intro h
    apply Nat.eq_of_testBit_eq
    intro i
    rw [q_df_bit, Nat.testBit_two_pow_sub_one]
    by_cases hi : i < np
    · simp [hi]
    · rw [q_hi h (by omega)]
      simp
theorem z_msk_and {x : Int32} {np : Nat} (hn : np ≤ 10) : z_msk x np = decide (¬ x = 0 ∧ x &&& (nI (2 ^ np - 1) ^^^ -1) = 0) := by
  obtain ⟨n, hn1, rfl⟩ := q_of x
  have hp : 2 ^ np ≤ 2 ^ 10 := Nat.pow_le_pow_right (by decide) hn
  rw [q_dif]
  have hdl : q_df n (2 ^ np - 1) < 2 ^ 32 := q_df_lt hn1
  unfold z_msk
  by_cases h : n < 2 ^ np
  · have e1 : q_df n (2 ^ np - 1) = 0 := q_df_all.mpr h
    rw [e1]
    by_cases h0 : n = 0
    · subst h0
      rw [decide_eq_false (fun z => z.1 (by decide)), decide_eq_false (fun z => z.1 rfl)]
    · rw [decide_eq_true ⟨nI_nle (by omega) (by omega), (nI_ltI (by omega) (by omega)).mpr h⟩, decide_eq_true ⟨nI_ne0 (by omega) (by omega), rfl⟩]
  · have e1 : q_df n (2 ^ np - 1) ≠ 0 := fun z => h (q_df_all.mp z)
    have e2 : ¬ (nI (q_df n (2 ^ np - 1)) = 0) := fun z => e1 (q_eqN hdl (by decide) z)
    have r1 : decide (¬ nI n = 0 ∧ nI (q_df n (2 ^ np - 1)) = 0) = false := decide_eq_false (fun z => e2 z.2)
    rw [r1]
    apply decide_eq_false
    rintro ⟨h1, h2⟩
    rcases pk_ix (nI n) (show 2 ^ np < 2 ^ 31 by omega) with h3 | h3 | ⟨m, h3, h4⟩
    · exact h1 (Int32.le_of_lt h3)
    · exact absurd h2 (Int32.not_lt.mpr h3)
    · have := q_eqN hn1 (by omega) h4
      omega
end
section
/-! OneCall's own helpers -/
theorem v_cc {nl l : Nat} (hl : l < nl) : ((z_s nl).2.1 (z_pl l)).1 = 2 := (z_ls hl).1
theorem m_isPiece (d nl np : Nat) (I : zI) (J : zJ) (hn : I 1 1 = nI np) (x : Int32) : z_C yX3_isPiece cX3_isPiece 2 (some .boolean) d [.ref 1, .int x] (z_s nl) I J 0 0 (z_q (some (.int (nI (z_isx x np).toNat))) (z_s nl) I J) := by
  refine z_C.of (by decide) (Nat.le_of_ble_eq_true rfl) fun K E X => ?_
  have no : z_isx x np = false → z_V K 16 [(0, .ref 1), (1, .int x)] [] (z_s nl) I J 0 0 := by
    intro e
    refine v_iconst (v := nI 0) E dX3_isPiece_16 (by decide) ?_
    exact v_zret E X dX3_isPiece_17 (by first | exact Or.inl rfl | exact Or.inr rfl) (z_qi (by rw [e]; rfl))
  refine v_iload_n E dX3_isPiece_0 rfl ?_
  refine v_if_lt (tgt := 16) E dX3_isPiece_1 (by decide)  (fun c => ?_) (fun c => ?_)
  · exact no (decide_eq_false (fun z => z.1 c))
  · refine v_iload_n E dX3_isPiece_4 rfl ?_
    refine v_aload_n E dX3_isPiece_5 rfl ?_
    refine v_getIE E f_X3_51 dX3_isPiece_6 rfl rfl hn ?_
    refine v_icmp_ge (tgt := 16) E dX3_isPiece_9 (by decide)  (fun c1 => ?_) (fun c1 => ?_)
    · exact no (decide_eq_false (fun z => absurd z.2 (Int32.not_lt.mpr c1)))
    · refine v_iconst (v := nI 1) E dX3_isPiece_12 (by decide) ?_
      refine v_goto (tgt := 17) E dX3_isPiece_13 (by decide) ?_
      have e : z_isx x np = true := decide_eq_true ⟨c, Int32.not_le.mp c1⟩
      exact v_zret E X dX3_isPiece_17 (by first | exact Or.inl rfl | exact Or.inr rfl) (z_qi (by rw [e]; rfl))
theorem m_isCall (d nl nc : Nat) (I : zI) (J : zJ) (hn : I 1 6 = nI nc) (x : Int32) : z_C yX3_isCall cX3_isCall 2 (some .boolean) d [.ref 1, .int x] (z_s nl) I J 0 0 (z_q (some (.int (nI (z_isx x nc).toNat))) (z_s nl) I J) := by
  refine z_C.of (by decide) (Nat.le_of_ble_eq_true rfl) fun K E X => ?_
  have no : z_isx x nc = false → z_V K 16 [(0, .ref 1), (1, .int x)] [] (z_s nl) I J 0 0 := by
    intro e
    refine v_iconst (v := nI 0) E dX3_isCall_16 (by decide) ?_
    exact v_zret E X dX3_isCall_17 (by first | exact Or.inl rfl | exact Or.inr rfl) (z_qi (by rw [e]; rfl))
  refine v_iload_n E dX3_isCall_0 rfl ?_
  refine v_if_lt (tgt := 16) E dX3_isCall_1 (by decide)  (fun c => ?_) (fun c => ?_)
  · exact no (decide_eq_false (fun z => z.1 c))
  · refine v_iload_n E dX3_isCall_4 rfl ?_
    refine v_aload_n E dX3_isCall_5 rfl ?_
    refine v_getIE E f_X3_47 dX3_isCall_6 rfl rfl hn ?_
    refine v_icmp_ge (tgt := 16) E dX3_isCall_9 (by decide)  (fun c1 => ?_) (fun c1 => ?_)
    · exact no (decide_eq_false (fun z => absurd z.2 (Int32.not_lt.mpr c1)))
    · refine v_iconst (v := nI 1) E dX3_isCall_12 (by decide) ?_
      refine v_goto (tgt := 17) E dX3_isCall_13 (by decide) ?_
      have e : z_isx x nc = true := decide_eq_true ⟨c, Int32.not_le.mp c1⟩
      exact v_zret E X dX3_isCall_17 (by first | exact Or.inl rfl | exact Or.inr rfl) (z_qi (by rw [e]; rfl))
theorem m_isListener (d nl : Nat) (I : zI) (J : zJ) (hn : I 3 2 = nI nl) (x : Int32) : z_C yX3_isListener cX3_isListener 2 (some .boolean) (d + 1) [.ref 1, .int x] (z_s nl) I J 0 0 (z_q (some (.int (nI (z_isx x nl).toNat))) (z_s nl) I J) := by
  refine z_C.of (by decide) (Nat.le_of_ble_eq_true rfl) fun K E X => ?_
  have no : z_isx x nl = false → z_V K 19 [(0, .ref 1), (1, .int x)] [] (z_s nl) I J 0 0 := by
    intro e
    refine v_iconst (v := nI 0) E dX3_isListener_19 (by decide) ?_
    exact v_zret E X dX3_isListener_20 (by first | exact Or.inl rfl | exact Or.inr rfl) (z_qi (by rw [e]; rfl))
  refine v_iload_n E dX3_isListener_0 rfl ?_
  refine v_if_lt (tgt := 19) E dX3_isListener_1 (by decide)  (fun c => ?_) (fun c => ?_)
  · exact no (decide_eq_false (fun z => z.1 c))
  · refine v_iload_n E dX3_isListener_4 rfl ?_
    refine v_aload_n E dX3_isListener_5 rfl ?_
    refine v_getR E f_X3_16 dX3_isListener_6 rfl rfl rfl ?_
    refine v_callV1 E dX3_isListener_9 k_X3_58 Y_Jx4a65c_size_8abf5 (m_size d nl I J hn) rfl rfl rfl (Nat.le_of_ble_eq_true rfl) ?_
    refine v_icmp_ge (tgt := 19) E dX3_isListener_12 (by decide)  (fun c1 => ?_) (fun c1 => ?_)
    · exact no (decide_eq_false (fun z => absurd z.2 (Int32.not_lt.mpr c1)))
    · refine v_iconst (v := nI 1) E dX3_isListener_15 (by decide) ?_
      refine v_goto (tgt := 20) E dX3_isListener_16 (by decide) ?_
      have e : z_isx x nl = true := decide_eq_true ⟨c, Int32.not_le.mp c1⟩
      exact v_zret E X dX3_isListener_20 (by first | exact Or.inl rfl | exact Or.inr rfl) (z_qi (by rw [e]; rfl))
theorem m_allPieces (d nl np : Nat) (I : zI) (J : zJ) (hn : I 1 1 = nI np) (h10 : np ≤ 10) : z_C yX3_allPieces cX3_allPieces 1 (some .int) d [.ref 1] (z_s nl) I J 0 0 (z_q (some (.int (nI (2 ^ np - 1)))) (z_s nl) I J) := by
  have hp : 0 < 2 ^ np := Nat.two_pow_pos np
  refine z_C.of (by decide) (Nat.le_of_ble_eq_true rfl) fun K E X => ?_
  refine v_iconst (v := nI 1) E dX3_allPieces_0 (by decide) ?_
  refine v_aload_n E dX3_allPieces_1 rfl ?_
  refine v_getIE E f_X3_51 dX3_allPieces_2 rfl rfl hn ?_
  refine v_ishlN E dX3_allPieces_5 (by omega) ?_
  refine v_iconst (v := nI 1) E dX3_allPieces_6 (by decide) ?_
  refine v_isubN E dX3_allPieces_7 (by omega) ?_
  exact v_iret E X dX3_allPieces_8 (z_qi (by rw [Nat.one_mul]))
theorem m_isMask (d nl np : Nat) (I : zI) (J : zJ) (hn : I 1 1 = nI np) (h10 : np ≤ 10) (x : Int32) : z_C yX3_isMask cX3_isMask 2 (some .boolean) (d + 1) [.ref 1, .int x] (z_s nl) I J 0 0 (z_q (some (.int (nI (z_msk x np).toNat))) (z_s nl) I J) := by
  rw [z_msk_and h10]
  refine z_C.of (by decide) (Nat.le_of_ble_eq_true rfl) fun K E X => ?_
  have no : decide (¬ x = 0 ∧ x &&& (nI (2 ^ np - 1) ^^^ -1) = 0) = false → z_V K 19 [(0, .ref 1), (1, .int x)] [] (z_s nl) I J 0 0 := by
    intro e
    refine v_iconst (v := nI 0) E dX3_isMask_19 (by decide) ?_
    exact v_zret E X dX3_isMask_20 (by first | exact Or.inl rfl | exact Or.inr rfl) (z_qi (by rw [e]; rfl))
  refine v_iload_n E dX3_isMask_0 rfl ?_
  refine v_if_eq (tgt := 19) E dX3_isMask_1 (by decide)  (fun c => ?_) (fun c => ?_)
  · exact no (decide_eq_false (fun z => z.1 c))
  · refine v_iload_n E dX3_isMask_4 rfl ?_
    refine v_aload_n E dX3_isMask_5 rfl ?_
    refine v_callV1 E dX3_isMask_6 k_X3_147 Y_X3_allPieces (m_allPieces d nl np I J hn h10) rfl rfl rfl (Nat.le_of_ble_eq_true rfl) ?_
    refine v_iconst (v := -1) E dX3_isMask_9 (by decide) ?_
    refine v_ixor E dX3_isMask_10 ?_
    refine v_iand E dX3_isMask_11 ?_
    refine v_if_ne (tgt := 19) E dX3_isMask_12 (by decide)  (fun c1 => ?_) (fun c1 => ?_)
    · exact no (decide_eq_false (fun z => c1 z.2))
    · refine v_iconst (v := nI 1) E dX3_isMask_15 (by decide) ?_
      refine v_goto (tgt := 20) E dX3_isMask_16 (by decide) ?_
      have e : decide (¬ x = 0 ∧ x &&& (nI (2 ^ np - 1) ^^^ -1) = 0) = true := decide_eq_true ⟨c, c1⟩
      exact v_zret E X dX3_isMask_20 (by first | exact Or.inl rfl | exact Or.inr rfl) (z_qi (by rw [e]; rfl))
/-- the exclusive or of the bytes of a mask's pieces -/
def q_sum (pv : Nat → Int64) (m : Nat) : Nat → Int64
  | 0 => lN 0
  | k + 1 => if m.testBit k then q_sum pv m k ^^^ pv k else q_sum pv m k
theorem m_bytesOf (d nl np : Nat) (I : zI) (J : zJ) (hn : I 1 1 = nI np) (h10 : np ≤ 10) (pv : Nat → Int64) (hp : ∀ p, p < np → J 2 p = pv p) (m : Nat) (hm : m < 1024) : z_C yX3_bytesOf cX3_bytesOf 5 (some .long) (d + 1) [.ref 1, .int (nI m)] (z_s nl) I J 0 0 (z_q (some (.long (q_sum pv m np))) (z_s nl) I J) := by
  refine z_C.of (by decide) (Nat.le_of_ble_eq_true rfl) fun K E X => ?_
  refine v_lconst (v := lN 0) E dX3_bytesOf_0 (by decide) ?_
  refine v_lstore_n E dX3_bytesOf_1 (by decide) ?_
  refine v_iconst (v := nI 0) E dX3_bytesOf_2 (by decide) ?_
  refine v_istore E dX3_bytesOf_3 (by decide) ?_
  have loop : ∀ k, k ≤ np → z_V K 5 [(0, .ref 1), (1, .int (nI m)), (2, .long (q_sum pv m k)), (4, .int (nI k))] [] (z_s nl) I J 0 0 := by
    refine z_for np ?_ (fun k hk1 ih => ?_)
    · refine v_iload E dX3_bytesOf_5 rfl ?_
      refine v_aload_n E dX3_bytesOf_7 rfl ?_
      refine v_getIE E f_X3_51 dX3_bytesOf_8 rfl rfl hn ?_
      refine v_icmp_geN (tgt := 39) E dX3_bytesOf_11 (by decide) (by omega) (by omega) (fun c => ?_) (fun c => ?_)
      · refine v_lload_n E dX3_bytesOf_39 rfl ?_
        exact v_lret E X dX3_bytesOf_40 z_qq
      · exact absurd c (by omega)
    · refine v_iload E dX3_bytesOf_5 rfl ?_
      refine v_aload_n E dX3_bytesOf_7 rfl ?_
      refine v_getIE E f_X3_51 dX3_bytesOf_8 rfl rfl hn ?_
      refine v_icmp_geN (tgt := 39) E dX3_bytesOf_11 (by decide) (by omega) (by omega) (fun c => ?_) (fun c => ?_)
      · exact absurd c (by omega)
      · refine v_iload E dX3_bytesOf_14 rfl ?_
        refine v_iload_n E dX3_bytesOf_16 rfl ?_
        refine v_callS1 E dX3_bytesOf_17 k_X3_84 Y_X3_isIn (m_isIn d (z_s nl) I J k m (by omega) (by omega)) rfl rfl (Nat.le_of_ble_eq_true rfl) ?_
        have e : q_sum pv m (k + 1) = if m.testBit k then q_sum pv m k ^^^ pv k else q_sum pv m k := rfl
        refine v_if_eqB (tgt := 33) E dX3_bytesOf_20 (by decide)  (fun c2 => ?_) (fun c2 => ?_)
        · rw [c2] at e
          refine v_inc E dX3_bytesOf_33 rfl (by decide) ?_
          refine v_goto (tgt := 5) E dX3_bytesOf_36 (by decide) ?_
          rw [e] at ih
          exact ih
        · rw [c2] at e
          refine v_lload_n E dX3_bytesOf_23 rfl ?_
          refine v_aload_n E dX3_bytesOf_24 rfl ?_
          refine v_getR E f_X3_9 dX3_bytesOf_25 rfl rfl rfl ?_
          refine v_iload E dX3_bytesOf_28 rfl ?_
          refine v_laloadE E dX3_bytesOf_30 rfl rfl (by omega) (by decide) (hp k hk1) ?_
          refine v_lxor E dX3_bytesOf_31 ?_
          refine v_lstore_n E dX3_bytesOf_32 (by decide) ?_
          refine v_inc E dX3_bytesOf_33 rfl (by decide) ?_
          refine v_goto (tgt := 5) E dX3_bytesOf_36 (by decide) ?_
          rw [e] at ih
          exact ih
  exact loop 0 (by omega)
/-- worked out; the pieces worked out; served -/
def s_out (s : zS) (l p : Nat) : Bool := l_sp (s_rows s l) (2 ^ p)
def s_wo (s : zS) (l : Nat) : Nat := l_wo (l_f (s_rows s l)) 0 10
def s_sv (s : zS) (l : Nat) : Bool := l_sv (s_kd s l) (s_hp s l) (s_wt s l) (s_wo s l) (2 ^ s_np s - 1)
theorem s_out_f {s : zS} (hw : s_wf s) (l : Nat) {p : Nat} (hp : p < 10) : decide (l_f (s_rows s l) p = 0) = s_out s l p := by
  have h : l_f (s_rows s l) p = 0 ↔ l_sp (s_rows s l) (2 ^ p) = true := l_f_out (s_rows_1024 hw l (Nat.le_refl _)) hp
  unfold s_out
  cases hs : l_sp (s_rows s l) (2 ^ p) with
  | true => exact decide_eq_true (h.mpr hs)
  | false => exact decide_eq_false (fun z => by rw [h.mp z] at hs; cases hs)
theorem p2_lt {np : Nat} (h : np ≤ 10) : 2 ^ np - 1 < 1024 := by
  have : 2 ^ np ≤ 2 ^ 10 := Nat.pow_le_pow_right (by decide) h
  omega
/-- a listener and a piece that there are, and worked out -/
def s_hwo (s : zS) (xl xp : Int32) : Bool := z_isx xl (s_nl s) && (z_isx xp (s_np s) && s_out s xl.toNatClampNeg xp.toNatClampNeg)
theorem m_hasWorkedOut (d : Nat) (s : zS) (hw : s_wf s) (I : zI) (J : zJ) (hc : cI s I J) (xl xp : Int32) : z_C yX3_hasWorkedOut cX3_hasWorkedOut 3 (some .boolean) (d + 3) [.ref 1, .int xl, .int xp] (z_s (s_nl s)) I J 0 0 (z_q (some (.int (nI (s_hwo s xl xp).toNat))) (z_s (s_nl s)) I J) := by
  obtain ⟨c1, c2, c3, c4, c5, c6, c7, c8⟩ := hc
  have w1 := hw.1
  have w2 := hw.2.1
  refine z_C.of (by decide) (Nat.le_of_ble_eq_true rfl) fun K E X => ?_
  have no : s_hwo s xl xp = false → z_V K 41 [(0, .ref 1), (1, .int xl), (2, .int xp)] [] (z_s (s_nl s)) I J 0 0 := by
    intro e
    refine v_iconst (v := nI 0) E dX3_hasWorkedOut_41 (by decide) ?_
    exact v_zret E X dX3_hasWorkedOut_42 (by first | exact Or.inl rfl | exact Or.inr rfl) (z_qi (by rw [e]; rfl))
  refine v_aload_n E dX3_hasWorkedOut_0 rfl ?_
  refine v_iload_n E dX3_hasWorkedOut_1 rfl ?_
  refine v_callV1 E dX3_hasWorkedOut_2 k_X3_71 Y_X3_isListener (m_isListener (d + 1) (s_nl s) I J c3 xl) rfl rfl rfl (Nat.le_of_ble_eq_true rfl) ?_
  refine v_if_eqB (tgt := 41) E dX3_hasWorkedOut_5 (by decide)  (fun e1 => ?_) (fun e1 => ?_)
  · exact no (by unfold s_hwo; rw [e1]; rfl)
  · refine v_aload_n E dX3_hasWorkedOut_8 rfl ?_
    refine v_iload_n E dX3_hasWorkedOut_9 rfl ?_
    refine v_callV1 E dX3_hasWorkedOut_10 k_X3_54 Y_X3_isPiece (m_isPiece (d + 2) (s_nl s) (s_np s) I J c1 xp) rfl rfl rfl (Nat.le_of_ble_eq_true rfl) ?_
    refine v_if_eqB (tgt := 41) E dX3_hasWorkedOut_13 (by decide)  (fun e2 => ?_) (fun e2 => ?_)
    · exact no (by unfold s_hwo; rw [e1, e2]; rfl)
    · obtain ⟨l, hl, rfl⟩ := z_isx_true (by omega) e1
      obtain ⟨p, hp, rfl⟩ := z_isx_true (by omega) e2
      have hs : s_hwo s (nI l) (nI p) = s_out s l p := by
        unfold s_hwo
        rw [e1, e2, nI_clamp (by omega), nI_clamp (by omega)]
        rfl
      have hL := c8 l hl
      refine v_aload_n E dX3_hasWorkedOut_16 rfl ?_
      refine v_getR E f_X3_16 dX3_hasWorkedOut_17 rfl rfl rfl ?_
      refine v_iload_n E dX3_hasWorkedOut_20 rfl ?_
      refine v_callV1 E dX3_hasWorkedOut_21 k_X3_74 Y_Jx4a65c_get_915e3 (m_get d (s_nl s) I J c3 l hl w2) rfl rfl rfl (Nat.le_of_ble_eq_true rfl) ?_
      refine v_checkcast E dX3_hasWorkedOut_24 c_X3_62 (by decide) (v_cc hl) ?_
      refine v_getR E f_X3_126 dX3_hasWorkedOut_27 (v_cc hl) rfl (z_ls hl).2.2.2.2 ?_
      refine v_iload_n E dX3_hasWorkedOut_30 rfl ?_
      refine v_callV1 E dX3_hasWorkedOut_31 k_X3_201 Y_X0_isWorkedOut (m_isWorkedOut (d + 2) (z_s (s_nl s)) I J (z_pl l + 2) (z_ls hl).2.2.1 (l_f (s_rows s l)) hL.2.2.2.2.2.2.2.2.1.1 (l_f_lt (s_rows_1024 hw l (Nat.le_refl _))) p (by omega)) (z_ls hl).2.2.1.1 rfl rfl (Nat.le_of_ble_eq_true rfl) ?_
      rw [s_out_f hw l (by omega)] at *
      refine v_if_eqB (tgt := 41) E dX3_hasWorkedOut_34 (by decide)  (fun e3 => ?_) (fun e3 => ?_)
      · exact no (by rw [hs, e3])
      · refine v_iconst (v := nI 1) E dX3_hasWorkedOut_37 (by decide) ?_
        refine v_goto (tgt := 42) E dX3_hasWorkedOut_38 (by decide) ?_
        exact v_zret E X dX3_hasWorkedOut_42 (by first | exact Or.inl rfl | exact Or.inr rfl) (z_qi (by rw [hs, e3]; rfl))
theorem m_isServed (d : Nat) (s : zS) (hw : s_wf s) (I : zI) (J : zJ) (hc : cI s I J) (l : Nat) (hl : l < s_nl s) : z_C yX3_isServed cX3_isServed 2 (some .boolean) (d + 3) [.ref 1, .ref (z_pl l)] (z_s (s_nl s)) I J 0 0 (z_q (some (.int (nI (s_sv s l).toNat))) (z_s (s_nl s)) I J) := by
  obtain ⟨c1, c2, c3, c4, c5, c6, c7, c8⟩ := hc
  obtain ⟨i0, i3, i4, i5, i6, i7, i8, ir, ik, ij⟩ := c8 l hl
  obtain ⟨b0, b1, b2, b3, b4, b5⟩ := s_lsB hw l
  have w1 := hw.1
  refine z_C.of (by decide) (Nat.le_of_ble_eq_true rfl) fun K E X => ?_
  refine v_aload_n E dX3_isServed_0 rfl ?_
  refine v_aload_n E dX3_isServed_1 rfl ?_
  refine v_getR E f_X3_126 dX3_isServed_2 (v_cc hl) rfl (z_ls hl).2.2.2.2 ?_
  refine v_aload_n E dX3_isServed_5 rfl ?_
  refine v_callV1 E dX3_isServed_6 k_X3_147 Y_X3_allPieces (m_allPieces (d + 2) (s_nl s) (s_np s) I J c1 w1) rfl rfl rfl (Nat.le_of_ble_eq_true rfl) ?_
  refine v_callV1 E dX3_isServed_9 k_X3_204 Y_X1_isServedBy (m_isServedBy d (z_s (s_nl s)) I J (z_pl l) (z_pl l + 2) (z_ls hl) (z_ls hl).2.2.1 i0 i5 i6 b0 b4 b5 (l_f (s_rows s l)) ik.1 (l_f_lt b1) (2 ^ s_np s - 1) (p2_lt w1)) (v_cc hl) rfl rfl (Nat.le_of_ble_eq_true rfl) ?_
  exact v_zret E X dX3_isServed_12 (q_b01 _) z_qq
theorem m_servedCount (d : Nat) (s : zS) (hw : s_wf s) (I : zI) (J : zJ) (hc : cI s I J) : z_C yX3_servedCount cX3_servedCount 3 (some .int) (d + 4) [.ref 1] (z_s (s_nl s)) I J 0 0 (z_q (some (.int (nI (l_cnt (s_sv s) (s_nl s))))) (z_s (s_nl s)) I J) := by
  have w2 := hw.2.1
  have c3 := hc.2.2.1
  refine z_C.of (by decide) (Nat.le_of_ble_eq_true rfl) fun K E X => ?_
  refine v_iconst (v := nI 0) E dX3_servedCount_0 (by decide) ?_
  refine v_istore_n E dX3_servedCount_1 (by decide) ?_
  refine v_iconst (v := nI 0) E dX3_servedCount_2 (by decide) ?_
  refine v_istore_n E dX3_servedCount_3 (by decide) ?_
  have loop : ∀ k, k ≤ s_nl s → z_V K 4 [(0, .ref 1), (1, .int (nI (l_cnt (s_sv s) k))), (2, .int (nI k))] [] (z_s (s_nl s)) I J 0 0 := by
    refine z_for (s_nl s) ?_ (fun k hk1 ih => ?_)
    · refine v_iload_n E dX3_servedCount_4 rfl ?_
      refine v_aload_n E dX3_servedCount_5 rfl ?_
      refine v_getR E f_X3_16 dX3_servedCount_6 rfl rfl rfl ?_
      refine v_callV1 E dX3_servedCount_9 k_X3_58 Y_Jx4a65c_size_8abf5 (m_size (d + 3) (s_nl s) I J c3) rfl rfl rfl (Nat.le_of_ble_eq_true rfl) ?_
      refine v_icmp_geN (tgt := 42) E dX3_servedCount_12 (by decide) (by omega) (by omega) (fun c => ?_) (fun c => ?_)
      · refine v_iload_n E dX3_servedCount_42 rfl ?_
        exact v_iret E X dX3_servedCount_43 z_qq
      · exact absurd c (by omega)
    · refine v_iload_n E dX3_servedCount_4 rfl ?_
      refine v_aload_n E dX3_servedCount_5 rfl ?_
      refine v_getR E f_X3_16 dX3_servedCount_6 rfl rfl rfl ?_
      refine v_callV1 E dX3_servedCount_9 k_X3_58 Y_Jx4a65c_size_8abf5 (m_size (d + 3) (s_nl s) I J c3) rfl rfl rfl (Nat.le_of_ble_eq_true rfl) ?_
      refine v_icmp_geN (tgt := 42) E dX3_servedCount_12 (by decide) (by omega) (by omega) (fun c => ?_) (fun c => ?_)
      · exact absurd c (by omega)
      · refine v_iload_n E dX3_servedCount_15 rfl ?_
        refine v_aload_n E dX3_servedCount_16 rfl ?_
        refine v_aload_n E dX3_servedCount_17 rfl ?_
        refine v_getR E f_X3_16 dX3_servedCount_18 rfl rfl rfl ?_
        refine v_iload_n E dX3_servedCount_21 rfl ?_
        refine v_callV1 E dX3_servedCount_22 k_X3_74 Y_Jx4a65c_get_915e3 (m_get (d + 1) (s_nl s) I J c3 k hk1 w2) rfl rfl rfl (Nat.le_of_ble_eq_true rfl) ?_
        refine v_checkcast E dX3_servedCount_25 c_X3_62 (by decide) (v_cc hk1) ?_
        refine v_callV1 E dX3_servedCount_28 k_X3_132 Y_X3_isServed (m_isServed d s hw I J hc k hk1) rfl rfl rfl (Nat.le_of_ble_eq_true rfl) ?_
        refine v_callS1 E dX3_servedCount_31 k_X3_104 Y_X3_oneIf (m_oneIf (d + 3) (z_s (s_nl s)) I J (s_sv s k)) rfl rfl (Nat.le_of_ble_eq_true rfl) ?_
        refine v_iaddN E dX3_servedCount_34 ?_
        refine v_istore_n E dX3_servedCount_35 (by decide) ?_
        refine v_inc E dX3_servedCount_36 rfl (by decide) ?_
        refine v_goto (tgt := 4) E dX3_servedCount_39 (by decide) ?_
        exact ih
  exact loop 0 (by omega)
/-- the sum of f below k -/
def l_add (f : Nat → Nat) : Nat → Nat
  | 0 => 0
  | k + 1 => l_add f k + f k
theorem m_rankOfAll (d : Nat) (s : zS) (hw : s_wf s) (I : zI) (J : zJ) (hc : cI s I J) : z_C yX3_rankOfAll cX3_rankOfAll 3 (some .int) (d + 3) [.ref 1] (z_s (s_nl s)) I J 0 0 (z_q (some (.int (nI (l_add (fun l => l_rk (s_rows s l)) (s_nl s))))) (z_s (s_nl s)) I J) := by
  have w2 := hw.2.1
  have c3 := hc.2.2.1
  have c8 := hc.2.2.2.2.2.2.2
  refine z_C.of (by decide) (Nat.le_of_ble_eq_true rfl) fun K E X => ?_
  refine v_iconst (v := nI 0) E dX3_rankOfAll_0 (by decide) ?_
  refine v_istore_n E dX3_rankOfAll_1 (by decide) ?_
  refine v_iconst (v := nI 0) E dX3_rankOfAll_2 (by decide) ?_
  refine v_istore_n E dX3_rankOfAll_3 (by decide) ?_
  have loop : ∀ k, k ≤ s_nl s → z_V K 4 [(0, .ref 1), (1, .int (nI (l_add (fun l => l_rk (s_rows s l)) k))), (2, .int (nI k))] [] (z_s (s_nl s)) I J 0 0 := by
    refine z_for (s_nl s) ?_ (fun k hk1 ih => ?_)
    · refine v_iload_n E dX3_rankOfAll_4 rfl ?_
      refine v_aload_n E dX3_rankOfAll_5 rfl ?_
      refine v_getR E f_X3_16 dX3_rankOfAll_6 rfl rfl rfl ?_
      refine v_callV1 E dX3_rankOfAll_9 k_X3_58 Y_Jx4a65c_size_8abf5 (m_size (d + 2) (s_nl s) I J c3) rfl rfl rfl (Nat.le_of_ble_eq_true rfl) ?_
      refine v_icmp_geN (tgt := 41) E dX3_rankOfAll_12 (by decide) (by omega) (by omega) (fun c => ?_) (fun c => ?_)
      · refine v_iload_n E dX3_rankOfAll_41 rfl ?_
        exact v_iret E X dX3_rankOfAll_42 z_qq
      · exact absurd c (by omega)
    · refine v_iload_n E dX3_rankOfAll_4 rfl ?_
      refine v_aload_n E dX3_rankOfAll_5 rfl ?_
      refine v_getR E f_X3_16 dX3_rankOfAll_6 rfl rfl rfl ?_
      refine v_callV1 E dX3_rankOfAll_9 k_X3_58 Y_Jx4a65c_size_8abf5 (m_size (d + 2) (s_nl s) I J c3) rfl rfl rfl (Nat.le_of_ble_eq_true rfl) ?_
      refine v_icmp_geN (tgt := 41) E dX3_rankOfAll_12 (by decide) (by omega) (by omega) (fun c => ?_) (fun c => ?_)
      · exact absurd c (by omega)
      · refine v_iload_n E dX3_rankOfAll_15 rfl ?_
        refine v_aload_n E dX3_rankOfAll_16 rfl ?_
        refine v_getR E f_X3_16 dX3_rankOfAll_17 rfl rfl rfl ?_
        refine v_iload_n E dX3_rankOfAll_20 rfl ?_
        refine v_callV1 E dX3_rankOfAll_21 k_X3_74 Y_Jx4a65c_get_915e3 (m_get d (s_nl s) I J c3 k hk1 w2) rfl rfl rfl (Nat.le_of_ble_eq_true rfl) ?_
        refine v_checkcast E dX3_rankOfAll_24 c_X3_62 (by decide) (v_cc hk1) ?_
        refine v_getR E f_X3_126 dX3_rankOfAll_27 (v_cc hk1) rfl (z_ls hk1).2.2.2.2 ?_
        refine v_getIE E f_X3_129 dX3_rankOfAll_30 (z_ls hk1).2.2.1.1 rfl (c8 k hk1).2.2.2.2.2.2.2.2.1.2 ?_
        refine v_iaddN E dX3_rankOfAll_33 ?_
        refine v_istore_n E dX3_rankOfAll_34 (by decide) ?_
        refine v_inc E dX3_rankOfAll_35 rfl (by decide) ?_
        refine v_goto (tgt := 4) E dX3_rankOfAll_38 (by decide) ?_
        exact ih
  exact loop 0 (by omega)
end
section
/-! WHAT THE CALLS ANSWER, of a state -/
theorem z_out {x : Int32} {n : Nat} (hn : n < 2 ^ 31) (h : z_isx x n = false) : x.toInt < 0 ∨ (n : Int) ≤ x.toInt := by
  rcases pk_ix x hn with h3 | h3 | ⟨j, h3, rfl⟩
  · exact Or.inl (by simpa using Int32.lt_iff_toInt_lt.mp h3)
  · have h4 := Int32.le_iff_toInt_le.mp h3
    rw [nI_toInt hn] at h4
    exact Or.inr h4
  · rw [z_isx_nI (by omega) hn, decide_eq_true h3] at h
    cases h
def r_bytes (s : zS) (x : Int32) : Int64 := if z_isx x (s_np s) then s_pv s x.toNatClampNeg else lN 0
def r_callN (s : zS) (c w : Nat) : Int32 := match w with
  | 0 => nI (s_cm s c)
  | 1 => nI (s_hear s c)
  | _ => nI (s_newc s c)
def r_call2 (s : zS) (xc xw : Int32) : Int32 := if z_isx xc (s_nc s) then (if z_isx xw 3 then r_callN s xc.toNatClampNeg xw.toNatClampNeg else -1) else -1
def r_sum (s : zS) (x : Int32) : Int64 := if z_isx x (s_nc s) then q_sum (s_pv s) (s_cm s x.toNatClampNeg) (s_np s) else lN 0
def r_heard (s : zS) (xl xc : Int32) : Int32 := if z_isx xl (s_nl s) && z_isx xc (s_nc s) then nI ((s_hb s xc.toNatClampNeg).testBit xl.toNatClampNeg).toNat else -1
def r_aboutN (s : zS) (l w : Nat) : Int32 := match w with
  | 0 => nI (s_kd s l)
  | 1 => nI (s_hm s l)
  | 2 => nI (s_rows s l).length
  | 3 => nI (l_rk (s_rows s l))
  | 4 => nI (s_np s) - nI (l_rk (s_rows s l))
  | 5 => nI (s_wt s l)
  | 6 => nI (s_sv s l).toNat
  | _ => nI (s_of s l).toNat
def r_about (s : zS) (xl xw : Int32) : Int32 := if z_isx xl (s_nl s) then (if z_isx xw 8 then r_aboutN s xl.toNatClampNeg xw.toNatClampNeg else -1) else -1
def r_rowOf (s : zS) (xl xk : Int32) : Int32 := if z_isx xl (s_nl s) then (if z_isx xk (s_rows s xl.toNatClampNeg).length then nI (l_row (s_rows s xl.toNatClampNeg) xk.toNatClampNeg) else -1) else -1
def r_solve (s : zS) (xl xp : Int32) : Int32 := if z_isx xl (s_nl s) && z_isx xp (s_np s) then nI (s_out s xl.toNatClampNeg xp.toNatClampNeg).toNat else -1
def r_why (s : zS) (xl xp : Int32) : Int64 := if s_hwo s xl xp then lN (l_b (s_rows s xl.toNatClampNeg) xp.toNatClampNeg) else -1
/-- the bytes of the rows of a set -/
def q_gets (pv : Nat → Int64) (rs : List Nat) (np b : Nat) : Nat → Int64
  | 0 => lN 0
  | k + 1 => if b.testBit k then q_gets pv rs np b k ^^^ q_sum pv (l_row rs k) np else q_gets pv rs np b k
def r_gets (s : zS) (xl xp : Int32) : Int64 := if s_hwo s xl xp then q_gets (s_pv s) (s_rows s xl.toNatClampNeg) (s_np s) (l_b (s_rows s xl.toNatClampNeg) xp.toNatClampNeg) (s_rows s xl.toNatClampNeg).length else lN 0
/-- the least number from m on, of k, of which P holds -/
def q_find (P : Nat → Bool) : Nat → Nat → Int32
  | 0, _ => -1
  | k + 1, m => if P m then nI m else q_find P k (m + 1)
def q_even (rs : List Nat) (m : Nat) : Bool := decide (∀ k, k < rs.length → q_pop (l_row rs k &&& m) % 2 = 0)
def q_lk (rs : List Nat) (p m : Nat) : Bool := m.testBit p && q_even rs m
def r_lack (s : zS) (xl xp : Int32) : Int32 := if z_isx xl (s_nl s) && (z_isx xp (s_np s) && !s_out s xl.toNatClampNeg xp.toNatClampNeg) then q_find (q_lk (s_rows s xl.toNatClampNeg) xp.toNatClampNeg) (2 ^ s_np s - 1) 1 else -1
def s_svn (s : zS) : Nat := l_cnt (s_sv s) (s_nl s)
def r_left (s : zS) : Int32 := nI (s_nl s - s_svn s)
def r_countN (s : zS) (w : Nat) : Int32 := match w with
  | 0 => nI (s_np s)
  | 1 => nI (s_nl s)
  | 2 => nI (s_nc s)
  | 3 => nI (s_svn s)
  | _ => nI (l_add (fun l => l_rk (s_rows s l)) (s_nl s))
def r_count (s : zS) (x : Int32) : Int32 := if z_isx x 5 then r_countN s x.toNatClampNeg else -1
theorem q_find_skip (P : Nat → Bool) : ∀ (j k m : Nat), (∀ i, m ≤ i → i < m + j → P i = false) → q_find P (k + j) m = q_find P k (m + j)
  | 0, k, m, _ => rfl
  | j + 1, k, m, h => by
    show q_find P ((k + j) + 1) m = _
    simp only [q_find]
    rw [h m (Nat.le_refl _) (by omega)]
    simp only [Bool.false_eq_true, if_false]
    rw [q_find_skip P j k (m + 1) (fun i h1 h2 => h i (by omega) (by omega))]
    congr 1
    omega
theorem q_hc_bit (hb : Nat → Nat) (l i : Nat) : ∀ c, (q_hc hb l c).testBit i = (decide (i < c) && (hb i).testBit l)
  | 0 => by simp [q_hc]
  | c + 1 => by
    have ih := q_hc_bit hb l i c
    simp only [q_hc]
    by_cases hi : i = c
    · subst hi
      cases hb1 : (hb i).testBit l with
      | true => simp [Nat.testBit_or, ih, Nat.testBit_two_pow]
      | false => simp [ih]
    · have e1 : decide (i < c + 1) = decide (i < c) := by
        by_cases h2 : i < c
        · simp [h2, Nat.lt_succ_of_lt h2]
        · simp [h2, show ¬ i < c + 1 by omega]
      rw [e1]
      cases hb1 : (hb c).testBit l with
      | true =>
        simp [Nat.testBit_or, ih, Nat.testBit_two_pow, Ne.symm hi]
      | false => simp [ih]
theorem q_hc_lt (hb : Nat → Nat) (l c : Nat) : q_hc hb l c < 2 ^ c := q_lt2 fun i hi => by
  rw [q_hc_bit]
  simp [show ¬ i < c by omega]
theorem l_b_lt {rs : List Nat} (hr : ∀ r ∈ rs, r < 1024) {p : Nat} (hp : p < 10) : l_b rs p < 2 ^ rs.length := l_le_lt (l_b_inv rs hr p hp).1 (l_nw_lt rs)
end
section
/-! OneCall: the reads -/
theorem m_bytes (d : Nat) (s : zS) (hw : s_wf s) (I : zI) (J : zJ) (hc : cI s I J) (x : Int32) : z_C yX3_bytes cX3_bytes 2 (some .long) (d + 1) [.ref 1, .int x] (z_s (s_nl s)) I J 0 0 (z_q (some (.long (r_bytes s x))) (z_s (s_nl s)) I J) := by
  obtain ⟨c1, c2, c3, c4, c5, c6, c7, c8⟩ := hc
  have w1 := hw.1
  refine z_C.of (by decide) (Nat.le_of_ble_eq_true rfl) fun K E X => ?_
  refine v_aload_n E dX3_bytes_0 rfl ?_
  refine v_iload_n E dX3_bytes_1 rfl ?_
  refine v_callV1 E dX3_bytes_2 k_X3_54 Y_X3_isPiece (m_isPiece d (s_nl s) (s_np s) I J c1 x) rfl rfl rfl (Nat.le_of_ble_eq_true rfl) ?_
  refine v_if_eqB (tgt := 17) E dX3_bytes_5 (by decide)  (fun e1 => ?_) (fun e1 => ?_)
  · refine v_lconst (v := lN 0) E dX3_bytes_17 (by decide) ?_
    exact v_lret E X dX3_bytes_18 (z_ql (by unfold r_bytes; rw [e1]; rfl))
  · have e2 := e1
    obtain ⟨p, hp, rfl⟩ := z_isx_true (by omega) e1
    refine v_aload_n E dX3_bytes_8 rfl ?_
    refine v_getR E f_X3_9 dX3_bytes_9 rfl rfl rfl ?_
    refine v_iload_n E dX3_bytes_12 rfl ?_
    refine v_laloadE E dX3_bytes_13 rfl rfl (by omega) (by decide) (c4 p hp) ?_
    refine v_goto (tgt := 18) E dX3_bytes_14 (by decide) ?_
    exact v_lret E X dX3_bytes_18 (z_ql (by unfold r_bytes; rw [e2, nI_clamp (by omega)]; rfl))
theorem m_call (d : Nat) (s : zS) (hw : s_wf s) (I : zI) (J : zJ) (hc : cI s I J) (x y : Int32) : z_C yX3_call cX3_call 3 (some .int) (d + 1) [.ref 1, .int x, .int y] (z_s (s_nl s)) I J 0 0 (z_q (some (.int (r_call2 s x y))) (z_s (s_nl s)) I J) := by
  obtain ⟨c1, c2, c3, c4, c5, c6, c7, c8⟩ := hc
  have w3 := hw.2.2.1
  refine z_C.of (by decide) (Nat.le_of_ble_eq_true rfl) fun K E X => ?_
  refine v_aload_n E dX3_call_0 rfl ?_
  refine v_iload_n E dX3_call_1 rfl ?_
  refine v_callV1 E dX3_call_2 k_X3_112 Y_X3_isCall (m_isCall d (s_nl s) (s_nc s) I J c2 x) rfl rfl rfl (Nat.le_of_ble_eq_true rfl) ?_
  refine v_if_neB (tgt := 10) E dX3_call_5 (by decide)  (fun e1 => ?_) (fun e1 => ?_)
  · have e3 := e1
    obtain ⟨c, hc1, rfl⟩ := z_isx_true (by omega) e1
    refine v_iload_n E dX3_call_10 rfl ?_
    have e4 : r_call2 s (nI c) y = if z_isx y 3 then r_callN s c y.toNatClampNeg else -1 := by
      unfold r_call2
      rw [e3, nI_clamp (by omega)]
      rfl
    cases e2 : z_isx y 3 with
    | false =>
      refine v_tableOut (tgt := 57) E dX3_call_11 (by have := z_out (by decide) e2; omega) (by decide) ?_
      refine v_iconst (v := -1) E dX3_call_57 (by decide) ?_
      exact v_iret E X dX3_call_58 (z_qi (by rw [e4, e2]; rfl))
    | true =>
      have e5 := e2
      obtain ⟨w, hw1, rfl⟩ := z_isx_true (by decide) e2
      rcases (show w = 0 ∨ w = 1 ∨ w = 2 by omega) with rfl | rfl | rfl
      · refine v_tableIn (off := 25) (tgt := 36) E dX3_call_11 (by decide) (by decide) (by decide) (by decide) ?_
        refine v_aload_n E dX3_call_36 rfl ?_
        refine v_getR E f_X3_20 dX3_call_37 rfl rfl rfl ?_
        refine v_iload_n E dX3_call_40 rfl ?_
        refine v_ialoadE E dX3_call_41 rfl rfl (by omega) (by decide) (c5 c hc1) ?_
        exact v_iret E X dX3_call_42 (z_qi (by rw [e4, e5]; rfl))
      · refine v_tableIn (off := 32) (tgt := 43) E dX3_call_11 (by decide) (by decide) (by decide) (by decide) ?_
        refine v_aload_n E dX3_call_43 rfl ?_
        refine v_getR E f_X3_24 dX3_call_44 rfl rfl rfl ?_
        refine v_iload_n E dX3_call_47 rfl ?_
        refine v_ialoadE E dX3_call_48 rfl rfl (by omega) (by decide) (c6 c (by omega)) ?_
        exact v_iret E X dX3_call_49 (z_qi (by rw [e4, e5, if_pos hc1]; rfl))
      · refine v_tableIn (off := 39) (tgt := 50) E dX3_call_11 (by decide) (by decide) (by decide) (by decide) ?_
        refine v_aload_n E dX3_call_50 rfl ?_
        refine v_getR E f_X3_27 dX3_call_51 rfl rfl rfl ?_
        refine v_iload_n E dX3_call_54 rfl ?_
        refine v_ialoadE E dX3_call_55 rfl rfl (by omega) (by decide) (c7 c (by omega)) ?_
        exact v_iret E X dX3_call_56 (z_qi (by rw [e4, e5, if_pos hc1]; rfl))
  · refine v_iconst (v := -1) E dX3_call_8 (by decide) ?_
    exact v_iret E X dX3_call_9 (z_qi (by unfold r_call2; rw [e1]; rfl))
theorem m_sum (d : Nat) (s : zS) (hw : s_wf s) (I : zI) (J : zJ) (hc : cI s I J) (x : Int32) : z_C yX3_sum cX3_sum 2 (some .long) (d + 2) [.ref 1, .int x] (z_s (s_nl s)) I J 0 0 (z_q (some (.long (r_sum s x))) (z_s (s_nl s)) I J) := by
  obtain ⟨c1, c2, c3, c4, c5, c6, c7, c8⟩ := hc
  have w1 := hw.1
  have w3 := hw.2.2.1
  have w8 := hw.2.2.2.2.2.2.2.1
  refine z_C.of (by decide) (Nat.le_of_ble_eq_true rfl) fun K E X => ?_
  refine v_aload_n E dX3_sum_0 rfl ?_
  refine v_iload_n E dX3_sum_1 rfl ?_
  refine v_callV1 E dX3_sum_2 k_X3_112 Y_X3_isCall (m_isCall (d + 1) (s_nl s) (s_nc s) I J c2 x) rfl rfl rfl (Nat.le_of_ble_eq_true rfl) ?_
  refine v_if_eqB (tgt := 21) E dX3_sum_5 (by decide)  (fun e1 => ?_) (fun e1 => ?_)
  · refine v_lconst (v := lN 0) E dX3_sum_21 (by decide) ?_
    exact v_lret E X dX3_sum_22 (z_ql (by unfold r_sum; rw [e1]; rfl))
  · have e2 := e1
    obtain ⟨c, hc1, rfl⟩ := z_isx_true (by omega) e1
    refine v_aload_n E dX3_sum_8 rfl ?_
    refine v_aload_n E dX3_sum_9 rfl ?_
    refine v_getR E f_X3_20 dX3_sum_10 rfl rfl rfl ?_
    refine v_iload_n E dX3_sum_13 rfl ?_
    refine v_ialoadE E dX3_sum_14 rfl rfl (by omega) (by decide) (c5 c hc1) ?_
    refine v_callV1 E dX3_sum_15 k_X3_115 Y_X3_bytesOf (m_bytesOf d (s_nl s) (s_np s) I J c1 w1 (s_pv s) c4 (s_cm s c) (p2_10 w1 (w8 c hc1).2.1)) rfl rfl rfl (Nat.le_of_ble_eq_true rfl) ?_
    refine v_goto (tgt := 22) E dX3_sum_18 (by decide) ?_
    exact v_lret E X dX3_sum_22 (z_ql (by unfold r_sum; rw [e2, nI_clamp (by omega)]; rfl))
theorem m_heard (d : Nat) (s : zS) (hw : s_wf s) (I : zI) (J : zJ) (hc : cI s I J) (x y : Int32) : z_C yX3_heard cX3_heard 3 (some .int) (d + 3) [.ref 1, .int x, .int y] (z_s (s_nl s)) I J 0 0 (z_q (some (.int (r_heard s x y))) (z_s (s_nl s)) I J) := by
  obtain ⟨c1, c2, c3, c4, c5, c6, c7, c8⟩ := hc
  have w2 := hw.2.1
  have w3 := hw.2.2.1
  refine z_C.of (by decide) (Nat.le_of_ble_eq_true rfl) fun K E X => ?_
  have no : (z_isx x (s_nl s) && z_isx y (s_nc s)) = false → z_V K 16 [(0, .ref 1), (1, .int x), (2, .int y)] [] (z_s (s_nl s)) I J 0 0 := by
    intro e
    refine v_iconst (v := -1) E dX3_heard_16 (by decide) ?_
    exact v_iret E X dX3_heard_17 (z_qi (by unfold r_heard; rw [e]; rfl))
  refine v_aload_n E dX3_heard_0 rfl ?_
  refine v_iload_n E dX3_heard_1 rfl ?_
  refine v_callV1 E dX3_heard_2 k_X3_71 Y_X3_isListener (m_isListener (d + 1) (s_nl s) I J c3 x) rfl rfl rfl (Nat.le_of_ble_eq_true rfl) ?_
  refine v_if_eqB (tgt := 16) E dX3_heard_5 (by decide)  (fun e1 => ?_) (fun e1 => ?_)
  · exact no (by rw [e1]; rfl)
  · refine v_aload_n E dX3_heard_8 rfl ?_
    refine v_iload_n E dX3_heard_9 rfl ?_
    refine v_callV1 E dX3_heard_10 k_X3_112 Y_X3_isCall (m_isCall (d + 2) (s_nl s) (s_nc s) I J c2 y) rfl rfl rfl (Nat.le_of_ble_eq_true rfl) ?_
    refine v_if_neB (tgt := 18) E dX3_heard_13 (by decide)  (fun e2 => ?_) (fun e2 => ?_)
    · have f1 := e1
      have f2 := e2
      obtain ⟨l, hl, rfl⟩ := z_isx_true (by omega) e1
      obtain ⟨c, hc1, rfl⟩ := z_isx_true (by omega) e2
      have hL := c8 l hl
      have hlt : s_hc s l < 2 ^ 62 := Nat.lt_of_lt_of_le (q_hc_lt (s_hb s) l (s_nc s)) (Nat.pow_le_pow_right (by decide) (by omega))
      refine v_aload_n E dX3_heard_18 rfl ?_
      refine v_getR E f_X3_16 dX3_heard_19 rfl rfl rfl ?_
      refine v_iload_n E dX3_heard_22 rfl ?_
      refine v_callV1 E dX3_heard_23 k_X3_74 Y_Jx4a65c_get_915e3 (m_get d (s_nl s) I J c3 l hl w2) rfl rfl rfl (Nat.le_of_ble_eq_true rfl) ?_
      refine v_checkcast E dX3_heard_26 c_X3_62 (by decide) (v_cc hl) ?_
      refine v_getJE E f_X3_119 dX3_heard_29 (v_cc hl) rfl hL.2.2.2.2.2.1 ?_
      refine v_iload_n E dX3_heard_32 rfl ?_
      refine v_lshrN E dX3_heard_33 hlt (by omega) ?_
      refine v_lconst (v := lN 1) E dX3_heard_34 (by decide) ?_
      refine v_landN E dX3_heard_35 ?_
      refine v_l2i E dX3_heard_36 ?_
      refine v_iret E X dX3_heard_37 (z_qi ?_)
      unfold r_heard
      rw [f1, f2, nI_clamp (by omega), nI_clamp (by omega), q_a1, q_tbn, lN_i]
      show nI ((q_hc (s_hb s) l (s_nc s)).testBit c).toNat = _
      rw [q_hc_bit, decide_eq_true hc1]
      rfl
    · exact no (by rw [e1, e2]; rfl)
theorem m_rowOf (d : Nat) (s : zS) (hw : s_wf s) (I : zI) (J : zJ) (hc : cI s I J) (x y : Int32) : z_C yX3_rowOf cX3_rowOf 4 (some .int) (d + 3) [.ref 1, .int x, .int y] (z_s (s_nl s)) I J 0 0 (z_q (some (.int (r_rowOf s x y))) (z_s (s_nl s)) I J) := by
  obtain ⟨c1, c2, c3, c4, c5, c6, c7, c8⟩ := hc
  have w2 := hw.2.1
  refine z_C.of (by decide) (Nat.le_of_ble_eq_true rfl) fun K E X => ?_
  refine v_aload_n E dX3_rowOf_0 rfl ?_
  refine v_iload_n E dX3_rowOf_1 rfl ?_
  refine v_callV1 E dX3_rowOf_2 k_X3_71 Y_X3_isListener (m_isListener (d + 1) (s_nl s) I J c3 x) rfl rfl rfl (Nat.le_of_ble_eq_true rfl) ?_
  refine v_if_neB (tgt := 10) E dX3_rowOf_5 (by decide)  (fun e1 => ?_) (fun e1 => ?_)
  · have f1 := e1
    obtain ⟨l, hl, rfl⟩ := z_isx_true (by omega) e1
    obtain ⟨i0, i3, i4, i5, i6, i7, i8, ir, ik, ij⟩ := c8 l hl
    obtain ⟨b0, b1, b2, b3, b4, b5⟩ := s_lsB hw l
    have hr : r_rowOf s (nI l) y = if z_isx y (s_rows s l).length then nI (l_row (s_rows s l) y.toNatClampNeg) else -1 := by
      unfold r_rowOf
      rw [f1, nI_clamp (by omega)]
      rfl
    have no : z_isx y (s_rows s l).length = false → z_V K 43 [(0, .ref 1), (1, .int (nI l)), (2, .int y), (3, .ref (z_pl l))] [] (z_s (s_nl s)) I J 0 0 := by
      intro e
      refine v_iconst (v := -1) E dX3_rowOf_43 (by decide) ?_
      exact v_iret E X dX3_rowOf_44 (z_qi (by rw [hr, e]; rfl))
    refine v_aload_n E dX3_rowOf_10 rfl ?_
    refine v_getR E f_X3_16 dX3_rowOf_11 rfl rfl rfl ?_
    refine v_iload_n E dX3_rowOf_14 rfl ?_
    refine v_callV1 E dX3_rowOf_15 k_X3_74 Y_Jx4a65c_get_915e3 (m_get d (s_nl s) I J c3 l hl w2) rfl rfl rfl (Nat.le_of_ble_eq_true rfl) ?_
    refine v_checkcast E dX3_rowOf_18 c_X3_62 (by decide) (v_cc hl) ?_
    refine v_astore_n E dX3_rowOf_21 (by decide) ?_
    refine v_iload_n E dX3_rowOf_22 rfl ?_
    refine v_if_lt (tgt := 43) E dX3_rowOf_23 (by decide)  (fun c => ?_) (fun c => ?_)
    · exact no (decide_eq_false (fun z => z.1 c))
    · refine v_iload_n E dX3_rowOf_26 rfl ?_
      refine v_aload_n E dX3_rowOf_27 rfl ?_
      refine v_getIE E f_X3_123 dX3_rowOf_28 (v_cc hl) rfl i3 ?_
      refine v_icmp_ge (tgt := 43) E dX3_rowOf_31 (by decide)  (fun c9 => ?_) (fun c9 => ?_)
      · exact no (decide_eq_false (fun z => absurd z.2 (Int32.not_lt.mpr c9)))
      · have e2 : z_isx y (s_rows s l).length = true := decide_eq_true ⟨c, Int32.not_le.mp c9⟩
        have f2 := e2
        obtain ⟨k, hk, rfl⟩ := z_isx_true (by omega) e2
        refine v_aload_n E dX3_rowOf_34 rfl ?_
        refine v_getR E f_X3_136 dX3_rowOf_35 (v_cc hl) rfl (z_ls hl).2.2.2.1 ?_
        refine v_iload_n E dX3_rowOf_38 rfl ?_
        refine v_ialoadE E dX3_rowOf_39 (z_ls hl).2.1 rfl (by omega) (by decide) (ir k hk) ?_
        refine v_goto (tgt := 44) E dX3_rowOf_40 (by decide) ?_
        exact v_iret E X dX3_rowOf_44 (z_qi (by rw [hr, f2, nI_clamp (by omega)]; rfl))
  · refine v_iconst (v := -1) E dX3_rowOf_8 (by decide) ?_
    exact v_iret E X dX3_rowOf_9 (z_qi (by unfold r_rowOf; rw [e1]; rfl))
theorem m_solve (d : Nat) (s : zS) (hw : s_wf s) (I : zI) (J : zJ) (hc : cI s I J) (x y : Int32) : z_C yX3_solve cX3_solve 3 (some .int) (d + 4) [.ref 1, .int x, .int y] (z_s (s_nl s)) I J 0 0 (z_q (some (.int (r_solve s x y))) (z_s (s_nl s)) I J) := by
  have c1 := hc.1
  have c3 := hc.2.2.1
  refine z_C.of (by decide) (Nat.le_of_ble_eq_true rfl) fun K E X => ?_
  have no : (z_isx x (s_nl s) && z_isx y (s_np s)) = false → z_V K 16 [(0, .ref 1), (1, .int x), (2, .int y)] [] (z_s (s_nl s)) I J 0 0 := by
    intro e
    refine v_iconst (v := -1) E dX3_solve_16 (by decide) ?_
    exact v_iret E X dX3_solve_17 (z_qi (by unfold r_solve; rw [e]; rfl))
  refine v_aload_n E dX3_solve_0 rfl ?_
  refine v_iload_n E dX3_solve_1 rfl ?_
  refine v_callV1 E dX3_solve_2 k_X3_71 Y_X3_isListener (m_isListener (d + 2) (s_nl s) I J c3 x) rfl rfl rfl (Nat.le_of_ble_eq_true rfl) ?_
  refine v_if_eqB (tgt := 16) E dX3_solve_5 (by decide)  (fun e1 => ?_) (fun e1 => ?_)
  · exact no (by rw [e1]; rfl)
  · refine v_aload_n E dX3_solve_8 rfl ?_
    refine v_iload_n E dX3_solve_9 rfl ?_
    refine v_callV1 E dX3_solve_10 k_X3_54 Y_X3_isPiece (m_isPiece (d + 3) (s_nl s) (s_np s) I J c1 y) rfl rfl rfl (Nat.le_of_ble_eq_true rfl) ?_
    refine v_if_neB (tgt := 18) E dX3_solve_13 (by decide)  (fun e2 => ?_) (fun e2 => ?_)
    · refine v_aload_n E dX3_solve_18 rfl ?_
      refine v_iload_n E dX3_solve_19 rfl ?_
      refine v_iload_n E dX3_solve_20 rfl ?_
      refine v_callV1 E dX3_solve_21 k_X3_139 Y_X3_hasWorkedOut (m_hasWorkedOut d s hw I J hc x y) rfl rfl rfl (Nat.le_of_ble_eq_true rfl) ?_
      refine v_callS1 E dX3_solve_24 k_X3_104 Y_X3_oneIf (m_oneIf (d + 3) (z_s (s_nl s)) I J (s_hwo s x y)) rfl rfl (Nat.le_of_ble_eq_true rfl) ?_
      exact v_iret E X dX3_solve_27 (z_qi (by unfold r_solve s_hwo; rw [e1, e2]; rfl))
    · exact no (by rw [e1, e2]; rfl)
/-- what hasWorkedOut says when it says yes -/
theorem s_hwo_true {s : zS} (hw : s_wf s) {x y : Int32} (h : s_hwo s x y = true) : ∃ l p, l < s_nl s ∧ p < s_np s ∧ x = nI l ∧ y = nI p ∧ s_out s l p = true := by
  have w1 := hw.1
  have w2 := hw.2.1
  unfold s_hwo at h
  simp only [Bool.and_eq_true] at h
  obtain ⟨h1, h2, h3⟩ := h
  obtain ⟨l, hl, rfl⟩ := z_isx_true (by omega) h1
  obtain ⟨p, hp, rfl⟩ := z_isx_true (by omega) h2
  rw [nI_clamp (by omega), nI_clamp (by omega)] at h3
  exact ⟨l, p, hl, hp, rfl, rfl, h3⟩
theorem m_why (d : Nat) (s : zS) (hw : s_wf s) (I : zI) (J : zJ) (hc : cI s I J) (x y : Int32) : z_C yX3_why cX3_why 3 (some .long) (d + 4) [.ref 1, .int x, .int y] (z_s (s_nl s)) I J 0 0 (z_q (some (.long (r_why s x y))) (z_s (s_nl s)) I J) := by
  have w1 := hw.1
  have w2 := hw.2.1
  have c3 := hc.2.2.1
  have c8 := hc.2.2.2.2.2.2.2
  refine z_C.of (by decide) (Nat.le_of_ble_eq_true rfl) fun K E X => ?_
  refine v_aload_n E dX3_why_0 rfl ?_
  refine v_iload_n E dX3_why_1 rfl ?_
  refine v_iload_n E dX3_why_2 rfl ?_
  refine v_callV1 E dX3_why_3 k_X3_139 Y_X3_hasWorkedOut (m_hasWorkedOut d s hw I J hc x y) rfl rfl rfl (Nat.le_of_ble_eq_true rfl) ?_
  refine v_if_eqB (tgt := 31) E dX3_why_6 (by decide)  (fun e => ?_) (fun e => ?_)
  · refine v_ldc2_w E dX3_why_31 n_X3_145 ?_
    exact v_lret E X dX3_why_34 (z_ql (by unfold r_why; rw [e]; rfl))
  · have e2 := e
    obtain ⟨l, p, hl, hp, rfl, rfl, ho⟩ := s_hwo_true hw e
    refine v_aload_n E dX3_why_9 rfl ?_
    refine v_getR E f_X3_16 dX3_why_10 rfl rfl rfl ?_
    refine v_iload_n E dX3_why_13 rfl ?_
    refine v_callV1 E dX3_why_14 k_X3_74 Y_Jx4a65c_get_915e3 (m_get (d + 1) (s_nl s) I J c3 l hl w2) rfl rfl rfl (Nat.le_of_ble_eq_true rfl) ?_
    refine v_checkcast E dX3_why_17 c_X3_62 (by decide) (v_cc hl) ?_
    refine v_getR E f_X3_126 dX3_why_20 (v_cc hl) rfl (z_ls hl).2.2.2.2 ?_
    refine v_getR E f_X3_142 dX3_why_23 (z_ls hl).2.2.1.1 rfl (z_ls hl).2.2.1.2.2.2.2 ?_
    refine v_iload_n E dX3_why_26 rfl ?_
    refine v_laloadE E dX3_why_27 (z_ls hl).2.2.1.2.2.1 rfl (by omega) (by decide) ((c8 l hl).2.2.2.2.2.2.2.2.2 p (by omega)) ?_
    refine v_goto (tgt := 34) E dX3_why_28 (by decide) ?_
    exact v_lret E X dX3_why_34 (z_ql (by unfold r_why; rw [e2, nI_clamp (by omega), nI_clamp (by omega)]; rfl))
theorem m_left (d : Nat) (s : zS) (hw : s_wf s) (I : zI) (J : zJ) (hc : cI s I J) : z_C yX3_left cX3_left 1 (some .int) (d + 5) [.ref 1] (z_s (s_nl s)) I J 0 0 (z_q (some (.int (r_left s))) (z_s (s_nl s)) I J) := by
  have c3 := hc.2.2.1
  have hle := l_cnt_le (s_sv s) (s_nl s)
  refine z_C.of (by decide) (Nat.le_of_ble_eq_true rfl) fun K E X => ?_
  refine v_aload_n E dX3_left_0 rfl ?_
  refine v_getR E f_X3_16 dX3_left_1 rfl rfl rfl ?_
  refine v_callV1 E dX3_left_4 k_X3_58 Y_Jx4a65c_size_8abf5 (m_size (d + 4) (s_nl s) I J c3) rfl rfl rfl (Nat.le_of_ble_eq_true rfl) ?_
  refine v_aload_n E dX3_left_7 rfl ?_
  refine v_callV1 E dX3_left_8 k_X3_153 Y_X3_servedCount (m_servedCount d s hw I J hc) rfl rfl rfl (Nat.le_of_ble_eq_true rfl) ?_
  refine v_isubN E dX3_left_11 (by omega) ?_
  exact v_iret E X dX3_left_12 z_qq
theorem m_count (d : Nat) (s : zS) (hw : s_wf s) (I : zI) (J : zJ) (hc : cI s I J) (x : Int32) : z_C yX3_count cX3_count 2 (some .int) (d + 5) [.ref 1, .int x] (z_s (s_nl s)) I J 0 0 (z_q (some (.int (r_count s x))) (z_s (s_nl s)) I J) := by
  have c1 := hc.1
  have c2 := hc.2.1
  have c3 := hc.2.2.1
  refine z_C.of (by decide) (Nat.le_of_ble_eq_true rfl) fun K E X => ?_
  refine v_iload_n E dX3_count_0 rfl ?_
  cases e2 : z_isx x 5 with
  | false =>
    refine v_tableOut (tgt := 64) E dX3_count_1 (by have := z_out (by decide) e2; omega) (by decide) ?_
    refine v_iconst (v := -1) E dX3_count_64 (by decide) ?_
    exact v_iret E X dX3_count_65 (z_qi (by unfold r_count; rw [e2]; rfl))
  | true =>
    have e5 := e2
    obtain ⟨w, hw1, rfl⟩ := z_isx_true (by decide) e2
    rcases (show w = 0 ∨ w = 1 ∨ w = 2 ∨ w = 3 ∨ w = 4 by omega) with rfl | rfl | rfl | rfl | rfl
    · refine v_tableIn (off := 35) (tgt := 36) E dX3_count_1 (by decide) (by decide) (by decide) (by decide) ?_
      refine v_aload_n E dX3_count_36 rfl ?_
      refine v_getIE E f_X3_51 dX3_count_37 rfl rfl c1 ?_
      exact v_iret E X dX3_count_40 (z_qi (by unfold r_count; rw [e5]; rfl))
    · refine v_tableIn (off := 40) (tgt := 41) E dX3_count_1 (by decide) (by decide) (by decide) (by decide) ?_
      refine v_aload_n E dX3_count_41 rfl ?_
      refine v_getR E f_X3_16 dX3_count_42 rfl rfl rfl ?_
      refine v_callV1 E dX3_count_45 k_X3_58 Y_Jx4a65c_size_8abf5 (m_size (d + 4) (s_nl s) I J c3) rfl rfl rfl (Nat.le_of_ble_eq_true rfl) ?_
      exact v_iret E X dX3_count_48 (z_qi (by unfold r_count; rw [e5]; rfl))
    · refine v_tableIn (off := 48) (tgt := 49) E dX3_count_1 (by decide) (by decide) (by decide) (by decide) ?_
      refine v_aload_n E dX3_count_49 rfl ?_
      refine v_getIE E f_X3_47 dX3_count_50 rfl rfl c2 ?_
      exact v_iret E X dX3_count_53 (z_qi (by unfold r_count; rw [e5]; rfl))
    · refine v_tableIn (off := 53) (tgt := 54) E dX3_count_1 (by decide) (by decide) (by decide) (by decide) ?_
      refine v_aload_n E dX3_count_54 rfl ?_
      refine v_callV1 E dX3_count_55 k_X3_153 Y_X3_servedCount (m_servedCount d s hw I J hc) rfl rfl rfl (Nat.le_of_ble_eq_true rfl) ?_
      exact v_iret E X dX3_count_58 (z_qi (by unfold r_count; rw [e5]; rfl))
    · refine v_tableIn (off := 58) (tgt := 59) E dX3_count_1 (by decide) (by decide) (by decide) (by decide) ?_
      refine v_aload_n E dX3_count_59 rfl ?_
      refine v_callV1 E dX3_count_60 k_X3_195 Y_X3_rankOfAll (m_rankOfAll (d + 1) s hw I J hc) rfl rfl rfl (Nat.le_of_ble_eq_true rfl) ?_
      exact v_iret E X dX3_count_63 (z_qi (by unfold r_count; rw [e5]; rfl))
end
